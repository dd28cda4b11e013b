theorem g_X2_184 : GoodIn wsAll (wsV RX2 184 RX1 yX1_add wsX1_add) := z_good (show ∀ w ∈ (Cond.methodLink RX2 184 yX1_add :: Cond.instanceMethod yX1_add :: Cond.selects RX1 yX1_add yX1_add :: Cond.initialized RX1 :: Cond.code yX1_add prog_3_method_3_code 4 none :: wsAll), w ∈ wsAll from List.forall_mem_cons.mpr ⟨wm_320, List.forall_mem_cons.mpr ⟨wm_321, List.forall_mem_cons.mpr ⟨wm_322, List.forall_mem_cons.mpr ⟨wm_112, List.forall_mem_cons.mpr ⟨wm_323, fun _ h => h⟩⟩⟩⟩⟩)
theorem g_X2_187 : GoodIn wsAll (wsV RX2 187 RX2 yX2_carve wsX2_carve) := z_good (show ∀ w ∈ (Cond.methodLink RX2 187 yX2_carve :: Cond.instanceMethod yX2_carve :: Cond.selects RX2 yX2_carve yX2_carve :: Cond.initialized RX2 :: Cond.code yX2_carve prog_1_method_29_code 11 none :: wsAll), w ∈ wsAll from List.forall_mem_cons.mpr ⟨wm_327, List.forall_mem_cons.mpr ⟨wm_328, List.forall_mem_cons.mpr ⟨wm_568, List.forall_mem_cons.mpr ⟨wm_109, List.forall_mem_cons.mpr ⟨wm_329, fun _ h => h⟩⟩⟩⟩⟩)
abbrev r_X2_goAlongLevel : Room := { frames := 3, cells := 0, slots := 0, locals := 74 }
set_option maxHeartbeats 4000000 in
set_option maxRecDepth 100000 in
theorem lp_X2_goAlongLevel_29 {p : Program} {l : Launch} {e : Env} {s : State} {m : MethodId} {args : Array Value} {below : List Frame} {meth : Method} {c : Code} {Q : State → Prop} {A : Nat → Prop} {dC : Nat → ClassId} {dI : Nat → Nat → Nat} (a : Nat → Nat) (cA : Nat → ClassId) (w h : Nat) (wa ka li : Nat → Int) (hk sh : Int) (kd rd : Nat → Int) (dp : Nat → Nat → Int) (q : TK × (Nat → Int)) (j : Nat) (z st sk g u M : Int) (hx : p.tables.exec = Jvm.exec) (hb : c.code = cX2_goAlongLevel) (hml : c.maxLocals = 10) (hown : s.vm.findClass RX2 = some m.cls) (hts : ∀ w ∈ wsAll, w.before args s = true) (hA : ∀ q : Nat, s.heap.size ≤ q → A q) (hZ : zZ A s s.heap) (hK : va_K (dC, dI) vwCl (rpT cA) s) (hw : 1 ≤ w ∧ w ≤ 20) (hh : 1 ≤ h ∧ h ≤ 20) (hj : j < 4) (hrd : 0 ≤ rd j ∧ rd j ≤ 5) (hdp : bd (dp j) (-1) 5) (hli : bd li 0 1000) (hz : 0 ≤ z ∧ z ≤ 1000) (hst : 1 ≤ st ∧ st ≤ 1000) (hsk : 0 ≤ sk ∧ sk ≤ 1000) (hq1 : tkOK q.1 M) (hq2 : bd q.2 0 1000) (hM : 0 ≤ M ∧ M ≤ 2000000000) (hu : 0 ≤ u ∧ u < (h : Int)) (kk : ∀ (H : Heap) (locs : List Loc) (ls : Array Slot), va_P (dC, dI) vwCl (rpW a cA w h wa ((lvR w h li (dp j) (rd j) z st sk u w q).2) ka li hk sh ((lvR w h li (dp j) (rd j) z st sk u w q).1) kd rd dp) H → va_D A (rpW a cA w h wa ((lvR w h li (dp j) (rd j) z st sk u w q).2) ka li hk sh ((lvR w h li (dp j) (rd j) z st sk u w q).1) kd rd dp) → va_S A s.heap H locs → lv_has ls 10 [(0, .ref (a 0)), (1, .ref (a (8 + j))), (2, .int (iI z)), (3, .int (iI st)), (4, .int (iI sk)), (5, .int (iI g)), (6, .int (iI (z - st))), (7, .int (iI u)), (8, .int (iI ((w : Nat) : Int)))] → W p l e r_X2_goAlongLevel s m args below meth c H locs 0 0 Q (F0 m 102 ls [])) : ∀ (n i : Nat), i + n = w → ∀ (H : Heap) (locs : List Loc) (ls : Array Slot), va_P (dC, dI) vwCl (rpW a cA w h wa ((lvR w h li (dp j) (rd j) z st sk u i q).2) ka li hk sh ((lvR w h li (dp j) (rd j) z st sk u i q).1) kd rd dp) H → va_D A (rpW a cA w h wa ((lvR w h li (dp j) (rd j) z st sk u i q).2) ka li hk sh ((lvR w h li (dp j) (rd j) z st sk u i q).1) kd rd dp) → va_S A s.heap H locs → lv_has ls 10 [(0, .ref (a 0)), (1, .ref (a (8 + j))), (2, .int (iI z)), (3, .int (iI st)), (4, .int (iI sk)), (5, .int (iI g)), (6, .int (iI (z - st))), (7, .int (iI u)), (8, .int (iI ((i : Nat) : Int)))] → W p l e r_X2_goAlongLevel s m args below meth c H locs 0 0 Q (F0 m 29 ls []) := by
  intro n
  induction n with
  | zero =>
    intro i hi H locs ls hP hD hS hl
    have hi9 : w = i := by omega
    subst hi9
    refine lv_iload hx hb dX2_goAlongLevel_29 (lv_at hl 8 rfl) ?_
    refine lv_aload_n hx hb dX2_goAlongLevel_31 rfl (lv_at hl 0 rfl) ?_
    refine va_get (D := (dC, dI)) (ci := 2) (v := .int (iI (w : Int))) (C := RX2) (T := TX2) (N := 10) hx hb hts inX2 hown hK hP 0 rfl rfl 0 (by decide) (hts _ wm_171) (fun _ h9 => h9) rfl dX2_goAlongLevel_32 ?_
    refine z_icmp_ge (tgt := 102) hx hb dX2_goAlongLevel_35 (by decide) (by omega) (by omega) (fun c35 => ?_) (fun c35 => by exfalso; omega)
    exact kk _ _ _ hP hD hS (lv_sub hl [0, 1, 2, 3, 4, 5, 6, 7, 8] rfl)
  | succ n ih =>
    intro i hi H locs ls hP hD hS hl
    have hwh := z_wh hw.2 hh.2
    have hQ := lvR_ok (w := w) (h := h) (li := li) (r := rd j) (st := st) (sk := sk) (y := u) (n := i) (M := M) (by omega) ⟨hu.1, by omega⟩ hz hdp hq1 hq2
    have hT := hQ.1
    have hlb := hli (u * (w : Int) + ((i : Nat) : Int)).toNat
    refine lv_iload hx hb dX2_goAlongLevel_29 (lv_at hl 8 rfl) ?_
    refine lv_aload_n hx hb dX2_goAlongLevel_31 rfl (lv_at hl 0 rfl) ?_
    refine va_get (D := (dC, dI)) (ci := 2) (v := .int (iI (w : Int))) (C := RX2) (T := TX2) (N := 10) hx hb hts inX2 hown hK hP 0 rfl rfl 0 (by decide) (hts _ wm_171) (fun _ h9 => h9) rfl dX2_goAlongLevel_32 ?_
    refine z_icmp_ge (tgt := 102) hx hb dX2_goAlongLevel_35 (by decide) (by omega) (by omega) (fun c35 => by exfalso; omega) (fun c35 => ?_)
    refine lv_aload_n hx hb dX2_goAlongLevel_38 rfl (lv_at hl 0 rfl) ?_
    refine va_get (D := (dC, dI)) (ci := 2) (v := .ref (a 4)) (C := RX2) (T := TX2) (N := 10) hx hb hts inX2 hown hK hP 0 rfl rfl 5 (by decide) (hts _ wm_176) (fun _ h9 => h9) rfl dX2_goAlongLevel_39 ?_
    refine lv_aload_n hx hb dX2_goAlongLevel_42 rfl (lv_at hl 0 rfl) ?_
    refine lv_iload hx hb dX2_goAlongLevel_43 (lv_at hl 8 rfl) ?_
    refine lv_iload hx hb dX2_goAlongLevel_45 (lv_at hl 7 rfl) ?_
    have hFc := z_freeR (wc := rpW a cA w h wa ((lvR w h li (dp j) (rd j) z st sk u i q).2) ka li hk sh ((lvR w h li (dp j) (rd j) z st sk u i q).1) kd rd dp) (fun _ h => h) hD hS hA
    refine z_wcalli (va_runV (As := [.int (iI ((i : Nat) : Int)), .int (iI u)]) (rest := [.ref (a 4)]) ⟨hx, hb, hml, hown, hts⟩ (c_X2_placeAt l dC dI (H).size a cA w h wa ((lvR w h li (dp j) (rd j) z st sk u i q).2) ka li hk sh ((lvR w h li (dp j) (rd j) z st sk u i q).1) kd rd dp ((i : Nat) : Int) u) (cwV 2 hts g_X2_68 rfl rfl rfl (by decide +kernel) ⟨Nat.le_of_ble_eq_true rfl, Nat.le_of_ble_eq_true rfl⟩) (zP_V (ci := 2) (q0 := 0) rfl rfl hP hK hD hS hFc hZ) rfl rfl hl.1 rfl (lv_room (Nat.le_of_ble_eq_true rfl)) dX2_goAlongLevel_47 ⟨Nat.le_of_ble_eq_true rfl, Nat.le_of_ble_eq_true rfl⟩) hS hFc (fun H locs _ hP hD hS _ => ?_)
    have hP : va_P (dC, dI) vwCl (rpW a cA w h wa ((lvR w h li (dp j) (rd j) z st sk u i q).2) ka li hk sh ((lvR w h li (dp j) (rd j) z st sk u i q).1) kd rd dp) H := hP
    have hD : va_D A (rpW a cA w h wa ((lvR w h li (dp j) (rd j) z st sk u i q).2) ka li hk sh ((lvR w h li (dp j) (rd j) z st sk u i q).1) kd rd dp) := hD
    refine z_iald (f := li) (i := u * (w : Int) + ((i : Nat) : Int)) hx hb hK hP 4 3 rfl rfl (z_ix (w := w) (h := h) (by omega) (by omega) hu.1 hu.2) (by omega) dX2_goAlongLevel_50 ?_
    refine lv_iload hx hb dX2_goAlongLevel_51 (lv_at hl 4 rfl) ?_
    refine z_add hx hb dX2_goAlongLevel_53 ?_
    refine lv_istore (lv' := [(9, .int (iI ((li (u * (w : Int) + ((i : Nat) : Int)).toNat) + sk))), (0, .ref (a 0)), (1, .ref (a (8 + j))), (2, .int (iI z)), (3, .int (iI st)), (4, .int (iI sk)), (5, .int (iI g)), (6, .int (iI (z - st))), (7, .int (iI u)), (8, .int (iI ((i : Nat) : Int)))]) hx hb dX2_goAlongLevel_54 hl (by decide) rfl (fun ls hl => ?_)
    refine lv_iload hx hb dX2_goAlongLevel_56 (lv_at hl 0 rfl) ?_
    refine lv_iload_n hx hb dX2_goAlongLevel_58 rfl (lv_at hl 3 rfl) ?_
    refine z_icmp_gt (tgt := 96) hx hb dX2_goAlongLevel_59 (by decide) (by omega) (by omega) (fun c59 => ?_) (fun c59 => ?_)
    · refine lv_iinc (v := iI (((i + 1) : Nat) : Int)) (lv' := [(8, .int (iI (((i + 1) : Nat) : Int))), (9, .int (iI ((li (u * (w : Int) + ((i : Nat) : Int)).toNat) + sk))), (0, .ref (a 0)), (1, .ref (a (8 + j))), (2, .int (iI z)), (3, .int (iI st)), (4, .int (iI sk)), (5, .int (iI g)), (6, .int (iI (z - st))), (7, .int (iI u))]) hx hb dX2_goAlongLevel_96 hl (k := 9) rfl ((iI_add _ _).trans (congrArg iI (by omega))) (by decide) rfl (fun ls hl => ?_)
      refine lv_goto (tgt := 29) hx hb dX2_goAlongLevel_99 (by decide) ?_
      have eg : lvR w h li (dp j) (rd j) z st sk u (i + 1) q = ((lvR w h li (dp j) (rd j) z st sk u i q).1, (lvR w h li (dp j) (rd j) z st sk u i q).2) := by
        show lvS w h li (dp j) (rd j) z st sk ((i : Nat) : Int) u (lvR w h li (dp j) (rd j) z st sk u i q) = _
        unfold lvS
        (repeat' split) <;> first | rfl | (exfalso; omega)
      exact ih (i + 1) (by omega) _ _ _ (by rw [eg]; exact hP) (by rw [eg]; exact hD) hS (lv_sub hl [2, 3, 4, 5, 6, 7, 8, 9, 0] rfl)
    · refine lv_aload_n hx hb dX2_goAlongLevel_62 rfl (lv_at hl 1 rfl) ?_
      refine va_get (D := (dC, dI)) (ci := 2) (v := .ref (a 6)) (C := RX2) (T := TX2) (N := 10) hx hb hts inX2 hown hK hP 0 rfl rfl 7 (by decide) (hts _ wm_178) (fun _ h9 => h9) rfl dX2_goAlongLevel_63 ?_
      refine lv_iload hx hb dX2_goAlongLevel_66 (lv_at hl 9 rfl) ?_
      refine lv_iload hx hb dX2_goAlongLevel_68 (lv_at hl 8 rfl) ?_
      refine lv_iload_n hx hb dX2_goAlongLevel_70 rfl (lv_at hl 3 rfl) ?_
      have hPc := hP.sub (ws' := tkW (a 6) (a 7) (cA 5) ((lvR w h li (dp j) (rd j) z st sk u i q).1)) [6, 7] rfl
      have hDc := hD.sub (ws' := tkW (a 6) (a 7) (cA 5) ((lvR w h li (dp j) (rd j) z st sk u i q).1)) [6, 7] (by decide) rfl
      have hKc := hK.sub (tys' := [((cA 5), .int)]) [5] rfl
      have hFc := va_free (wc := tkW (a 6) (a 7) (cA 5) ((lvR w h li (dp j) (rd j) z st sk u i q).1)) hD hS hA [6, 7] rfl
      refine z_callv (ws' := rpW a cA w h wa ((lvR w h li (dp j) (rd j) z st sk u i q).2) ka li hk sh (tkA ((i : Nat) : Int) u z ((lvR w h li (dp j) (rd j) z st sk u i q).1)) kd rd dp) (wr := [0, 1, 2, 3, 4, 5, 8, 9, 10, 11, 12, 13, 14, 15].filterMap (fun z9 => (rpW a cA w h wa ((lvR w h li (dp j) (rd j) z st sk u i q).2) ka li hk sh ((lvR w h li (dp j) (rd j) z st sk u i q).1) kd rd dp)[z9]?)) (va_runV (As := [.int (iI ((i : Nat) : Int)), .int (iI u), .int (iI z)]) (rest := []) ⟨hx, hb, hml, hown, hts⟩ (c_X1_add l dC dI (H).size (a 6) (a 7) (cA 5) ((lvR w h li (dp j) (rd j) z st sk u i q).1) ((i : Nat) : Int) u z ⟨hT.1.1, by have := hT.1.2; omega⟩ hT.2.1 hT.2.2.1 hT.2.2.2.1 (by omega) (by omega) (by omega)) (cwV 3 hts g_X2_184 rfl rfl rfl (by decide +kernel) ⟨Nat.le_of_ble_eq_true rfl, Nat.le_of_ble_eq_true rfl⟩) (zP_V (ci := 1) (q0 := 0) rfl rfl hPc hKc hDc hS hFc hZ) rfl rfl hl.1 rfl (lv_room (Nat.le_of_ble_eq_true rfl)) dX2_goAlongLevel_71 ⟨Nat.le_of_ble_eq_true rfl, Nat.le_of_ble_eq_true rfl⟩) hP hD hS hFc [6, 7] [0, 1, 2, 3, 4, 5, 8, 9, 10, 11, 12, 13, 14, 15] [0, 1, 2, 3, 4, 5, 14, 15, 6, 7, 8, 9, 10, 11, 12, 13] rfl rfl (by decide) (by decide) rfl (by decide) (fun H locs _ hP hD hS _ => ?_)
      have hP : va_P (dC, dI) vwCl (rpW a cA w h wa ((lvR w h li (dp j) (rd j) z st sk u i q).2) ka li hk sh (tkA ((i : Nat) : Int) u z ((lvR w h li (dp j) (rd j) z st sk u i q).1)) kd rd dp) H := hP
      have hD : va_D A (rpW a cA w h wa ((lvR w h li (dp j) (rd j) z st sk u i q).2) ka li hk sh (tkA ((i : Nat) : Int) u z ((lvR w h li (dp j) (rd j) z st sk u i q).1)) kd rd dp) := hD
      refine lv_iload hx hb dX2_goAlongLevel_74 (lv_at hl 7 rfl) ?_
      refine z_if_le (tgt := 86) hx hb dX2_goAlongLevel_76 (by decide) (by omega) (fun c76 => ?_) (fun c76 => ?_)
      · refine lv_aload_n hx hb dX2_goAlongLevel_86 rfl (lv_at hl 1 rfl) ?_
        refine lv_aload_n hx hb dX2_goAlongLevel_87 rfl (lv_at hl 2 rfl) ?_
        refine lv_iload hx hb dX2_goAlongLevel_88 (lv_at hl 9 rfl) ?_
        refine lv_iload hx hb dX2_goAlongLevel_90 (lv_at hl 8 rfl) ?_
        refine lv_iload_n hx hb dX2_goAlongLevel_92 rfl (lv_at hl 3 rfl) ?_
        have hFc := z_freeR (wc := rpW a cA w h wa ((lvR w h li (dp j) (rd j) z st sk u i q).2) ka li hk sh (tkA ((i : Nat) : Int) u z ((lvR w h li (dp j) (rd j) z st sk u i q).1)) kd rd dp) (fun _ h => h) hD hS hA
        refine z_wcallv (va_runV (As := [.ref (a (8 + j)), .int (iI ((i : Nat) : Int)), .int (iI u), .int (iI z)]) (rest := []) ⟨hx, hb, hml, hown, hts⟩ (c_X2_carve l dC dI (H).size a cA w h wa ((lvR w h li (dp j) (rd j) z st sk u i q).2) ka li hk sh (tkA ((i : Nat) : Int) u z ((lvR w h li (dp j) (rd j) z st sk u i q).1)) kd rd dp j ((i : Nat) : Int) u z hw hh hj hrd (by omega) (by omega) hdp (by omega) hQ.2) (cwV 4 hts g_X2_187 rfl rfl rfl (by decide +kernel) ⟨Nat.le_of_ble_eq_true rfl, Nat.le_of_ble_eq_true rfl⟩) (zP_V (ci := 2) (q0 := 0) rfl rfl hP hK hD hS hFc hZ) rfl rfl hl.1 rfl (lv_room (Nat.le_of_ble_eq_true rfl)) dX2_goAlongLevel_93 ⟨Nat.le_of_ble_eq_true rfl, Nat.le_of_ble_eq_true rfl⟩) hS hFc (fun H locs _ hP hD hS _ => ?_)
        have hP : va_P (dC, dI) vwCl (rpW a cA w h wa (cvF w h (dp j) (rd j) ((i : Nat) : Int) u z (nB h (rd j) u) ((lvR w h li (dp j) (rd j) z st sk u i q).2)) ka li hk sh (tkA ((i : Nat) : Int) u z ((lvR w h li (dp j) (rd j) z st sk u i q).1)) kd rd dp) H := hP
        have hD : va_D A (rpW a cA w h wa (cvF w h (dp j) (rd j) ((i : Nat) : Int) u z (nB h (rd j) u) ((lvR w h li (dp j) (rd j) z st sk u i q).2)) ka li hk sh (tkA ((i : Nat) : Int) u z ((lvR w h li (dp j) (rd j) z st sk u i q).1)) kd rd dp) := hD
        refine lv_iinc (v := iI (((i + 1) : Nat) : Int)) (lv' := [(8, .int (iI (((i + 1) : Nat) : Int))), (9, .int (iI ((li (u * (w : Int) + ((i : Nat) : Int)).toNat) + sk))), (0, .ref (a 0)), (1, .ref (a (8 + j))), (2, .int (iI z)), (3, .int (iI st)), (4, .int (iI sk)), (5, .int (iI g)), (6, .int (iI (z - st))), (7, .int (iI u))]) hx hb dX2_goAlongLevel_96 hl (k := 9) rfl ((iI_add _ _).trans (congrArg iI (by omega))) (by decide) rfl (fun ls hl => ?_)
        refine lv_goto (tgt := 29) hx hb dX2_goAlongLevel_99 (by decide) ?_
        have eg : lvR w h li (dp j) (rd j) z st sk u (i + 1) q = (tkA ((i : Nat) : Int) u z ((lvR w h li (dp j) (rd j) z st sk u i q).1), cvF w h (dp j) (rd j) ((i : Nat) : Int) u z (nB h (rd j) u) ((lvR w h li (dp j) (rd j) z st sk u i q).2)) := by
          show lvS w h li (dp j) (rd j) z st sk ((i : Nat) : Int) u (lvR w h li (dp j) (rd j) z st sk u i q) = _
          unfold lvS
          (repeat' split) <;> first | rfl | (exfalso; omega)
        exact ih (i + 1) (by omega) _ _ _ (by rw [eg]; exact hP) (by rw [eg]; exact hD) hS (lv_sub hl [2, 3, 4, 5, 6, 7, 8, 9, 0] rfl)
      · refine lv_iload hx hb dX2_goAlongLevel_79 (lv_at hl 7 rfl) ?_
        refine lv_iload hx hb dX2_goAlongLevel_81 (lv_at hl 0 rfl) ?_
        refine z_icmp_ge (tgt := 96) hx hb dX2_goAlongLevel_83 (by decide) (by omega) (by omega) (fun c83 => ?_) (fun c83 => ?_)
        · refine lv_iinc (v := iI (((i + 1) : Nat) : Int)) (lv' := [(8, .int (iI (((i + 1) : Nat) : Int))), (9, .int (iI ((li (u * (w : Int) + ((i : Nat) : Int)).toNat) + sk))), (0, .ref (a 0)), (1, .ref (a (8 + j))), (2, .int (iI z)), (3, .int (iI st)), (4, .int (iI sk)), (5, .int (iI g)), (6, .int (iI (z - st))), (7, .int (iI u))]) hx hb dX2_goAlongLevel_96 hl (k := 9) rfl ((iI_add _ _).trans (congrArg iI (by omega))) (by decide) rfl (fun ls hl => ?_)
          refine lv_goto (tgt := 29) hx hb dX2_goAlongLevel_99 (by decide) ?_
          have eg : lvR w h li (dp j) (rd j) z st sk u (i + 1) q = (tkA ((i : Nat) : Int) u z ((lvR w h li (dp j) (rd j) z st sk u i q).1), (lvR w h li (dp j) (rd j) z st sk u i q).2) := by
            show lvS w h li (dp j) (rd j) z st sk ((i : Nat) : Int) u (lvR w h li (dp j) (rd j) z st sk u i q) = _
            unfold lvS
            (repeat' split) <;> first | rfl | (exfalso; omega)
          exact ih (i + 1) (by omega) _ _ _ (by rw [eg]; exact hP) (by rw [eg]; exact hD) hS (lv_sub hl [2, 3, 4, 5, 6, 7, 8, 9, 0] rfl)
        · refine lv_aload_n hx hb dX2_goAlongLevel_86 rfl (lv_at hl 1 rfl) ?_
          refine lv_aload_n hx hb dX2_goAlongLevel_87 rfl (lv_at hl 2 rfl) ?_
          refine lv_iload hx hb dX2_goAlongLevel_88 (lv_at hl 9 rfl) ?_
          refine lv_iload hx hb dX2_goAlongLevel_90 (lv_at hl 8 rfl) ?_
          refine lv_iload_n hx hb dX2_goAlongLevel_92 rfl (lv_at hl 3 rfl) ?_
          have hFc := z_freeR (wc := rpW a cA w h wa ((lvR w h li (dp j) (rd j) z st sk u i q).2) ka li hk sh (tkA ((i : Nat) : Int) u z ((lvR w h li (dp j) (rd j) z st sk u i q).1)) kd rd dp) (fun _ h => h) hD hS hA
          refine z_wcallv (va_runV (As := [.ref (a (8 + j)), .int (iI ((i : Nat) : Int)), .int (iI u), .int (iI z)]) (rest := []) ⟨hx, hb, hml, hown, hts⟩ (c_X2_carve l dC dI (H).size a cA w h wa ((lvR w h li (dp j) (rd j) z st sk u i q).2) ka li hk sh (tkA ((i : Nat) : Int) u z ((lvR w h li (dp j) (rd j) z st sk u i q).1)) kd rd dp j ((i : Nat) : Int) u z hw hh hj hrd (by omega) (by omega) hdp (by omega) hQ.2) (cwV 4 hts g_X2_187 rfl rfl rfl (by decide +kernel) ⟨Nat.le_of_ble_eq_true rfl, Nat.le_of_ble_eq_true rfl⟩) (zP_V (ci := 2) (q0 := 0) rfl rfl hP hK hD hS hFc hZ) rfl rfl hl.1 rfl (lv_room (Nat.le_of_ble_eq_true rfl)) dX2_goAlongLevel_93 ⟨Nat.le_of_ble_eq_true rfl, Nat.le_of_ble_eq_true rfl⟩) hS hFc (fun H locs _ hP hD hS _ => ?_)
          have hP : va_P (dC, dI) vwCl (rpW a cA w h wa (cvF w h (dp j) (rd j) ((i : Nat) : Int) u z (nB h (rd j) u) ((lvR w h li (dp j) (rd j) z st sk u i q).2)) ka li hk sh (tkA ((i : Nat) : Int) u z ((lvR w h li (dp j) (rd j) z st sk u i q).1)) kd rd dp) H := hP
          have hD : va_D A (rpW a cA w h wa (cvF w h (dp j) (rd j) ((i : Nat) : Int) u z (nB h (rd j) u) ((lvR w h li (dp j) (rd j) z st sk u i q).2)) ka li hk sh (tkA ((i : Nat) : Int) u z ((lvR w h li (dp j) (rd j) z st sk u i q).1)) kd rd dp) := hD
          refine lv_iinc (v := iI (((i + 1) : Nat) : Int)) (lv' := [(8, .int (iI (((i + 1) : Nat) : Int))), (9, .int (iI ((li (u * (w : Int) + ((i : Nat) : Int)).toNat) + sk))), (0, .ref (a 0)), (1, .ref (a (8 + j))), (2, .int (iI z)), (3, .int (iI st)), (4, .int (iI sk)), (5, .int (iI g)), (6, .int (iI (z - st))), (7, .int (iI u))]) hx hb dX2_goAlongLevel_96 hl (k := 9) rfl ((iI_add _ _).trans (congrArg iI (by omega))) (by decide) rfl (fun ls hl => ?_)
          refine lv_goto (tgt := 29) hx hb dX2_goAlongLevel_99 (by decide) ?_
          have eg : lvR w h li (dp j) (rd j) z st sk u (i + 1) q = (tkA ((i : Nat) : Int) u z ((lvR w h li (dp j) (rd j) z st sk u i q).1), cvF w h (dp j) (rd j) ((i : Nat) : Int) u z (nB h (rd j) u) ((lvR w h li (dp j) (rd j) z st sk u i q).2)) := by
            show lvS w h li (dp j) (rd j) z st sk ((i : Nat) : Int) u (lvR w h li (dp j) (rd j) z st sk u i q) = _
            unfold lvS
            (repeat' split) <;> first | rfl | (exfalso; omega)
          exact ih (i + 1) (by omega) _ _ _ (by rw [eg]; exact hP) (by rw [eg]; exact hD) hS (lv_sub hl [2, 3, 4, 5, 6, 7, 8, 9, 0] rfl)
set_option maxHeartbeats 4000000 in
set_option maxRecDepth 100000 in
theorem lp_X2_goAlongLevel_17 {p : Program} {l : Launch} {e : Env} {s : State} {m : MethodId} {args : Array Value} {below : List Frame} {meth : Method} {c : Code} {Q : State → Prop} {A : Nat → Prop} {dC : Nat → ClassId} {dI : Nat → Nat → Nat} (a : Nat → Nat) (cA : Nat → ClassId) (w h : Nat) (wa ka li : Nat → Int) (hk sh : Int) (kd rd : Nat → Int) (dp : Nat → Nat → Int) (q : TK × (Nat → Int)) (j : Nat) (z st sk g M : Int) (hx : p.tables.exec = Jvm.exec) (hb : c.code = cX2_goAlongLevel) (hml : c.maxLocals = 10) (hown : s.vm.findClass RX2 = some m.cls) (hts : ∀ w ∈ wsAll, w.before args s = true) (hA : ∀ q : Nat, s.heap.size ≤ q → A q) (hZ : zZ A s s.heap) (hK : va_K (dC, dI) vwCl (rpT cA) s) (hw : 1 ≤ w ∧ w ≤ 20) (hh : 1 ≤ h ∧ h ≤ 20) (hj : j < 4) (hrd : 0 ≤ rd j ∧ rd j ≤ 5) (hdp : bd (dp j) (-1) 5) (hli : bd li 0 1000) (hz : 0 ≤ z ∧ z ≤ 1000) (hst : 1 ≤ st ∧ st ≤ 1000) (hsk : 0 ≤ sk ∧ sk ≤ 1000) (hq1 : tkOK q.1 M) (hq2 : bd q.2 0 1000) (hM : 0 ≤ M ∧ M ≤ 1000000000) (kk : ∀ (H : Heap) (locs : List Loc) (ls : Array Slot), va_P (dC, dI) vwCl (rpW a cA w h wa ((lvF w h li (dp j) (rd j) z st sk h q).2) ka li hk sh ((lvF w h li (dp j) (rd j) z st sk h q).1) kd rd dp) H → va_D A (rpW a cA w h wa ((lvF w h li (dp j) (rd j) z st sk h q).2) ka li hk sh ((lvF w h li (dp j) (rd j) z st sk h q).1) kd rd dp) → va_S A s.heap H locs → lv_has ls 10 [(0, .ref (a 0)), (1, .ref (a (8 + j))), (2, .int (iI z)), (3, .int (iI st)), (4, .int (iI sk)), (5, .int (iI g)), (6, .int (iI (z - st))), (7, .int (iI ((h : Nat) : Int)))] → W p l e r_X2_goAlongLevel s m args below meth c H locs 0 0 Q (F0 m 108 ls [])) : ∀ (n i : Nat), i + n = h → ∀ (H : Heap) (locs : List Loc) (ls : Array Slot), va_P (dC, dI) vwCl (rpW a cA w h wa ((lvF w h li (dp j) (rd j) z st sk i q).2) ka li hk sh ((lvF w h li (dp j) (rd j) z st sk i q).1) kd rd dp) H → va_D A (rpW a cA w h wa ((lvF w h li (dp j) (rd j) z st sk i q).2) ka li hk sh ((lvF w h li (dp j) (rd j) z st sk i q).1) kd rd dp) → va_S A s.heap H locs → lv_has ls 10 [(0, .ref (a 0)), (1, .ref (a (8 + j))), (2, .int (iI z)), (3, .int (iI st)), (4, .int (iI sk)), (5, .int (iI g)), (6, .int (iI (z - st))), (7, .int (iI ((i : Nat) : Int)))] → W p l e r_X2_goAlongLevel s m args below meth c H locs 0 0 Q (F0 m 17 ls []) := by
  intro n
  induction n with
  | zero =>
    intro i hi H locs ls hP hD hS hl
    have hi9 : h = i := by omega
    subst hi9
    refine lv_iload hx hb dX2_goAlongLevel_17 (lv_at hl 7 rfl) ?_
    refine lv_aload_n hx hb dX2_goAlongLevel_19 rfl (lv_at hl 0 rfl) ?_
    refine va_get (D := (dC, dI)) (ci := 2) (v := .int (iI (h : Int))) (C := RX2) (T := TX2) (N := 10) hx hb hts inX2 hown hK hP 0 rfl rfl 1 (by decide) (hts _ wm_172) (fun _ h9 => h9) rfl dX2_goAlongLevel_20 ?_
    refine z_icmp_ge (tgt := 108) hx hb dX2_goAlongLevel_23 (by decide) (by omega) (by omega) (fun c23 => ?_) (fun c23 => by exfalso; omega)
    exact kk _ _ _ hP hD hS (lv_sub hl [0, 1, 2, 3, 4, 5, 6, 7] rfl)
  | succ n ih =>
    intro i hi H locs ls hP hD hS hl
    have hQ := lvF_ok (w := w) (h := h) (li := li) (r := rd j) (st := st) (sk := sk) (n := i) (M := M) (by omega) (by omega) hz hdp hq1 hq2
    refine lv_iload hx hb dX2_goAlongLevel_17 (lv_at hl 7 rfl) ?_
    refine lv_aload_n hx hb dX2_goAlongLevel_19 rfl (lv_at hl 0 rfl) ?_
    refine va_get (D := (dC, dI)) (ci := 2) (v := .int (iI (h : Int))) (C := RX2) (T := TX2) (N := 10) hx hb hts inX2 hown hK hP 0 rfl rfl 1 (by decide) (hts _ wm_172) (fun _ h9 => h9) rfl dX2_goAlongLevel_20 ?_
    refine z_icmp_ge (tgt := 108) hx hb dX2_goAlongLevel_23 (by decide) (by omega) (by omega) (fun c23 => by exfalso; omega) (fun c23 => ?_)
    refine lv_iconst (v := iI 0) hx hb dX2_goAlongLevel_26 rfl ?_
    refine lv_istore (lv' := [(8, .int (iI 0)), (0, .ref (a 0)), (1, .ref (a (8 + j))), (2, .int (iI z)), (3, .int (iI st)), (4, .int (iI sk)), (5, .int (iI g)), (6, .int (iI (z - st))), (7, .int (iI ((i : Nat) : Int)))]) hx hb dX2_goAlongLevel_27 hl (by decide) rfl (fun ls hl => ?_)
    refine lp_X2_goAlongLevel_29 a cA w h wa ka li hk sh kd rd dp (lvF w h li (dp j) (rd j) z st sk i q) j z st sk g ((i : Nat) : Int) (M + 20 * ((i : Nat) : Int)) hx hb hml hown hts hA hZ hK (hw) (hh) (hj) (hrd) (hdp) (hli) (hz) (hst) (hsk) (hQ.1) (hQ.2) (by omega) (by omega) (fun H locs ls hP hD hS hl => ?_)  w 0 (by omega) _ _ _ hP hD hS (lv_sub hl [1, 2, 3, 4, 5, 6, 7, 8, 0] rfl)
    have hP : va_P (dC, dI) vwCl (rpW a cA w h wa ((lvR w h li (dp j) (rd j) z st sk ((i : Nat) : Int) w (lvF w h li (dp j) (rd j) z st sk i q)).2) ka li hk sh ((lvR w h li (dp j) (rd j) z st sk ((i : Nat) : Int) w (lvF w h li (dp j) (rd j) z st sk i q)).1) kd rd dp) H := hP
    have hD : va_D A (rpW a cA w h wa ((lvR w h li (dp j) (rd j) z st sk ((i : Nat) : Int) w (lvF w h li (dp j) (rd j) z st sk i q)).2) ka li hk sh ((lvR w h li (dp j) (rd j) z st sk ((i : Nat) : Int) w (lvF w h li (dp j) (rd j) z st sk i q)).1) kd rd dp) := hD
    have hl : lv_has ls 10 [(0, .ref (a 0)), (1, .ref (a (8 + j))), (2, .int (iI z)), (3, .int (iI st)), (4, .int (iI sk)), (5, .int (iI g)), (6, .int (iI (z - st))), (7, .int (iI ((i : Nat) : Int))), (8, .int (iI ((w : Nat) : Int)))] := hl
    refine lv_iinc (v := iI (((i + 1) : Nat) : Int)) (lv' := [(7, .int (iI (((i + 1) : Nat) : Int))), (0, .ref (a 0)), (1, .ref (a (8 + j))), (2, .int (iI z)), (3, .int (iI st)), (4, .int (iI sk)), (5, .int (iI g)), (6, .int (iI (z - st))), (8, .int (iI ((w : Nat) : Int)))]) hx hb dX2_goAlongLevel_102 hl (k := 7) rfl ((iI_add _ _).trans (congrArg iI (by omega))) (by decide) rfl (fun ls hl => ?_)
    refine lv_goto (tgt := 17) hx hb dX2_goAlongLevel_105 (by decide) ?_
    exact ih (i + 1) (by omega) _ _ _ hP hD hS (lv_sub hl [1, 2, 3, 4, 5, 6, 7, 0] rfl)
set_option maxHeartbeats 4000000 in
set_option maxRecDepth 100000 in
theorem c_X2_goAlongLevel (l : Launch) (dC : Nat → ClassId) (dI : Nat → Nat → Nat) (sz : Nat) (a : Nat → Nat) (cA : Nat → ClassId) (w h : Nat) (wa ma ka li : Nat → Int) (hk sh : Int) (T : TK) (kd rd : Nat → Int) (dp : Nat → Nat → Int) (j : Nat) (z st sk M : Int) (hw : 1 ≤ w ∧ w ≤ 20) (hh : 1 ≤ h ∧ h ≤ 20) (hj : j < 4) (hrd : 0 ≤ rd j ∧ rd j ≤ 5) (hdp : bd (dp j) (-1) 5) (hli : bd li 0 1000) (hz : 0 ≤ z ∧ z ≤ 1000) (hst : 1 ≤ st ∧ st ≤ 1000) (hsk : 0 ≤ sk ∧ sk ≤ 1000) (hq1 : tkOK T M) (hq2 : bd ma 0 1000) (hM : 0 ≤ M ∧ M ≤ 1000000000) : Met l yX2_goAlongLevel wsX2_goAlongLevel r_X2_goAlongLevel (zP (dC, dI) vwCl (rpT cA) (rpW a cA w h wa ma ka li hk sh T kd rd dp) sz [.ref (a 0), .ref (a (8 + j)), .int (iI z), .int (iI st), .int (iI sk)]) (zQi (dC, dI) vwCl (rpT cA) (rpW a cA w h wa ma ka li hk sh T kd rd dp) sz (True) (if T.2.1 < (lvF w h li (dp j) (rd j) z st sk h (T, ma)).1.2.1 then 1 else 0) (rpW a cA w h wa ((lvF w h li (dp j) (rd j) z st sk h (T, ma)).2) ka li hk sh ((lvF w h li (dp j) (rd j) z st sk h (T, ma)).1) kd rd dp)) 0 0 (va_A (rpW a cA w h wa ma ka li hk sh T kd rd dp) sz) := by
  refine Met.ofW (cc := cX2_goAlongLevel) (maxL := 10) (ret := (some .boolean)) (by decide) rfl ?_
  intro p e s m args below meth c s₁ B hml hv
  obtain ⟨rfl, hsz, hP, hK, hD0, hZ⟩ := hv
  have hx := B.exec
  have hb := B.bytes
  have hr := B.returns
  have hts0 := atoms_spec (ws := wsX2_goAlongLevel) B.pre
  have hts : ∀ w ∈ wsAll, w.before _ s = true := fun w h => hts0 w (List.mem_cons_of_mem _ h)
  have hown : s.vm.findClass RX2 = some m.cls := findClass_of_methodNamed B.named
  have hlocks := B.notSynchronized
  subst hsz
  have hD := hD0.self (sz := s.heap.size)
  obtain ⟨A, hAe⟩ : ∃ A, A = va_A (rpW a cA w h wa ma ka li hk sh T kd rd dp) s.heap.size := ⟨_, rfl⟩
  rw [← hAe] at hD hZ
  have hA : ∀ q : Nat, s.heap.size ≤ q → A q := fun q h => by rw [hAe]; exact Or.inr h
  have hS : va_S A s.heap s.heap [] := va_S.rf
  have hP : va_P (dC, dI) vwCl (rpW a cA w h wa ma ka li hk sh T kd rd dp) s.heap := hP
  have hl := lv_entry ([.ref (a 0), .ref (a (8 + j)), .int (iI z), .int (iI st), .int (iI sk)]) (n := 10) (Nat.le_of_ble_eq_true rfl)
  rw [lg_entry_eq]
  generalize (lg_sl ([.ref (a 0), .ref (a (8 + j)), .int (iI z), .int (iI st), .int (iI sk)]) ++ List.replicate (10 - (lg_sl ([.ref (a 0), .ref (a (8 + j)), .int (iI z), .int (iI st), .int (iI sk)])).length) Slot.unset).toArray = ls at hl ⊢
  have hl : lv_has ls 10 [(0, .ref (a 0)), (1, .ref (a (8 + j))), (2, .int (iI z)), (3, .int (iI st)), (4, .int (iI sk))] := hl
  refine lv_aload_n hx hb dX2_goAlongLevel_0 rfl (lv_at hl 0 rfl) ?_
  refine va_get (D := (dC, dI)) (ci := 2) (v := .ref (a 6)) (C := RX2) (T := TX2) (N := 10) hx hb hts inX2 hown hK hP 0 rfl rfl 7 (by decide) (hts _ wm_178) (fun _ h9 => h9) rfl dX2_goAlongLevel_1 ?_
  refine va_getN (D := (dC, dI)) (ci := 1) (v := .int (iI T.2.1)) (C := RX1) (T := TX1) (N := 6) hx hb hts inX1 hown hK hP 6 rfl rfl 1 (by decide) (va_Nw.use rfl (hZ.1 (.fieldLinkNest RX2 128 RX1 "count" "I" RX2) (by decide +kernel))) (fun _ h9 => h9) rfl dX2_goAlongLevel_4 ?_
  refine lv_istore (lv' := [(5, .int (iI T.2.1)), (0, .ref (a 0)), (1, .ref (a (8 + j))), (2, .int (iI z)), (3, .int (iI st)), (4, .int (iI sk))]) hx hb dX2_goAlongLevel_7 hl (by decide) rfl (fun ls hl => ?_)
  refine lv_iload_n hx hb dX2_goAlongLevel_9 rfl (lv_at hl 3 rfl) ?_
  refine lv_iload_n hx hb dX2_goAlongLevel_10 rfl (lv_at hl 4 rfl) ?_
  refine z_sub hx hb dX2_goAlongLevel_11 ?_
  refine lv_istore (lv' := [(6, .int (iI (z - st))), (5, .int (iI T.2.1)), (0, .ref (a 0)), (1, .ref (a (8 + j))), (2, .int (iI z)), (3, .int (iI st)), (4, .int (iI sk))]) hx hb dX2_goAlongLevel_12 hl (by decide) rfl (fun ls hl => ?_)
  refine lv_iconst (v := iI 0) hx hb dX2_goAlongLevel_14 rfl ?_
  refine lv_istore (lv' := [(7, .int (iI 0)), (6, .int (iI (z - st))), (5, .int (iI T.2.1)), (0, .ref (a 0)), (1, .ref (a (8 + j))), (2, .int (iI z)), (3, .int (iI st)), (4, .int (iI sk))]) hx hb dX2_goAlongLevel_15 hl (by decide) rfl (fun ls hl => ?_)
  refine lp_X2_goAlongLevel_17 a cA w h wa ka li hk sh kd rd dp (T, ma) j z st sk T.2.1 M hx hb hml hown hts hA hZ hK (hw) (hh) (hj) (hrd) (hdp) (hli) (hz) (hst) (hsk) (hq1) (hq2) (hM) (fun H locs ls hP hD hS hl => ?_)  h 0 (by omega) _ _ _ hP hD hS (lv_sub hl [3, 4, 5, 6, 7, 2, 1, 0] rfl)
  have hP : va_P (dC, dI) vwCl (rpW a cA w h wa ((lvF w h li (dp j) (rd j) z st sk h (T, ma)).2) ka li hk sh ((lvF w h li (dp j) (rd j) z st sk h (T, ma)).1) kd rd dp) H := hP
  have hD : va_D A (rpW a cA w h wa ((lvF w h li (dp j) (rd j) z st sk h (T, ma)).2) ka li hk sh ((lvF w h li (dp j) (rd j) z st sk h (T, ma)).1) kd rd dp) := hD
  have hl : lv_has ls 10 [(0, .ref (a 0)), (1, .ref (a (8 + j))), (2, .int (iI z)), (3, .int (iI st)), (4, .int (iI sk)), (5, .int (iI T.2.1)), (6, .int (iI (z - st))), (7, .int (iI ((h : Nat) : Int)))] := hl
  refine lv_aload_n hx hb dX2_goAlongLevel_108 rfl (lv_at hl 0 rfl) ?_
  refine va_get (D := (dC, dI)) (ci := 2) (v := .ref (a 6)) (C := RX2) (T := TX2) (N := 10) hx hb hts inX2 hown hK hP 0 rfl rfl 7 (by decide) (hts _ wm_178) (fun _ h9 => h9) rfl dX2_goAlongLevel_109 ?_
  refine va_getN (D := (dC, dI)) (ci := 1) (v := .int (iI (((lvF w h li (dp j) (rd j) z st sk h (T, ma)).1).2.1))) (C := RX1) (T := TX1) (N := 6) hx hb hts inX1 hown hK hP 6 rfl rfl 1 (by decide) (va_Nw.use rfl (hZ.1 (.fieldLinkNest RX2 128 RX1 "count" "I" RX2) (by decide +kernel))) (fun _ h9 => h9) rfl dX2_goAlongLevel_112 ?_
  refine lv_iload hx hb dX2_goAlongLevel_115 (lv_at hl 5 rfl) ?_
  have hQ := lvF_ok (w := w) (h := h) (li := li) (r := rd j) (st := st) (sk := sk) (n := h) (M := M) (q := (T, ma)) (by omega) (by omega) hz hdp hq1 hq2
  have hT := hQ.1.1
  have hT0 := hq1.1
  refine z_icmp_le (tgt := 124) hx hb dX2_goAlongLevel_117 (by decide) (by omega) (by omega) (fun c117 => ?_) (fun c117 => ?_)
  · refine lv_iconst (v := iI 0) hx hb dX2_goAlongLevel_124 rfl ?_
    subst hAe
    refine z_top (b := if T.2.1 < (lvF w h li (dp j) (rd j) z st sk h (T, ma)).1.2.1 then 1 else 0) (by (repeat' split) <;> omega) ?_
    exact z_zret hx hb hr hlocks (by split <;> omega) hP hK hD hS (trivial) dX2_goAlongLevel_125
  · refine lv_iconst (v := iI 1) hx hb dX2_goAlongLevel_120 rfl ?_
    refine lv_goto (tgt := 125) hx hb dX2_goAlongLevel_121 (by decide) ?_
    subst hAe
    refine z_top (b := if T.2.1 < (lvF w h li (dp j) (rd j) z st sk h (T, ma)).1.2.1 then 1 else 0) (by (repeat' split) <;> omega) ?_
    exact z_zret hx hb hr hlocks (by split <;> omega) hP hK hD hS (trivial) dX2_goAlongLevel_125
abbrev r_X2_goAlongRow : Room := { frames := 3, cells := 0, slots := 0, locals := 74 }
set_option maxHeartbeats 4000000 in
set_option maxRecDepth 100000 in
theorem lp_X2_goAlongRow_3 {p : Program} {l : Launch} {e : Env} {s : State} {m : MethodId} {args : Array Value} {below : List Frame} {meth : Method} {c : Code} {Q : State → Prop} {A : Nat → Prop} {dC : Nat → ClassId} {dI : Nat → Nat → Nat} (a : Nat → Nat) (cA : Nat → ClassId) (w h : Nat) (wa ka li : Nat → Int) (hk sh : Int) (kd rd : Nat → Int) (dp : Nat → Nat → Int) (q : TK × (Nat → Int)) (j : Nat) (u b M : Int) (hx : p.tables.exec = Jvm.exec) (hb : c.code = cX2_goAlongRow) (hml : c.maxLocals = 7) (hown : s.vm.findClass RX2 = some m.cls) (hts : ∀ w ∈ wsAll, w.before args s = true) (hA : ∀ q : Nat, s.heap.size ≤ q → A q) (hZ : zZ A s s.heap) (hK : va_K (dC, dI) vwCl (rpT cA) s) (hw : 1 ≤ w ∧ w ≤ 20) (hh : 1 ≤ h ∧ h ≤ 20) (hj : j < 4) (hrd : 0 ≤ rd j ∧ rd j ≤ 5) (hdp : bd (dp j) (-1) 5) (hwa : bd wa 0 1000) (hu : 0 ≤ u ∧ u < (h : Int)) (hb0 : rg b) (hq1 : tkOK q.1 M) (hq2 : bd q.2 0 1000) (hM : 0 ≤ M ∧ M ≤ 1000000000) (kk : ∀ (H : Heap) (locs : List Loc) (ls : Array Slot), va_P (dC, dI) vwCl (rpW a cA w h wa ((rwF w h wa (dp j) (rd j) u b w q).2) ka li hk sh ((rwF w h wa (dp j) (rd j) u b w q).1) kd rd dp) H → va_D A (rpW a cA w h wa ((rwF w h wa (dp j) (rd j) u b w q).2) ka li hk sh ((rwF w h wa (dp j) (rd j) u b w q).1) kd rd dp) → va_S A s.heap H locs → lv_has ls 7 [(0, .ref (a 0)), (1, .ref (a (8 + j))), (2, .int (iI u)), (3, .int (iI b)), (4, .int (iI ((w : Nat) : Int)))] → W p l e r_X2_goAlongRow s m args below meth c H locs 0 0 Q (F0 m 70 ls [])) : ∀ (n i : Nat), i + n = w → ∀ (H : Heap) (locs : List Loc) (ls : Array Slot), va_P (dC, dI) vwCl (rpW a cA w h wa ((rwF w h wa (dp j) (rd j) u b i q).2) ka li hk sh ((rwF w h wa (dp j) (rd j) u b i q).1) kd rd dp) H → va_D A (rpW a cA w h wa ((rwF w h wa (dp j) (rd j) u b i q).2) ka li hk sh ((rwF w h wa (dp j) (rd j) u b i q).1) kd rd dp) → va_S A s.heap H locs → lv_has ls 7 [(0, .ref (a 0)), (1, .ref (a (8 + j))), (2, .int (iI u)), (3, .int (iI b)), (4, .int (iI ((i : Nat) : Int)))] → W p l e r_X2_goAlongRow s m args below meth c H locs 0 0 Q (F0 m 3 ls []) := by
  intro n
  induction n with
  | zero =>
    intro i hi H locs ls hP hD hS hl
    have hi9 : w = i := by omega
    subst hi9
    refine lv_iload hx hb dX2_goAlongRow_3 (lv_at hl 4 rfl) ?_
    refine lv_aload_n hx hb dX2_goAlongRow_5 rfl (lv_at hl 0 rfl) ?_
    refine va_get (D := (dC, dI)) (ci := 2) (v := .int (iI (w : Int))) (C := RX2) (T := TX2) (N := 10) hx hb hts inX2 hown hK hP 0 rfl rfl 0 (by decide) (hts _ wm_171) (fun _ h9 => h9) rfl dX2_goAlongRow_6 ?_
    refine z_icmp_ge (tgt := 70) hx hb dX2_goAlongRow_9 (by decide) (by omega) (by omega) (fun c9 => ?_) (fun c9 => by exfalso; omega)
    exact kk _ _ _ hP hD hS (lv_sub hl [0, 1, 2, 3, 4] rfl)
  | succ n ih =>
    intro i hi H locs ls hP hD hS hl
    have hQ := rwF_ok (w := w) (h := h) (r := rd j) (y := u) (b := b) (n := i) (M := M) (by omega) (by omega) ⟨hu.1, by omega⟩ hwa hdp hq1 hq2
    have hT := hQ.1
    have hx9 := rwX_rg (w := w) (b := b) (i := ((i : Nat) : Int)) (by omega) (by omega)
    have hz9 := lfF_rg (w := w) (h := h) (r := rd j) (x := rwX w b ((i : Nat) : Int)) (y := u) (n := nB h (rd j) u) hwa hdp
    refine lv_iload hx hb dX2_goAlongRow_3 (lv_at hl 4 rfl) ?_
    refine lv_aload_n hx hb dX2_goAlongRow_5 rfl (lv_at hl 0 rfl) ?_
    refine va_get (D := (dC, dI)) (ci := 2) (v := .int (iI (w : Int))) (C := RX2) (T := TX2) (N := 10) hx hb hts inX2 hown hK hP 0 rfl rfl 0 (by decide) (hts _ wm_171) (fun _ h9 => h9) rfl dX2_goAlongRow_6 ?_
    refine z_icmp_ge (tgt := 70) hx hb dX2_goAlongRow_9 (by decide) (by omega) (by omega) (fun c9 => by exfalso; omega) (fun c9 => ?_)
    refine lv_iload_n hx hb dX2_goAlongRow_12 rfl (lv_at hl 3 rfl) ?_
    refine z_join (g0 := F0 m 30 ls [.int (iI (rwX w b ((i : Nat) : Int)))]) ?_ (fun J30 => ?_)
    · refine lv_istore (lv' := [(5, .int (iI (rwX w b ((i : Nat) : Int)))), (0, .ref (a 0)), (1, .ref (a (8 + j))), (2, .int (iI u)), (3, .int (iI b)), (4, .int (iI ((i : Nat) : Int)))]) hx hb dX2_goAlongRow_30 hl (by decide) rfl (fun ls hl => ?_)
      refine lv_aload_n hx hb dX2_goAlongRow_32 rfl (lv_at hl 1 rfl) ?_
      refine lv_aload_n hx hb dX2_goAlongRow_33 rfl (lv_at hl 2 rfl) ?_
      refine lv_iload hx hb dX2_goAlongRow_34 (lv_at hl 0 rfl) ?_
      refine lv_iload_n hx hb dX2_goAlongRow_36 rfl (lv_at hl 3 rfl) ?_
      have hFc := z_freeR (wc := rpW a cA w h wa ((rwF w h wa (dp j) (rd j) u b i q).2) ka li hk sh ((rwF w h wa (dp j) (rd j) u b i q).1) kd rd dp) (fun _ h => h) hD hS hA
      refine z_wcalli (va_runV (As := [.ref (a (8 + j)), .int (iI (rwX w b ((i : Nat) : Int))), .int (iI u)]) (rest := []) ⟨hx, hb, hml, hown, hts⟩ (c_X2_liftOver l dC dI (H).size a cA w h wa ((rwF w h wa (dp j) (rd j) u b i q).2) ka li hk sh ((rwF w h wa (dp j) (rd j) u b i q).1) kd rd dp j (rwX w b ((i : Nat) : Int)) u hw hh hj hrd (by omega) (by omega) hdp hwa) (cwV 3 hts g_X2_94 rfl rfl rfl (by decide +kernel) ⟨Nat.le_of_ble_eq_true rfl, Nat.le_of_ble_eq_true rfl⟩) (zP_V (ci := 2) (q0 := 0) rfl rfl hP hK hD hS hFc hZ) rfl rfl hl.1 rfl (lv_room (Nat.le_of_ble_eq_true rfl)) dX2_goAlongRow_37 ⟨Nat.le_of_ble_eq_true rfl, Nat.le_of_ble_eq_true rfl⟩) hS hFc (fun H locs _ hP hD hS _ => ?_)
      have hP : va_P (dC, dI) vwCl (rpW a cA w h wa ((rwF w h wa (dp j) (rd j) u b i q).2) ka li hk sh ((rwF w h wa (dp j) (rd j) u b i q).1) kd rd dp) H := hP
      have hD : va_D A (rpW a cA w h wa ((rwF w h wa (dp j) (rd j) u b i q).2) ka li hk sh ((rwF w h wa (dp j) (rd j) u b i q).1) kd rd dp) := hD
      refine lv_istore (lv' := [(6, .int (iI (lfF w h wa (dp j) (rd j) (rwX w b ((i : Nat) : Int)) u (nB h (rd j) u)))), (5, .int (iI (rwX w b ((i : Nat) : Int)))), (0, .ref (a 0)), (1, .ref (a (8 + j))), (2, .int (iI u)), (3, .int (iI b)), (4, .int (iI ((i : Nat) : Int)))]) hx hb dX2_goAlongRow_40 hl (by decide) rfl (fun ls hl => ?_)
      refine lv_aload_n hx hb dX2_goAlongRow_42 rfl (lv_at hl 2 rfl) ?_
      refine va_get (D := (dC, dI)) (ci := 2) (v := .ref (a 6)) (C := RX2) (T := TX2) (N := 10) hx hb hts inX2 hown hK hP 0 rfl rfl 7 (by decide) (hts _ wm_178) (fun _ h9 => h9) rfl dX2_goAlongRow_43 ?_
      refine lv_iload hx hb dX2_goAlongRow_46 (lv_at hl 1 rfl) ?_
      refine lv_iload_n hx hb dX2_goAlongRow_48 rfl (lv_at hl 4 rfl) ?_
      refine lv_iload hx hb dX2_goAlongRow_49 (lv_at hl 0 rfl) ?_
      have hPc := hP.sub (ws' := tkW (a 6) (a 7) (cA 5) ((rwF w h wa (dp j) (rd j) u b i q).1)) [6, 7] rfl
      have hDc := hD.sub (ws' := tkW (a 6) (a 7) (cA 5) ((rwF w h wa (dp j) (rd j) u b i q).1)) [6, 7] (by decide) rfl
      have hKc := hK.sub (tys' := [((cA 5), .int)]) [5] rfl
      have hFc := va_free (wc := tkW (a 6) (a 7) (cA 5) ((rwF w h wa (dp j) (rd j) u b i q).1)) hD hS hA [6, 7] rfl
      refine z_callv (ws' := rpW a cA w h wa ((rwF w h wa (dp j) (rd j) u b i q).2) ka li hk sh (tkA (rwX w b ((i : Nat) : Int)) u (lfF w h wa (dp j) (rd j) (rwX w b ((i : Nat) : Int)) u (nB h (rd j) u)) ((rwF w h wa (dp j) (rd j) u b i q).1)) kd rd dp) (wr := [0, 1, 2, 3, 4, 5, 8, 9, 10, 11, 12, 13, 14, 15].filterMap (fun z9 => (rpW a cA w h wa ((rwF w h wa (dp j) (rd j) u b i q).2) ka li hk sh ((rwF w h wa (dp j) (rd j) u b i q).1) kd rd dp)[z9]?)) (va_runV (As := [.int (iI (rwX w b ((i : Nat) : Int))), .int (iI u), .int (iI (lfF w h wa (dp j) (rd j) (rwX w b ((i : Nat) : Int)) u (nB h (rd j) u)))]) (rest := []) ⟨hx, hb, hml, hown, hts⟩ (c_X1_add l dC dI (H).size (a 6) (a 7) (cA 5) ((rwF w h wa (dp j) (rd j) u b i q).1) (rwX w b ((i : Nat) : Int)) u (lfF w h wa (dp j) (rd j) (rwX w b ((i : Nat) : Int)) u (nB h (rd j) u)) ⟨hT.1.1, by have := hT.1.2; omega⟩ hT.2.1 hT.2.2.1 hT.2.2.2.1 (by omega) (by omega) (by omega)) (cwV 3 hts g_X2_184 rfl rfl rfl (by decide +kernel) ⟨Nat.le_of_ble_eq_true rfl, Nat.le_of_ble_eq_true rfl⟩) (zP_V (ci := 1) (q0 := 0) rfl rfl hPc hKc hDc hS hFc hZ) rfl rfl hl.1 rfl (lv_room (Nat.le_of_ble_eq_true rfl)) dX2_goAlongRow_51 ⟨Nat.le_of_ble_eq_true rfl, Nat.le_of_ble_eq_true rfl⟩) hP hD hS hFc [6, 7] [0, 1, 2, 3, 4, 5, 8, 9, 10, 11, 12, 13, 14, 15] [0, 1, 2, 3, 4, 5, 14, 15, 6, 7, 8, 9, 10, 11, 12, 13] rfl rfl (by decide) (by decide) rfl (by decide) (fun H locs _ hP hD hS _ => ?_)
      have hP : va_P (dC, dI) vwCl (rpW a cA w h wa ((rwF w h wa (dp j) (rd j) u b i q).2) ka li hk sh (tkA (rwX w b ((i : Nat) : Int)) u (lfF w h wa (dp j) (rd j) (rwX w b ((i : Nat) : Int)) u (nB h (rd j) u)) ((rwF w h wa (dp j) (rd j) u b i q).1)) kd rd dp) H := hP
      have hD : va_D A (rpW a cA w h wa ((rwF w h wa (dp j) (rd j) u b i q).2) ka li hk sh (tkA (rwX w b ((i : Nat) : Int)) u (lfF w h wa (dp j) (rd j) (rwX w b ((i : Nat) : Int)) u (nB h (rd j) u)) ((rwF w h wa (dp j) (rd j) u b i q).1)) kd rd dp) := hD
      refine lv_aload_n hx hb dX2_goAlongRow_54 rfl (lv_at hl 2 rfl) ?_
      refine lv_aload_n hx hb dX2_goAlongRow_55 rfl (lv_at hl 3 rfl) ?_
      refine lv_iload hx hb dX2_goAlongRow_56 (lv_at hl 1 rfl) ?_
      refine lv_iload_n hx hb dX2_goAlongRow_58 rfl (lv_at hl 4 rfl) ?_
      refine lv_iload hx hb dX2_goAlongRow_59 (lv_at hl 0 rfl) ?_
      have hFc := z_freeR (wc := rpW a cA w h wa ((rwF w h wa (dp j) (rd j) u b i q).2) ka li hk sh (tkA (rwX w b ((i : Nat) : Int)) u (lfF w h wa (dp j) (rd j) (rwX w b ((i : Nat) : Int)) u (nB h (rd j) u)) ((rwF w h wa (dp j) (rd j) u b i q).1)) kd rd dp) (fun _ h => h) hD hS hA
      refine z_wcallv (va_runV (As := [.ref (a (8 + j)), .int (iI (rwX w b ((i : Nat) : Int))), .int (iI u), .int (iI (lfF w h wa (dp j) (rd j) (rwX w b ((i : Nat) : Int)) u (nB h (rd j) u)))]) (rest := []) ⟨hx, hb, hml, hown, hts⟩ (c_X2_carve l dC dI (H).size a cA w h wa ((rwF w h wa (dp j) (rd j) u b i q).2) ka li hk sh (tkA (rwX w b ((i : Nat) : Int)) u (lfF w h wa (dp j) (rd j) (rwX w b ((i : Nat) : Int)) u (nB h (rd j) u)) ((rwF w h wa (dp j) (rd j) u b i q).1)) kd rd dp j (rwX w b ((i : Nat) : Int)) u (lfF w h wa (dp j) (rd j) (rwX w b ((i : Nat) : Int)) u (nB h (rd j) u)) hw hh hj hrd (by omega) (by omega) hdp (by omega) hQ.2) (cwV 4 hts g_X2_187 rfl rfl rfl (by decide +kernel) ⟨Nat.le_of_ble_eq_true rfl, Nat.le_of_ble_eq_true rfl⟩) (zP_V (ci := 2) (q0 := 0) rfl rfl hP hK hD hS hFc hZ) rfl rfl hl.1 rfl (lv_room (Nat.le_of_ble_eq_true rfl)) dX2_goAlongRow_61 ⟨Nat.le_of_ble_eq_true rfl, Nat.le_of_ble_eq_true rfl⟩) hS hFc (fun H locs _ hP hD hS _ => ?_)
      have hP : va_P (dC, dI) vwCl (rpW a cA w h wa (cvF w h (dp j) (rd j) (rwX w b ((i : Nat) : Int)) u (lfF w h wa (dp j) (rd j) (rwX w b ((i : Nat) : Int)) u (nB h (rd j) u)) (nB h (rd j) u) ((rwF w h wa (dp j) (rd j) u b i q).2)) ka li hk sh (tkA (rwX w b ((i : Nat) : Int)) u (lfF w h wa (dp j) (rd j) (rwX w b ((i : Nat) : Int)) u (nB h (rd j) u)) ((rwF w h wa (dp j) (rd j) u b i q).1)) kd rd dp) H := hP
      have hD : va_D A (rpW a cA w h wa (cvF w h (dp j) (rd j) (rwX w b ((i : Nat) : Int)) u (lfF w h wa (dp j) (rd j) (rwX w b ((i : Nat) : Int)) u (nB h (rd j) u)) (nB h (rd j) u) ((rwF w h wa (dp j) (rd j) u b i q).2)) ka li hk sh (tkA (rwX w b ((i : Nat) : Int)) u (lfF w h wa (dp j) (rd j) (rwX w b ((i : Nat) : Int)) u (nB h (rd j) u)) ((rwF w h wa (dp j) (rd j) u b i q).1)) kd rd dp) := hD
      refine lv_iinc (v := iI (((i + 1) : Nat) : Int)) (lv' := [(4, .int (iI (((i + 1) : Nat) : Int))), (6, .int (iI (lfF w h wa (dp j) (rd j) (rwX w b ((i : Nat) : Int)) u (nB h (rd j) u)))), (5, .int (iI (rwX w b ((i : Nat) : Int)))), (0, .ref (a 0)), (1, .ref (a (8 + j))), (2, .int (iI u)), (3, .int (iI b))]) hx hb dX2_goAlongRow_64 hl (k := 6) rfl ((iI_add _ _).trans (congrArg iI (by omega))) (by decide) rfl (fun ls hl => ?_)
      refine lv_goto (tgt := 3) hx hb dX2_goAlongRow_67 (by decide) ?_
      exact ih (i + 1) (by omega) _ _ _ hP hD hS (lv_sub hl [3, 4, 5, 6, 0] rfl)
    · refine z_if_eq (tgt := 21) hx hb dX2_goAlongRow_13 (by decide) (by omega) (fun c13 => ?_) (fun c13 => ?_)
      · refine lv_aload_n hx hb dX2_goAlongRow_21 rfl (lv_at hl 0 rfl) ?_
        refine va_get (D := (dC, dI)) (ci := 2) (v := .int (iI (w : Int))) (C := RX2) (T := TX2) (N := 10) hx hb hts inX2 hown hK hP 0 rfl rfl 0 (by decide) (hts _ wm_171) (fun _ h9 => h9) rfl dX2_goAlongRow_22 ?_
        refine lv_iconst (v := iI 1) hx hb dX2_goAlongRow_25 rfl ?_
        refine z_sub hx hb dX2_goAlongRow_26 ?_
        refine lv_iload hx hb dX2_goAlongRow_27 (lv_at hl 4 rfl) ?_
        refine z_sub hx hb dX2_goAlongRow_29 ?_
        exact z_top (b := rwX w b ((i : Nat) : Int)) (by unfold rwX; split <;> omega) J30
      · refine lv_iload hx hb dX2_goAlongRow_16 (lv_at hl 4 rfl) ?_
        refine lv_goto (tgt := 30) hx hb dX2_goAlongRow_18 (by decide) ?_
        exact z_top (b := rwX w b ((i : Nat) : Int)) (by unfold rwX; split <;> omega) J30
set_option maxHeartbeats 4000000 in
set_option maxRecDepth 100000 in
theorem c_X2_goAlongRow (l : Launch) (dC : Nat → ClassId) (dI : Nat → Nat → Nat) (sz : Nat) (a : Nat → Nat) (cA : Nat → ClassId) (w h : Nat) (wa ma ka li : Nat → Int) (hk sh : Int) (T : TK) (kd rd : Nat → Int) (dp : Nat → Nat → Int) (j : Nat) (u b M : Int) (hw : 1 ≤ w ∧ w ≤ 20) (hh : 1 ≤ h ∧ h ≤ 20) (hj : j < 4) (hrd : 0 ≤ rd j ∧ rd j ≤ 5) (hdp : bd (dp j) (-1) 5) (hwa : bd wa 0 1000) (hu : 0 ≤ u ∧ u < (h : Int)) (hb0 : rg b) (hq1 : tkOK T M) (hq2 : bd ma 0 1000) (hM : 0 ≤ M ∧ M ≤ 1000000000) : Met l yX2_goAlongRow wsX2_goAlongRow r_X2_goAlongRow (zP (dC, dI) vwCl (rpT cA) (rpW a cA w h wa ma ka li hk sh T kd rd dp) sz [.ref (a 0), .ref (a (8 + j)), .int (iI u), .int (iI b)]) (zQv (dC, dI) vwCl (rpT cA) (rpW a cA w h wa ma ka li hk sh T kd rd dp) sz (True) (rpW a cA w h wa ((rwF w h wa (dp j) (rd j) u b w (T, ma)).2) ka li hk sh ((rwF w h wa (dp j) (rd j) u b w (T, ma)).1) kd rd dp)) 0 0 (va_A (rpW a cA w h wa ma ka li hk sh T kd rd dp) sz) := by
  refine Met.ofW (cc := cX2_goAlongRow) (maxL := 7) (ret := none) (by decide) rfl ?_
  intro p e s m args below meth c s₁ B hml hv
  obtain ⟨rfl, hsz, hP, hK, hD0, hZ⟩ := hv
  have hx := B.exec
  have hb := B.bytes
  have hr := B.returns
  have hts0 := atoms_spec (ws := wsX2_goAlongRow) B.pre
  have hts : ∀ w ∈ wsAll, w.before _ s = true := fun w h => hts0 w (List.mem_cons_of_mem _ h)
  have hown : s.vm.findClass RX2 = some m.cls := findClass_of_methodNamed B.named
  have hlocks := B.notSynchronized
  subst hsz
  have hD := hD0.self (sz := s.heap.size)
  obtain ⟨A, hAe⟩ : ∃ A, A = va_A (rpW a cA w h wa ma ka li hk sh T kd rd dp) s.heap.size := ⟨_, rfl⟩
  rw [← hAe] at hD hZ
  have hA : ∀ q : Nat, s.heap.size ≤ q → A q := fun q h => by rw [hAe]; exact Or.inr h
  have hS : va_S A s.heap s.heap [] := va_S.rf
  have hP : va_P (dC, dI) vwCl (rpW a cA w h wa ma ka li hk sh T kd rd dp) s.heap := hP
  have hl := lv_entry ([.ref (a 0), .ref (a (8 + j)), .int (iI u), .int (iI b)]) (n := 7) (Nat.le_of_ble_eq_true rfl)
  rw [lg_entry_eq]
  generalize (lg_sl ([.ref (a 0), .ref (a (8 + j)), .int (iI u), .int (iI b)]) ++ List.replicate (7 - (lg_sl ([.ref (a 0), .ref (a (8 + j)), .int (iI u), .int (iI b)])).length) Slot.unset).toArray = ls at hl ⊢
  have hl : lv_has ls 7 [(0, .ref (a 0)), (1, .ref (a (8 + j))), (2, .int (iI u)), (3, .int (iI b))] := hl
  refine lv_iconst (v := iI 0) hx hb dX2_goAlongRow_0 rfl ?_
  refine lv_istore (lv' := [(4, .int (iI 0)), (0, .ref (a 0)), (1, .ref (a (8 + j))), (2, .int (iI u)), (3, .int (iI b))]) hx hb dX2_goAlongRow_1 hl (by decide) rfl (fun ls hl => ?_)
  refine lp_X2_goAlongRow_3 a cA w h wa ka li hk sh kd rd dp (T, ma) j u b M hx hb hml hown hts hA hZ hK (hw) (hh) (hj) (hrd) (hdp) (hwa) (hu) (hb0) (hq1) (hq2) (hM) (fun H locs ls hP hD hS hl => ?_)  w 0 (by omega) _ _ _ hP hD hS (lv_sub hl [1, 2, 3, 4, 0] rfl)
  have hP : va_P (dC, dI) vwCl (rpW a cA w h wa ((rwF w h wa (dp j) (rd j) u b w (T, ma)).2) ka li hk sh ((rwF w h wa (dp j) (rd j) u b w (T, ma)).1) kd rd dp) H := hP
  have hD : va_D A (rpW a cA w h wa ((rwF w h wa (dp j) (rd j) u b w (T, ma)).2) ka li hk sh ((rwF w h wa (dp j) (rd j) u b w (T, ma)).1) kd rd dp) := hD
  have hl : lv_has ls 7 [(0, .ref (a 0)), (1, .ref (a (8 + j))), (2, .int (iI u)), (3, .int (iI b)), (4, .int (iI ((w : Nat) : Int)))] := hl
  subst hAe
  exact z_vret hx hb hr hlocks hP hK hD hS (trivial) dX2_goAlongRow_70
