abbrev r_X3_carve : Room := { frames := 2, cells := 0, slots := 0, locals := 48 }
set_option maxHeartbeats 4000000 in
set_option maxRecDepth 100000 in
theorem lp_X3_carve_48 {p : Program} {l : Launch} {e : Env} {s : State} {m : MethodId} {args : Array Value} {below : List Frame} {meth : Method} {c : Code} {Q : State → Prop} {A : Nat → Prop} {dC : Nat → ClassId} {dI : Nat → Nat → Nat} (b : Nat → Nat) (cB : Nat → ClassId) (w h : Nat) (cd : Int) (wn mn kn : Nat → Int) (ik so : Int) (ks rs lf : Nat → Int) (K : MK) (t x y u : Int) (hx : p.tables.exec = Jvm.exec) (hb : c.code = cX3_carve) (hml : c.maxLocals = 9) (hown : s.vm.findClass RX3 = some m.cls) (hts : ∀ w ∈ wsAll, w.before args s = true) (hA : ∀ q : Nat, s.heap.size ≤ q → A q) (hZ : zZ A s s.heap) (hK : va_K (dC, dI) vwCl (mdT cB) s) (hw : 1 ≤ w ∧ w ≤ 20) (hh : 1 ≤ h ∧ h ≤ 20) (ht3 : 0 ≤ t ∧ t ≤ 3) (hks : 0 ≤ ks t.toNat ∧ ks t.toNat ≤ 2) (hrs : 0 ≤ rs t.toNat ∧ rs t.toNat ≤ 5) (htp : bd K.1 (-1) 1000) (hmn : bd mn 0 1000) (hx0 : 0 ≤ x ∧ x < (w : Int)) (hy0 : 0 ≤ y ∧ y < (h : Int)) (hu : y - rs t.toNat ≤ u ∧ u ≤ y + rs t.toNat) (kk : ∀ (H : Heap) (locs : List Loc) (ls : Array Slot), va_P (dC, dI) vwCl (mdW b cB w h cd wn (cmR w h K.1 (ks t.toNat) (rs t.toNat) x y u ((2 * rs t.toNat + 1).toNat) mn) kn ik so ks rs lf K) H → va_D A (mdW b cB w h cd wn (cmR w h K.1 (ks t.toNat) (rs t.toNat) x y u ((2 * rs t.toNat + 1).toNat) mn) kn ik so ks rs lf K) → va_S A s.heap H locs → lv_has ls 9 [(0, .ref (b 0)), (1, .int (iI t)), (2, .int (iI (rs t.toNat))), (3, .int (iI y)), (4, .int (iI x)), (5, .int (iI u)), (6, .int (iI (x - rs t.toNat + (((2 * rs t.toNat + 1).toNat : Nat) : Int))))] → W p l e r_X3_carve s m args below meth c H locs 0 0 Q (F0 m 175 ls [])) : ∀ (n i : Nat), i + n = (2 * rs t.toNat + 1).toNat → ∀ (H : Heap) (locs : List Loc) (ls : Array Slot), va_P (dC, dI) vwCl (mdW b cB w h cd wn (cmR w h K.1 (ks t.toNat) (rs t.toNat) x y u i mn) kn ik so ks rs lf K) H → va_D A (mdW b cB w h cd wn (cmR w h K.1 (ks t.toNat) (rs t.toNat) x y u i mn) kn ik so ks rs lf K) → va_S A s.heap H locs → lv_has ls 9 [(0, .ref (b 0)), (1, .int (iI t)), (2, .int (iI (rs t.toNat))), (3, .int (iI y)), (4, .int (iI x)), (5, .int (iI u)), (6, .int (iI (x - rs t.toNat + ((i : Nat) : Int))))] → W p l e r_X3_carve s m args below meth c H locs 0 0 Q (F0 m 48 ls []) := by
  intro n
  induction n with
  | zero =>
    intro i hi H locs ls hP hD hS hl
    have hi9 : (2 * rs t.toNat + 1).toNat = i := by omega
    subst hi9
    refine lv_iload hx hb dX3_carve_48 (lv_at hl 6 rfl) ?_
    refine lv_iload hx hb dX3_carve_50 (lv_at hl 4 rfl) ?_
    refine lv_iload_n hx hb dX3_carve_52 rfl (lv_at hl 2 rfl) ?_
    refine z_add hx hb dX3_carve_53 ?_
    refine z_icmp_gt (tgt := 175) hx hb dX3_carve_54 (by decide) (by omega) (by omega) (fun c54 => ?_) (fun c54 => by exfalso; omega)
    exact kk _ _ _ hP hD hS (lv_sub hl [0, 1, 2, 3, 4, 5, 6] rfl)
  | succ n ih =>
    intro i hi H locs ls hP hD hS hl
    refine lv_iload hx hb dX3_carve_48 (lv_at hl 6 rfl) ?_
    refine lv_iload hx hb dX3_carve_50 (lv_at hl 4 rfl) ?_
    refine lv_iload_n hx hb dX3_carve_52 rfl (lv_at hl 2 rfl) ?_
    refine z_add hx hb dX3_carve_53 ?_
    refine z_icmp_gt (tgt := 175) hx hb dX3_carve_54 (by decide) (by omega) (by omega) (fun c54 => by exfalso; omega) (fun c54 => ?_)
    refine lv_aload_n hx hb dX3_carve_57 rfl (lv_at hl 0 rfl) ?_
    refine lv_iload_n hx hb dX3_carve_58 rfl (lv_at hl 1 rfl) ?_
    refine lv_iload hx hb dX3_carve_59 (lv_at hl 4 rfl) ?_
    refine lv_iload hx hb dX3_carve_61 (lv_at hl 6 rfl) ?_
    refine z_sub hx hb dX3_carve_63 ?_
    refine lv_iload_n hx hb dX3_carve_64 rfl (lv_at hl 3 rfl) ?_
    refine lv_iload hx hb dX3_carve_65 (lv_at hl 5 rfl) ?_
    refine z_sub hx hb dX3_carve_67 ?_
    have hpv := pfM_rg (kd := ks t.toNat) (r := rs t.toNat) (dx := x - (x - rs t.toNat + ((i : Nat) : Int))) (dy := y - u) hrs.1 hrs.2
    have hmb := cmR_rg (w := w) (h := h) (tp := K.1) (kd := ks t.toNat) (r := rs t.toNat) (x := x) (y := y) (jj := u) (n := i) hmn (20 * y + x).toNat
    have hiy := z_i20 (w := w) (h := h) hw.2 hh.2 hx0.1 hx0.2 hy0.1 hy0.2
    have htb := htp (20 * u + (x - rs t.toNat + ((i : Nat) : Int))).toNat
    have hFc := z_freeR (wc := mdW b cB w h cd wn (cmR w h K.1 (ks t.toNat) (rs t.toNat) x y u i mn) kn ik so ks rs lf K) (fun _ h => h) hD hS hA
    refine z_wcalli (va_runV (As := [.int (iI t), .int (iI (x - (x - rs t.toNat + ((i : Nat) : Int)))), .int (iI (y - u))]) (rest := []) ⟨hx, hb, hml, hown, hts⟩ (c_X3_profileOf l dC dI (H).size b cB w h cd wn (cmR w h K.1 (ks t.toNat) (rs t.toNat) x y u i mn) kn ik so ks rs lf K t (x - (x - rs t.toNat + ((i : Nat) : Int))) (y - u) ht3 (by omega) (by omega) hks hrs) (cwV 3 hts g_X3_63 rfl rfl rfl (by decide +kernel) ⟨Nat.le_of_ble_eq_true rfl, Nat.le_of_ble_eq_true rfl⟩) (zP_V (ci := 3) (q0 := 0) rfl rfl hP hK hD hS hFc hZ) rfl rfl hl.1 rfl (lv_room (Nat.le_of_ble_eq_true rfl)) dX3_carve_68 ⟨Nat.le_of_ble_eq_true rfl, Nat.le_of_ble_eq_true rfl⟩) hS hFc (fun H locs _ hP hD hS _ => ?_)
    have hP : va_P (dC, dI) vwCl (mdW b cB w h cd wn (cmR w h K.1 (ks t.toNat) (rs t.toNat) x y u i mn) kn ik so ks rs lf K) H := hP
    have hD : va_D A (mdW b cB w h cd wn (cmR w h K.1 (ks t.toNat) (rs t.toNat) x y u i mn) kn ik so ks rs lf K) := hD
    refine lv_istore (lv' := [(7, .int (iI (pfM (ks t.toNat) (rs t.toNat) (x - (x - rs t.toNat + ((i : Nat) : Int))) (y - u)))), (0, .ref (b 0)), (1, .int (iI t)), (2, .int (iI (rs t.toNat))), (3, .int (iI y)), (4, .int (iI x)), (5, .int (iI u)), (6, .int (iI (x - rs t.toNat + ((i : Nat) : Int))))]) hx hb dX3_carve_71 hl (by decide) rfl (fun ls hl => ?_)
    refine lv_iload hx hb dX3_carve_73 (lv_at hl 0 rfl) ?_
    refine z_if_lt (tgt := 169) hx hb dX3_carve_75 (by decide) (by omega) (fun c75 => ?_) (fun c75 => ?_)
    · refine lv_iinc (v := iI (x - rs t.toNat + (((i + 1) : Nat) : Int))) (lv' := [(6, .int (iI (x - rs t.toNat + (((i + 1) : Nat) : Int)))), (7, .int (iI (pfM (ks t.toNat) (rs t.toNat) (x - (x - rs t.toNat + ((i : Nat) : Int))) (y - u)))), (0, .ref (b 0)), (1, .int (iI t)), (2, .int (iI (rs t.toNat))), (3, .int (iI y)), (4, .int (iI x)), (5, .int (iI u))]) hx hb dX3_carve_169 hl (k := 7) rfl ((iI_add _ _).trans (congrArg iI (by omega))) (by decide) rfl (fun ls hl => ?_)
      refine lv_goto (tgt := 48) hx hb dX3_carve_172 (by decide) ?_
      have eg : cmR w h K.1 (ks t.toNat) (rs t.toNat) x y u (i + 1) mn = cmR w h K.1 (ks t.toNat) (rs t.toNat) x y u i mn := by
        show cmS w h K.1 (ks t.toNat) (rs t.toNat) x y (x - rs t.toNat + ((i : Nat) : Int)) u (cmR w h K.1 (ks t.toNat) (rs t.toNat) x y u i mn) = _
        unfold cmS
        (repeat' split) <;> first | rfl | (exfalso; omega)
      exact ih (i + 1) (by omega) _ _ _ (by rw [eg]; exact hP) (by rw [eg]; exact hD) hS (lv_sub hl [2, 3, 4, 5, 6, 7, 0] rfl)
    · refine lv_aload_n hx hb dX3_carve_78 rfl (lv_at hl 1 rfl) ?_
      refine lv_iload hx hb dX3_carve_79 (lv_at hl 7 rfl) ?_
      refine lv_iload hx hb dX3_carve_81 (lv_at hl 6 rfl) ?_
      have hFc := z_freeR (wc := mdW b cB w h cd wn (cmR w h K.1 (ks t.toNat) (rs t.toNat) x y u i mn) kn ik so ks rs lf K) (fun _ h => h) hD hS hA
      refine z_wcalli (va_runV (As := [.int (iI (x - rs t.toNat + ((i : Nat) : Int))), .int (iI u)]) (rest := []) ⟨hx, hb, hml, hown, hts⟩ (c_X3_isPlace l dC dI (H).size b cB w h cd wn (cmR w h K.1 (ks t.toNat) (rs t.toNat) x y u i mn) kn ik so ks rs lf K (x - rs t.toNat + ((i : Nat) : Int)) u hw hh (by omega) (by omega)) (cwV 2 hts g_X3_51 rfl rfl rfl (by decide +kernel) ⟨Nat.le_of_ble_eq_true rfl, Nat.le_of_ble_eq_true rfl⟩) (zP_V (ci := 3) (q0 := 0) rfl rfl hP hK hD hS hFc hZ) rfl rfl hl.1 rfl (lv_room (Nat.le_of_ble_eq_true rfl)) dX3_carve_83 ⟨Nat.le_of_ble_eq_true rfl, Nat.le_of_ble_eq_true rfl⟩) hS hFc (fun H locs _ hP hD hS _ => ?_)
      have hP : va_P (dC, dI) vwCl (mdW b cB w h cd wn (cmR w h K.1 (ks t.toNat) (rs t.toNat) x y u i mn) kn ik so ks rs lf K) H := hP
      have hD : va_D A (mdW b cB w h cd wn (cmR w h K.1 (ks t.toNat) (rs t.toNat) x y u i mn) kn ik so ks rs lf K) := hD
      refine z_if_eq (tgt := 169) hx hb dX3_carve_86 (by decide) (plB_rg _ _ _ _) (fun c86 => ?_) (fun c86 => ?_)
      · have c86 := plB_f.mp c86
        refine lv_iinc (v := iI (x - rs t.toNat + (((i + 1) : Nat) : Int))) (lv' := [(6, .int (iI (x - rs t.toNat + (((i + 1) : Nat) : Int)))), (7, .int (iI (pfM (ks t.toNat) (rs t.toNat) (x - (x - rs t.toNat + ((i : Nat) : Int))) (y - u)))), (0, .ref (b 0)), (1, .int (iI t)), (2, .int (iI (rs t.toNat))), (3, .int (iI y)), (4, .int (iI x)), (5, .int (iI u))]) hx hb dX3_carve_169 hl (k := 7) rfl ((iI_add _ _).trans (congrArg iI (by omega))) (by decide) rfl (fun ls hl => ?_)
        refine lv_goto (tgt := 48) hx hb dX3_carve_172 (by decide) ?_
        have eg : cmR w h K.1 (ks t.toNat) (rs t.toNat) x y u (i + 1) mn = cmR w h K.1 (ks t.toNat) (rs t.toNat) x y u i mn := by
          show cmS w h K.1 (ks t.toNat) (rs t.toNat) x y (x - rs t.toNat + ((i : Nat) : Int)) u (cmR w h K.1 (ks t.toNat) (rs t.toNat) x y u i mn) = _
          unfold cmS
          (repeat' split) <;> first | rfl | (exfalso; omega)
        exact ih (i + 1) (by omega) _ _ _ (by rw [eg]; exact hP) (by rw [eg]; exact hD) hS (lv_sub hl [2, 3, 4, 5, 6, 7, 0] rfl)
      · have c86 := plB_t.mp c86
        have hix := z_i20 (w := w) (h := h) hw.2 hh.2 c86.1 c86.2.1 c86.2.2.1 c86.2.2.2
        refine lv_aload_n hx hb dX3_carve_89 rfl (lv_at hl 1 rfl) ?_
        refine va_get (D := (dC, dI)) (ci := 3) (v := .ref (b 6)) (C := RX3) (T := TX3) (N := 18) hx hb hts inX3 hown hK hP 0 rfl rfl 10 (by decide) (hts _ wm_413) (fun _ h9 => h9) rfl dX3_carve_90 ?_
        refine lv_bipush (v := iI 20) hx hb dX3_carve_93 (by decide) ?_
        refine lv_iload hx hb dX3_carve_95 (lv_at hl 6 rfl) ?_
        refine z_mul hx hb dX3_carve_97 ?_
        refine lv_iload hx hb dX3_carve_98 (lv_at hl 7 rfl) ?_
        refine z_add hx hb dX3_carve_100 ?_
        refine z_iald (f := K.1) (i := (20 * u) + (x - rs t.toNat + ((i : Nat) : Int))) hx hb hK hP 6 5 rfl rfl (hix) (by decide) dX3_carve_101 ?_
        refine z_if_lt (tgt := 169) hx hb dX3_carve_102 (by decide) (by omega) (fun c102 => ?_) (fun c102 => ?_)
        · refine lv_iinc (v := iI (x - rs t.toNat + (((i + 1) : Nat) : Int))) (lv' := [(6, .int (iI (x - rs t.toNat + (((i + 1) : Nat) : Int)))), (7, .int (iI (pfM (ks t.toNat) (rs t.toNat) (x - (x - rs t.toNat + ((i : Nat) : Int))) (y - u)))), (0, .ref (b 0)), (1, .int (iI t)), (2, .int (iI (rs t.toNat))), (3, .int (iI y)), (4, .int (iI x)), (5, .int (iI u))]) hx hb dX3_carve_169 hl (k := 7) rfl ((iI_add _ _).trans (congrArg iI (by omega))) (by decide) rfl (fun ls hl => ?_)
          refine lv_goto (tgt := 48) hx hb dX3_carve_172 (by decide) ?_
          have eg : cmR w h K.1 (ks t.toNat) (rs t.toNat) x y u (i + 1) mn = cmR w h K.1 (ks t.toNat) (rs t.toNat) x y u i mn := by
            show cmS w h K.1 (ks t.toNat) (rs t.toNat) x y (x - rs t.toNat + ((i : Nat) : Int)) u (cmR w h K.1 (ks t.toNat) (rs t.toNat) x y u i mn) = _
            unfold cmS
            (repeat' split) <;> first | rfl | (exfalso; omega)
          exact ih (i + 1) (by omega) _ _ _ (by rw [eg]; exact hP) (by rw [eg]; exact hD) hS (lv_sub hl [2, 3, 4, 5, 6, 7, 0] rfl)
        · refine lv_aload_n hx hb dX3_carve_105 rfl (lv_at hl 1 rfl) ?_
          refine va_get (D := (dC, dI)) (ci := 3) (v := .ref (b 6)) (C := RX3) (T := TX3) (N := 18) hx hb hts inX3 hown hK hP 0 rfl rfl 10 (by decide) (hts _ wm_413) (fun _ h9 => h9) rfl dX3_carve_106 ?_
          refine lv_bipush (v := iI 20) hx hb dX3_carve_109 (by decide) ?_
          refine lv_iload hx hb dX3_carve_111 (lv_at hl 6 rfl) ?_
          refine z_mul hx hb dX3_carve_113 ?_
          refine lv_iload hx hb dX3_carve_114 (lv_at hl 7 rfl) ?_
          refine z_add hx hb dX3_carve_116 ?_
          refine z_iald (f := K.1) (i := (20 * u) + (x - rs t.toNat + ((i : Nat) : Int))) hx hb hK hP 6 5 rfl rfl (hix) (by decide) dX3_carve_117 ?_
          refine lv_iload hx hb dX3_carve_118 (lv_at hl 0 rfl) ?_
          refine z_add hx hb dX3_carve_120 ?_
          refine lv_istore (lv' := [(8, .int (iI ((K.1 ((20 * u) + (x - rs t.toNat + ((i : Nat) : Int))).toNat) + (pfM (ks t.toNat) (rs t.toNat) (x - (x - rs t.toNat + ((i : Nat) : Int))) (y - u))))), (7, .int (iI (pfM (ks t.toNat) (rs t.toNat) (x - (x - rs t.toNat + ((i : Nat) : Int))) (y - u)))), (0, .ref (b 0)), (1, .int (iI t)), (2, .int (iI (rs t.toNat))), (3, .int (iI y)), (4, .int (iI x)), (5, .int (iI u)), (6, .int (iI (x - rs t.toNat + ((i : Nat) : Int))))]) hx hb dX3_carve_121 hl (by decide) rfl (fun ls hl => ?_)
          refine lv_aload_n hx hb dX3_carve_123 rfl (lv_at hl 2 rfl) ?_
          refine va_get (D := (dC, dI)) (ci := 3) (v := .ref (b 2)) (C := RX3) (T := TX3) (N := 18) hx hb hts inX3 hown hK hP 0 rfl rfl 4 (by decide) (hts _ wm_407) (fun _ h9 => h9) rfl dX3_carve_124 ?_
          refine lv_bipush (v := iI 20) hx hb dX3_carve_127 (by decide) ?_
          refine lv_iload_n hx hb dX3_carve_129 rfl (lv_at hl 5 rfl) ?_
          refine z_mul hx hb dX3_carve_130 ?_
          refine lv_iload hx hb dX3_carve_131 (lv_at hl 6 rfl) ?_
          refine z_add hx hb dX3_carve_133 ?_
          refine lv_iload hx hb dX3_carve_134 (lv_at hl 0 rfl) ?_
          refine lv_aload_n hx hb dX3_carve_136 rfl (lv_at hl 2 rfl) ?_
          refine va_get (D := (dC, dI)) (ci := 3) (v := .ref (b 2)) (C := RX3) (T := TX3) (N := 18) hx hb hts inX3 hown hK hP 0 rfl rfl 4 (by decide) (hts _ wm_407) (fun _ h9 => h9) rfl dX3_carve_137 ?_
          refine lv_bipush (v := iI 20) hx hb dX3_carve_140 (by decide) ?_
          refine lv_iload_n hx hb dX3_carve_142 rfl (lv_at hl 5 rfl) ?_
          refine z_mul hx hb dX3_carve_143 ?_
          refine lv_iload hx hb dX3_carve_144 (lv_at hl 6 rfl) ?_
          refine z_add hx hb dX3_carve_146 ?_
          refine z_iald (f := cmR w h K.1 (ks t.toNat) (rs t.toNat) x y u i mn) (i := (20 * y) + x) hx hb hK hP 2 1 rfl rfl (hiy) (by decide) dX3_carve_147 ?_
          refine z_icmp_ge (tgt := 156) hx hb dX3_carve_148 (by decide) (by omega) (by omega) (fun c148 => ?_) (fun c148 => ?_)
          · refine lv_aload_n hx hb dX3_carve_156 rfl (lv_at hl 2 rfl) ?_
            refine va_get (D := (dC, dI)) (ci := 3) (v := .ref (b 2)) (C := RX3) (T := TX3) (N := 18) hx hb hts inX3 hown hK hP 0 rfl rfl 4 (by decide) (hts _ wm_407) (fun _ h9 => h9) rfl dX3_carve_157 ?_
            refine lv_bipush (v := iI 20) hx hb dX3_carve_160 (by decide) ?_
            refine lv_iload_n hx hb dX3_carve_162 rfl (lv_at hl 5 rfl) ?_
            refine z_mul hx hb dX3_carve_163 ?_
            refine lv_iload hx hb dX3_carve_164 (lv_at hl 6 rfl) ?_
            refine z_add hx hb dX3_carve_166 ?_
            refine z_iald (f := cmR w h K.1 (ks t.toNat) (rs t.toNat) x y u i mn) (i := (20 * y) + x) hx hb hK hP 2 1 rfl rfl (hiy) (by decide) dX3_carve_167 ?_
            refine z_iast (f := cmR w h K.1 (ks t.toNat) (rs t.toNat) x y u i mn) (i := (20 * y) + x) (x := (cmR w h K.1 (ks t.toNat) (rs t.toNat) x y u i mn) ((20 * y) + x).toNat) hx hb hK hP hD hS 2 1 rfl rfl (hiy) (by decide) dX3_carve_168 (fun H locs hP hD hS => ?_)
            have hP : va_P (dC, dI) vwCl (mdW b cB w h cd wn (uI (cmR w h K.1 (ks t.toNat) (rs t.toNat) x y u i mn) ((20 * y) + x).toNat ((cmR w h K.1 (ks t.toNat) (rs t.toNat) x y u i mn) ((20 * y) + x).toNat)) kn ik so ks rs lf K) H := hP
            have hD : va_D A (mdW b cB w h cd wn (uI (cmR w h K.1 (ks t.toNat) (rs t.toNat) x y u i mn) ((20 * y) + x).toNat ((cmR w h K.1 (ks t.toNat) (rs t.toNat) x y u i mn) ((20 * y) + x).toNat)) kn ik so ks rs lf K) := hD
            refine lv_iinc (v := iI (x - rs t.toNat + (((i + 1) : Nat) : Int))) (lv' := [(6, .int (iI (x - rs t.toNat + (((i + 1) : Nat) : Int)))), (8, .int (iI ((K.1 ((20 * u) + (x - rs t.toNat + ((i : Nat) : Int))).toNat) + (pfM (ks t.toNat) (rs t.toNat) (x - (x - rs t.toNat + ((i : Nat) : Int))) (y - u))))), (7, .int (iI (pfM (ks t.toNat) (rs t.toNat) (x - (x - rs t.toNat + ((i : Nat) : Int))) (y - u)))), (0, .ref (b 0)), (1, .int (iI t)), (2, .int (iI (rs t.toNat))), (3, .int (iI y)), (4, .int (iI x)), (5, .int (iI u))]) hx hb dX3_carve_169 hl (k := 8) rfl ((iI_add _ _).trans (congrArg iI (by omega))) (by decide) rfl (fun ls hl => ?_)
            refine lv_goto (tgt := 48) hx hb dX3_carve_172 (by decide) ?_
            have eg : cmR w h K.1 (ks t.toNat) (rs t.toNat) x y u (i + 1) mn = uI (cmR w h K.1 (ks t.toNat) (rs t.toNat) x y u i mn) ((20 * y) + x).toNat ((cmR w h K.1 (ks t.toNat) (rs t.toNat) x y u i mn) ((20 * y) + x).toNat) := by
              show cmS w h K.1 (ks t.toNat) (rs t.toNat) x y (x - rs t.toNat + ((i : Nat) : Int)) u (cmR w h K.1 (ks t.toNat) (rs t.toNat) x y u i mn) = _
              unfold cmS
              (repeat' split) <;> first | rfl | (exfalso; omega)
            exact ih (i + 1) (by omega) _ _ _ (by rw [eg]; exact hP) (by rw [eg]; exact hD) hS (lv_sub hl [3, 4, 5, 6, 7, 8, 0] rfl)
          · refine lv_iload hx hb dX3_carve_151 (lv_at hl 0 rfl) ?_
            refine lv_goto (tgt := 168) hx hb dX3_carve_153 (by decide) ?_
            refine z_iast (f := cmR w h K.1 (ks t.toNat) (rs t.toNat) x y u i mn) (i := (20 * y) + x) (x := (K.1 ((20 * u) + (x - rs t.toNat + ((i : Nat) : Int))).toNat) + (pfM (ks t.toNat) (rs t.toNat) (x - (x - rs t.toNat + ((i : Nat) : Int))) (y - u))) hx hb hK hP hD hS 2 1 rfl rfl (hiy) (by decide) dX3_carve_168 (fun H locs hP hD hS => ?_)
            have hP : va_P (dC, dI) vwCl (mdW b cB w h cd wn (uI (cmR w h K.1 (ks t.toNat) (rs t.toNat) x y u i mn) ((20 * y) + x).toNat ((K.1 ((20 * u) + (x - rs t.toNat + ((i : Nat) : Int))).toNat) + (pfM (ks t.toNat) (rs t.toNat) (x - (x - rs t.toNat + ((i : Nat) : Int))) (y - u)))) kn ik so ks rs lf K) H := hP
            have hD : va_D A (mdW b cB w h cd wn (uI (cmR w h K.1 (ks t.toNat) (rs t.toNat) x y u i mn) ((20 * y) + x).toNat ((K.1 ((20 * u) + (x - rs t.toNat + ((i : Nat) : Int))).toNat) + (pfM (ks t.toNat) (rs t.toNat) (x - (x - rs t.toNat + ((i : Nat) : Int))) (y - u)))) kn ik so ks rs lf K) := hD
            refine lv_iinc (v := iI (x - rs t.toNat + (((i + 1) : Nat) : Int))) (lv' := [(6, .int (iI (x - rs t.toNat + (((i + 1) : Nat) : Int)))), (8, .int (iI ((K.1 ((20 * u) + (x - rs t.toNat + ((i : Nat) : Int))).toNat) + (pfM (ks t.toNat) (rs t.toNat) (x - (x - rs t.toNat + ((i : Nat) : Int))) (y - u))))), (7, .int (iI (pfM (ks t.toNat) (rs t.toNat) (x - (x - rs t.toNat + ((i : Nat) : Int))) (y - u)))), (0, .ref (b 0)), (1, .int (iI t)), (2, .int (iI (rs t.toNat))), (3, .int (iI y)), (4, .int (iI x)), (5, .int (iI u))]) hx hb dX3_carve_169 hl (k := 8) rfl ((iI_add _ _).trans (congrArg iI (by omega))) (by decide) rfl (fun ls hl => ?_)
            refine lv_goto (tgt := 48) hx hb dX3_carve_172 (by decide) ?_
            have eg : cmR w h K.1 (ks t.toNat) (rs t.toNat) x y u (i + 1) mn = uI (cmR w h K.1 (ks t.toNat) (rs t.toNat) x y u i mn) ((20 * y) + x).toNat ((K.1 ((20 * u) + (x - rs t.toNat + ((i : Nat) : Int))).toNat) + (pfM (ks t.toNat) (rs t.toNat) (x - (x - rs t.toNat + ((i : Nat) : Int))) (y - u))) := by
              show cmS w h K.1 (ks t.toNat) (rs t.toNat) x y (x - rs t.toNat + ((i : Nat) : Int)) u (cmR w h K.1 (ks t.toNat) (rs t.toNat) x y u i mn) = _
              unfold cmS
              (repeat' split) <;> first | rfl | (exfalso; omega)
            exact ih (i + 1) (by omega) _ _ _ (by rw [eg]; exact hP) (by rw [eg]; exact hD) hS (lv_sub hl [3, 4, 5, 6, 7, 8, 0] rfl)
set_option maxHeartbeats 4000000 in
set_option maxRecDepth 100000 in
theorem lp_X3_carve_34 {p : Program} {l : Launch} {e : Env} {s : State} {m : MethodId} {args : Array Value} {below : List Frame} {meth : Method} {c : Code} {Q : State → Prop} {A : Nat → Prop} {dC : Nat → ClassId} {dI : Nat → Nat → Nat} (b : Nat → Nat) (cB : Nat → ClassId) (w h : Nat) (cd : Int) (wn mn kn : Nat → Int) (ik so : Int) (ks rs lf : Nat → Int) (K : MK) (t x y : Int) (hx : p.tables.exec = Jvm.exec) (hb : c.code = cX3_carve) (hml : c.maxLocals = 9) (hown : s.vm.findClass RX3 = some m.cls) (hts : ∀ w ∈ wsAll, w.before args s = true) (hA : ∀ q : Nat, s.heap.size ≤ q → A q) (hZ : zZ A s s.heap) (hK : va_K (dC, dI) vwCl (mdT cB) s) (hw : 1 ≤ w ∧ w ≤ 20) (hh : 1 ≤ h ∧ h ≤ 20) (ht3 : 0 ≤ t ∧ t ≤ 3) (hks : 0 ≤ ks t.toNat ∧ ks t.toNat ≤ 2) (hrs : 0 ≤ rs t.toNat ∧ rs t.toNat ≤ 5) (htp : bd K.1 (-1) 1000) (hmn : bd mn 0 1000) (hx0 : 0 ≤ x ∧ x < (w : Int)) (hy0 : 0 ≤ y ∧ y < (h : Int)) (kk : ∀ (H : Heap) (locs : List Loc) (ls : Array Slot), va_P (dC, dI) vwCl (mdW b cB w h cd wn (cmQ w h K.1 (ks t.toNat) (rs t.toNat) x y ((2 * rs t.toNat + 1).toNat) mn) kn ik so ks rs lf K) H → va_D A (mdW b cB w h cd wn (cmQ w h K.1 (ks t.toNat) (rs t.toNat) x y ((2 * rs t.toNat + 1).toNat) mn) kn ik so ks rs lf K) → va_S A s.heap H locs → lv_has ls 9 [(0, .ref (b 0)), (1, .int (iI t)), (2, .int (iI (rs t.toNat))), (3, .int (iI y)), (4, .int (iI x)), (5, .int (iI (y - rs t.toNat + (((2 * rs t.toNat + 1).toNat : Nat) : Int))))] → W p l e r_X3_carve s m args below meth c H locs 0 0 Q (F0 m 181 ls [])) : ∀ (n i : Nat), i + n = (2 * rs t.toNat + 1).toNat → ∀ (H : Heap) (locs : List Loc) (ls : Array Slot), va_P (dC, dI) vwCl (mdW b cB w h cd wn (cmQ w h K.1 (ks t.toNat) (rs t.toNat) x y i mn) kn ik so ks rs lf K) H → va_D A (mdW b cB w h cd wn (cmQ w h K.1 (ks t.toNat) (rs t.toNat) x y i mn) kn ik so ks rs lf K) → va_S A s.heap H locs → lv_has ls 9 [(0, .ref (b 0)), (1, .int (iI t)), (2, .int (iI (rs t.toNat))), (3, .int (iI y)), (4, .int (iI x)), (5, .int (iI (y - rs t.toNat + ((i : Nat) : Int))))] → W p l e r_X3_carve s m args below meth c H locs 0 0 Q (F0 m 34 ls []) := by
  intro n
  induction n with
  | zero =>
    intro i hi H locs ls hP hD hS hl
    have hi9 : (2 * rs t.toNat + 1).toNat = i := by omega
    subst hi9
    refine lv_iload hx hb dX3_carve_34 (lv_at hl 5 rfl) ?_
    refine lv_iload_n hx hb dX3_carve_36 rfl (lv_at hl 3 rfl) ?_
    refine lv_iload_n hx hb dX3_carve_37 rfl (lv_at hl 2 rfl) ?_
    refine z_add hx hb dX3_carve_38 ?_
    refine z_icmp_gt (tgt := 181) hx hb dX3_carve_39 (by decide) (by omega) (by omega) (fun c39 => ?_) (fun c39 => by exfalso; omega)
    exact kk _ _ _ hP hD hS (lv_sub hl [0, 1, 2, 3, 4, 5] rfl)
  | succ n ih =>
    intro i hi H locs ls hP hD hS hl
    refine lv_iload hx hb dX3_carve_34 (lv_at hl 5 rfl) ?_
    refine lv_iload_n hx hb dX3_carve_36 rfl (lv_at hl 3 rfl) ?_
    refine lv_iload_n hx hb dX3_carve_37 rfl (lv_at hl 2 rfl) ?_
    refine z_add hx hb dX3_carve_38 ?_
    refine z_icmp_gt (tgt := 181) hx hb dX3_carve_39 (by decide) (by omega) (by omega) (fun c39 => by exfalso; omega) (fun c39 => ?_)
    refine lv_iload hx hb dX3_carve_42 (lv_at hl 4 rfl) ?_
    refine lv_iload_n hx hb dX3_carve_44 rfl (lv_at hl 2 rfl) ?_
    refine z_sub hx hb dX3_carve_45 ?_
    refine z_top (b := x - rs t.toNat + ((0 : Nat) : Int)) (by omega) ?_
    refine lv_istore (lv' := [(6, .int (iI (x - rs t.toNat + ((0 : Nat) : Int)))), (0, .ref (b 0)), (1, .int (iI t)), (2, .int (iI (rs t.toNat))), (3, .int (iI y)), (4, .int (iI x)), (5, .int (iI (y - rs t.toNat + ((i : Nat) : Int))))]) hx hb dX3_carve_46 hl (by decide) rfl (fun ls hl => ?_)
    refine lp_X3_carve_48 b cB w h cd wn (cmQ w h K.1 (ks t.toNat) (rs t.toNat) x y i mn) kn ik so ks rs lf K t x y (y - rs t.toNat + ((i : Nat) : Int)) hx hb hml hown hts hA hZ hK (hw) (hh) (ht3) (hks) (hrs) (htp) (cmQ_rg hmn) (hx0) (hy0) (by omega) (fun H locs ls hP hD hS hl => ?_)  ((2 * rs t.toNat + 1).toNat) 0 (by omega) _ _ _ hP hD hS (lv_sub hl [1, 2, 3, 4, 5, 6, 0] rfl)
    have hP : va_P (dC, dI) vwCl (mdW b cB w h cd wn (cmR w h K.1 (ks t.toNat) (rs t.toNat) x y (y - rs t.toNat + ((i : Nat) : Int)) ((2 * rs t.toNat + 1).toNat) (cmQ w h K.1 (ks t.toNat) (rs t.toNat) x y i mn)) kn ik so ks rs lf K) H := hP
    have hD : va_D A (mdW b cB w h cd wn (cmR w h K.1 (ks t.toNat) (rs t.toNat) x y (y - rs t.toNat + ((i : Nat) : Int)) ((2 * rs t.toNat + 1).toNat) (cmQ w h K.1 (ks t.toNat) (rs t.toNat) x y i mn)) kn ik so ks rs lf K) := hD
    have hl : lv_has ls 9 [(0, .ref (b 0)), (1, .int (iI t)), (2, .int (iI (rs t.toNat))), (3, .int (iI y)), (4, .int (iI x)), (5, .int (iI (y - rs t.toNat + ((i : Nat) : Int)))), (6, .int (iI (x - rs t.toNat + (((2 * rs t.toNat + 1).toNat : Nat) : Int))))] := hl
    refine lv_iinc (v := iI (y - rs t.toNat + (((i + 1) : Nat) : Int))) (lv' := [(5, .int (iI (y - rs t.toNat + (((i + 1) : Nat) : Int)))), (0, .ref (b 0)), (1, .int (iI t)), (2, .int (iI (rs t.toNat))), (3, .int (iI y)), (4, .int (iI x)), (6, .int (iI (x - rs t.toNat + (((2 * rs t.toNat + 1).toNat : Nat) : Int))))]) hx hb dX3_carve_175 hl (k := 5) rfl ((iI_add _ _).trans (congrArg iI (by omega))) (by decide) rfl (fun ls hl => ?_)
    refine lv_goto (tgt := 34) hx hb dX3_carve_178 (by decide) ?_
    exact ih (i + 1) (by omega) _ _ _ hP hD hS (lv_sub hl [1, 2, 3, 4, 5, 0] rfl)
set_option maxHeartbeats 4000000 in
set_option maxRecDepth 100000 in
theorem lp_X3_carve_20 {p : Program} {l : Launch} {e : Env} {s : State} {m : MethodId} {args : Array Value} {below : List Frame} {meth : Method} {c : Code} {Q : State → Prop} {A : Nat → Prop} {dC : Nat → ClassId} {dI : Nat → Nat → Nat} (b : Nat → Nat) (cB : Nat → ClassId) (w h : Nat) (cd : Int) (wn mn kn : Nat → Int) (ik so : Int) (ks rs lf : Nat → Int) (K : MK) (t y : Int) (hx : p.tables.exec = Jvm.exec) (hb : c.code = cX3_carve) (hml : c.maxLocals = 9) (hown : s.vm.findClass RX3 = some m.cls) (hts : ∀ w ∈ wsAll, w.before args s = true) (hA : ∀ q : Nat, s.heap.size ≤ q → A q) (hZ : zZ A s s.heap) (hK : va_K (dC, dI) vwCl (mdT cB) s) (hw : 1 ≤ w ∧ w ≤ 20) (hh : 1 ≤ h ∧ h ≤ 20) (ht3 : 0 ≤ t ∧ t ≤ 3) (hks : 0 ≤ ks t.toNat ∧ ks t.toNat ≤ 2) (hrs : 0 ≤ rs t.toNat ∧ rs t.toNat ≤ 5) (htp : bd K.1 (-1) 1000) (hmn : bd mn 0 1000) (hy0 : 0 ≤ y ∧ y < (h : Int)) (kk : ∀ (H : Heap) (locs : List Loc) (ls : Array Slot), va_P (dC, dI) vwCl (mdW b cB w h cd wn (cmX w h K.1 (ks t.toNat) (rs t.toNat) y w mn) kn ik so ks rs lf K) H → va_D A (mdW b cB w h cd wn (cmX w h K.1 (ks t.toNat) (rs t.toNat) y w mn) kn ik so ks rs lf K) → va_S A s.heap H locs → lv_has ls 9 [(0, .ref (b 0)), (1, .int (iI t)), (2, .int (iI (rs t.toNat))), (3, .int (iI y)), (4, .int (iI ((w : Nat) : Int)))] → W p l e r_X3_carve s m args below meth c H locs 0 0 Q (F0 m 187 ls [])) : ∀ (n i : Nat), i + n = w → ∀ (H : Heap) (locs : List Loc) (ls : Array Slot), va_P (dC, dI) vwCl (mdW b cB w h cd wn (cmX w h K.1 (ks t.toNat) (rs t.toNat) y i mn) kn ik so ks rs lf K) H → va_D A (mdW b cB w h cd wn (cmX w h K.1 (ks t.toNat) (rs t.toNat) y i mn) kn ik so ks rs lf K) → va_S A s.heap H locs → lv_has ls 9 [(0, .ref (b 0)), (1, .int (iI t)), (2, .int (iI (rs t.toNat))), (3, .int (iI y)), (4, .int (iI ((i : Nat) : Int)))] → W p l e r_X3_carve s m args below meth c H locs 0 0 Q (F0 m 20 ls []) := by
  intro n
  induction n with
  | zero =>
    intro i hi H locs ls hP hD hS hl
    have hi9 : w = i := by omega
    subst hi9
    refine lv_iload hx hb dX3_carve_20 (lv_at hl 4 rfl) ?_
    refine lv_aload_n hx hb dX3_carve_22 rfl (lv_at hl 0 rfl) ?_
    refine va_get (D := (dC, dI)) (ci := 3) (v := .int (iI (w : Int))) (C := RX3) (T := TX3) (N := 18) hx hb hts inX3 hown hK hP 0 rfl rfl 1 (by decide) (hts _ wm_404) (fun _ h9 => h9) rfl dX3_carve_23 ?_
    refine z_icmp_ge (tgt := 187) hx hb dX3_carve_26 (by decide) (by omega) (by omega) (fun c26 => ?_) (fun c26 => by exfalso; omega)
    exact kk _ _ _ hP hD hS (lv_sub hl [0, 1, 2, 3, 4] rfl)
  | succ n ih =>
    intro i hi H locs ls hP hD hS hl
    refine lv_iload hx hb dX3_carve_20 (lv_at hl 4 rfl) ?_
    refine lv_aload_n hx hb dX3_carve_22 rfl (lv_at hl 0 rfl) ?_
    refine va_get (D := (dC, dI)) (ci := 3) (v := .int (iI (w : Int))) (C := RX3) (T := TX3) (N := 18) hx hb hts inX3 hown hK hP 0 rfl rfl 1 (by decide) (hts _ wm_404) (fun _ h9 => h9) rfl dX3_carve_23 ?_
    refine z_icmp_ge (tgt := 187) hx hb dX3_carve_26 (by decide) (by omega) (by omega) (fun c26 => by exfalso; omega) (fun c26 => ?_)
    refine lv_iload_n hx hb dX3_carve_29 rfl (lv_at hl 3 rfl) ?_
    refine lv_iload_n hx hb dX3_carve_30 rfl (lv_at hl 2 rfl) ?_
    refine z_sub hx hb dX3_carve_31 ?_
    refine z_top (b := y - rs t.toNat + ((0 : Nat) : Int)) (by omega) ?_
    refine lv_istore (lv' := [(5, .int (iI (y - rs t.toNat + ((0 : Nat) : Int)))), (0, .ref (b 0)), (1, .int (iI t)), (2, .int (iI (rs t.toNat))), (3, .int (iI y)), (4, .int (iI ((i : Nat) : Int)))]) hx hb dX3_carve_32 hl (by decide) rfl (fun ls hl => ?_)
    refine lp_X3_carve_34 b cB w h cd wn (cmX w h K.1 (ks t.toNat) (rs t.toNat) y i mn) kn ik so ks rs lf K t ((i : Nat) : Int) y hx hb hml hown hts hA hZ hK (hw) (hh) (ht3) (hks) (hrs) (htp) (cmX_rg hmn) (by omega) (hy0) (fun H locs ls hP hD hS hl => ?_)  ((2 * rs t.toNat + 1).toNat) 0 (by omega) _ _ _ hP hD hS (lv_sub hl [1, 2, 3, 4, 5, 0] rfl)
    have hP : va_P (dC, dI) vwCl (mdW b cB w h cd wn (cmQ w h K.1 (ks t.toNat) (rs t.toNat) ((i : Nat) : Int) y ((2 * rs t.toNat + 1).toNat) (cmX w h K.1 (ks t.toNat) (rs t.toNat) y i mn)) kn ik so ks rs lf K) H := hP
    have hD : va_D A (mdW b cB w h cd wn (cmQ w h K.1 (ks t.toNat) (rs t.toNat) ((i : Nat) : Int) y ((2 * rs t.toNat + 1).toNat) (cmX w h K.1 (ks t.toNat) (rs t.toNat) y i mn)) kn ik so ks rs lf K) := hD
    have hl : lv_has ls 9 [(0, .ref (b 0)), (1, .int (iI t)), (2, .int (iI (rs t.toNat))), (3, .int (iI y)), (4, .int (iI ((i : Nat) : Int))), (5, .int (iI (y - rs t.toNat + (((2 * rs t.toNat + 1).toNat : Nat) : Int))))] := hl
    refine lv_iinc (v := iI (((i + 1) : Nat) : Int)) (lv' := [(4, .int (iI (((i + 1) : Nat) : Int))), (0, .ref (b 0)), (1, .int (iI t)), (2, .int (iI (rs t.toNat))), (3, .int (iI y)), (5, .int (iI (y - rs t.toNat + (((2 * rs t.toNat + 1).toNat : Nat) : Int))))]) hx hb dX3_carve_181 hl (k := 4) rfl ((iI_add _ _).trans (congrArg iI (by omega))) (by decide) rfl (fun ls hl => ?_)
    refine lv_goto (tgt := 20) hx hb dX3_carve_184 (by decide) ?_
    exact ih (i + 1) (by omega) _ _ _ hP hD hS (lv_sub hl [1, 2, 3, 4, 0] rfl)
set_option maxHeartbeats 4000000 in
set_option maxRecDepth 100000 in
theorem lp_X3_carve_9 {p : Program} {l : Launch} {e : Env} {s : State} {m : MethodId} {args : Array Value} {below : List Frame} {meth : Method} {c : Code} {Q : State → Prop} {A : Nat → Prop} {dC : Nat → ClassId} {dI : Nat → Nat → Nat} (b : Nat → Nat) (cB : Nat → ClassId) (w h : Nat) (cd : Int) (wn mn kn : Nat → Int) (ik so : Int) (ks rs lf : Nat → Int) (K : MK) (t : Int) (hx : p.tables.exec = Jvm.exec) (hb : c.code = cX3_carve) (hml : c.maxLocals = 9) (hown : s.vm.findClass RX3 = some m.cls) (hts : ∀ w ∈ wsAll, w.before args s = true) (hA : ∀ q : Nat, s.heap.size ≤ q → A q) (hZ : zZ A s s.heap) (hK : va_K (dC, dI) vwCl (mdT cB) s) (hw : 1 ≤ w ∧ w ≤ 20) (hh : 1 ≤ h ∧ h ≤ 20) (ht3 : 0 ≤ t ∧ t ≤ 3) (hks : 0 ≤ ks t.toNat ∧ ks t.toNat ≤ 2) (hrs : 0 ≤ rs t.toNat ∧ rs t.toNat ≤ 5) (htp : bd K.1 (-1) 1000) (hmn : bd mn 0 1000) (kk : ∀ (H : Heap) (locs : List Loc) (ls : Array Slot), va_P (dC, dI) vwCl (mdW b cB w h cd wn (cmF w h K.1 (ks t.toNat) (rs t.toNat) h mn) kn ik so ks rs lf K) H → va_D A (mdW b cB w h cd wn (cmF w h K.1 (ks t.toNat) (rs t.toNat) h mn) kn ik so ks rs lf K) → va_S A s.heap H locs → lv_has ls 9 [(0, .ref (b 0)), (1, .int (iI t)), (2, .int (iI (rs t.toNat))), (3, .int (iI ((h : Nat) : Int)))] → W p l e r_X3_carve s m args below meth c H locs 0 0 Q (F0 m 193 ls [])) : ∀ (n i : Nat), i + n = h → ∀ (H : Heap) (locs : List Loc) (ls : Array Slot), va_P (dC, dI) vwCl (mdW b cB w h cd wn (cmF w h K.1 (ks t.toNat) (rs t.toNat) i mn) kn ik so ks rs lf K) H → va_D A (mdW b cB w h cd wn (cmF w h K.1 (ks t.toNat) (rs t.toNat) i mn) kn ik so ks rs lf K) → va_S A s.heap H locs → lv_has ls 9 [(0, .ref (b 0)), (1, .int (iI t)), (2, .int (iI (rs t.toNat))), (3, .int (iI ((i : Nat) : Int)))] → W p l e r_X3_carve s m args below meth c H locs 0 0 Q (F0 m 9 ls []) := by
  intro n
  induction n with
  | zero =>
    intro i hi H locs ls hP hD hS hl
    have hi9 : h = i := by omega
    subst hi9
    refine lv_iload_n hx hb dX3_carve_9 rfl (lv_at hl 3 rfl) ?_
    refine lv_aload_n hx hb dX3_carve_10 rfl (lv_at hl 0 rfl) ?_
    refine va_get (D := (dC, dI)) (ci := 3) (v := .int (iI (h : Int))) (C := RX3) (T := TX3) (N := 18) hx hb hts inX3 hown hK hP 0 rfl rfl 2 (by decide) (hts _ wm_405) (fun _ h9 => h9) rfl dX3_carve_11 ?_
    refine z_icmp_ge (tgt := 193) hx hb dX3_carve_14 (by decide) (by omega) (by omega) (fun c14 => ?_) (fun c14 => by exfalso; omega)
    exact kk _ _ _ hP hD hS (lv_sub hl [0, 1, 2, 3] rfl)
  | succ n ih =>
    intro i hi H locs ls hP hD hS hl
    refine lv_iload_n hx hb dX3_carve_9 rfl (lv_at hl 3 rfl) ?_
    refine lv_aload_n hx hb dX3_carve_10 rfl (lv_at hl 0 rfl) ?_
    refine va_get (D := (dC, dI)) (ci := 3) (v := .int (iI (h : Int))) (C := RX3) (T := TX3) (N := 18) hx hb hts inX3 hown hK hP 0 rfl rfl 2 (by decide) (hts _ wm_405) (fun _ h9 => h9) rfl dX3_carve_11 ?_
    refine z_icmp_ge (tgt := 193) hx hb dX3_carve_14 (by decide) (by omega) (by omega) (fun c14 => by exfalso; omega) (fun c14 => ?_)
    refine lv_iconst (v := iI 0) hx hb dX3_carve_17 rfl ?_
    refine lv_istore (lv' := [(4, .int (iI 0)), (0, .ref (b 0)), (1, .int (iI t)), (2, .int (iI (rs t.toNat))), (3, .int (iI ((i : Nat) : Int)))]) hx hb dX3_carve_18 hl (by decide) rfl (fun ls hl => ?_)
    refine lp_X3_carve_20 b cB w h cd wn (cmF w h K.1 (ks t.toNat) (rs t.toNat) i mn) kn ik so ks rs lf K t ((i : Nat) : Int) hx hb hml hown hts hA hZ hK (hw) (hh) (ht3) (hks) (hrs) (htp) (cmF_rg hmn) (by omega) (fun H locs ls hP hD hS hl => ?_)  w 0 (by omega) _ _ _ hP hD hS (lv_sub hl [1, 2, 3, 4, 0] rfl)
    have hP : va_P (dC, dI) vwCl (mdW b cB w h cd wn (cmX w h K.1 (ks t.toNat) (rs t.toNat) ((i : Nat) : Int) w (cmF w h K.1 (ks t.toNat) (rs t.toNat) i mn)) kn ik so ks rs lf K) H := hP
    have hD : va_D A (mdW b cB w h cd wn (cmX w h K.1 (ks t.toNat) (rs t.toNat) ((i : Nat) : Int) w (cmF w h K.1 (ks t.toNat) (rs t.toNat) i mn)) kn ik so ks rs lf K) := hD
    have hl : lv_has ls 9 [(0, .ref (b 0)), (1, .int (iI t)), (2, .int (iI (rs t.toNat))), (3, .int (iI ((i : Nat) : Int))), (4, .int (iI ((w : Nat) : Int)))] := hl
    refine lv_iinc (v := iI (((i + 1) : Nat) : Int)) (lv' := [(3, .int (iI (((i + 1) : Nat) : Int))), (0, .ref (b 0)), (1, .int (iI t)), (2, .int (iI (rs t.toNat))), (4, .int (iI ((w : Nat) : Int)))]) hx hb dX3_carve_187 hl (k := 3) rfl ((iI_add _ _).trans (congrArg iI (by omega))) (by decide) rfl (fun ls hl => ?_)
    refine lv_goto (tgt := 9) hx hb dX3_carve_190 (by decide) ?_
    exact ih (i + 1) (by omega) _ _ _ hP hD hS (lv_sub hl [1, 2, 3, 0] rfl)
set_option maxHeartbeats 4000000 in
set_option maxRecDepth 100000 in
theorem c_X3_carve (l : Launch) (dC : Nat → ClassId) (dI : Nat → Nat → Nat) (sz : Nat) (b : Nat → Nat) (cB : Nat → ClassId) (w h : Nat) (cd : Int) (wn mn kn : Nat → Int) (ik so : Int) (ks rs lf : Nat → Int) (K : MK) (t : Int) (hw : 1 ≤ w ∧ w ≤ 20) (hh : 1 ≤ h ∧ h ≤ 20) (ht3 : 0 ≤ t ∧ t ≤ 3) (hks : 0 ≤ ks t.toNat ∧ ks t.toNat ≤ 2) (hrs : 0 ≤ rs t.toNat ∧ rs t.toNat ≤ 5) (htp : bd K.1 (-1) 1000) (hmn : bd mn 0 1000) : Met l yX3_carve wsX3_carve r_X3_carve (zP (dC, dI) vwCl (mdT cB) (mdW b cB w h cd wn mn kn ik so ks rs lf K) sz [.ref (b 0), .int (iI t)]) (zQv (dC, dI) vwCl (mdT cB) (mdW b cB w h cd wn mn kn ik so ks rs lf K) sz (True) (mdW b cB w h cd wn (cmF w h K.1 (ks t.toNat) (rs t.toNat) h mn) kn ik so ks rs lf K)) 0 0 (va_A (mdW b cB w h cd wn mn kn ik so ks rs lf K) sz) := by
  refine Met.ofW (cc := cX3_carve) (maxL := 9) (ret := none) (by decide) rfl ?_
  intro p e s m args below meth c s₁ B hml hv
  obtain ⟨rfl, hsz, hP, hK, hD0, hZ⟩ := hv
  have hx := B.exec
  have hb := B.bytes
  have hr := B.returns
  have hts0 := atoms_spec (ws := wsX3_carve) B.pre
  have hts : ∀ w ∈ wsAll, w.before _ s = true := fun w h => hts0 w (List.mem_cons_of_mem _ h)
  have hown : s.vm.findClass RX3 = some m.cls := findClass_of_methodNamed B.named
  have hlocks := B.notSynchronized
  subst hsz
  have hD := hD0.self (sz := s.heap.size)
  obtain ⟨A, hAe⟩ : ∃ A, A = va_A (mdW b cB w h cd wn mn kn ik so ks rs lf K) s.heap.size := ⟨_, rfl⟩
  rw [← hAe] at hD hZ
  have hA : ∀ q : Nat, s.heap.size ≤ q → A q := fun q h => by rw [hAe]; exact Or.inr h
  have hS : va_S A s.heap s.heap [] := va_S.rf
  have hP : va_P (dC, dI) vwCl (mdW b cB w h cd wn mn kn ik so ks rs lf K) s.heap := hP
  have hl := lv_entry ([.ref (b 0), .int (iI t)]) (n := 9) (Nat.le_of_ble_eq_true rfl)
  rw [lg_entry_eq]
  generalize (lg_sl ([.ref (b 0), .int (iI t)]) ++ List.replicate (9 - (lg_sl ([.ref (b 0), .int (iI t)])).length) Slot.unset).toArray = ls at hl ⊢
  have hl : lv_has ls 9 [(0, .ref (b 0)), (1, .int (iI t))] := hl
  refine lv_aload_n hx hb dX3_carve_0 rfl (lv_at hl 0 rfl) ?_
  refine va_get (D := (dC, dI)) (ci := 3) (v := .ref (b 5)) (C := RX3) (T := TX3) (N := 18) hx hb hts inX3 hown hK hP 0 rfl rfl 9 (by decide) (hts _ wm_412) (fun _ h9 => h9) rfl dX3_carve_1 ?_
  refine lv_iload_n hx hb dX3_carve_4 rfl (lv_at hl 1 rfl) ?_
  refine z_iald (f := rs) (i := t) hx hb hK hP 5 4 rfl rfl (by omega) (by decide) dX3_carve_5 ?_
  refine lv_istore_n (lv' := [(2, .int (iI (rs (t).toNat))), (0, .ref (b 0)), (1, .int (iI t))]) hx hb dX3_carve_6 rfl hl (by decide) rfl (fun ls hl => ?_)
  refine lv_iconst (v := iI 0) hx hb dX3_carve_7 rfl ?_
  refine lv_istore_n (lv' := [(3, .int (iI 0)), (2, .int (iI (rs (t).toNat))), (0, .ref (b 0)), (1, .int (iI t))]) hx hb dX3_carve_8 rfl hl (by decide) rfl (fun ls hl => ?_)
  refine lp_X3_carve_9 b cB w h cd wn mn kn ik so ks rs lf K t hx hb hml hown hts hA hZ hK (hw) (hh) (ht3) (hks) (hrs) (htp) (hmn) (fun H locs ls hP hD hS hl => ?_)  h 0 (by omega) _ _ _ hP hD hS (lv_sub hl [2, 3, 1, 0] rfl)
  have hP : va_P (dC, dI) vwCl (mdW b cB w h cd wn (cmF w h K.1 (ks t.toNat) (rs t.toNat) h mn) kn ik so ks rs lf K) H := hP
  have hD : va_D A (mdW b cB w h cd wn (cmF w h K.1 (ks t.toNat) (rs t.toNat) h mn) kn ik so ks rs lf K) := hD
  have hl : lv_has ls 9 [(0, .ref (b 0)), (1, .int (iI t)), (2, .int (iI (rs t.toNat))), (3, .int (iI ((h : Nat) : Int)))] := hl
  subst hAe
  exact z_vret hx hb hr hlocks hP hK hD hS (trivial) dX3_carve_193
