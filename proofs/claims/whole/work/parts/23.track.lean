abbrev r_X1_clear : Room := { frames := 0, cells := 0, slots := 0, locals := 0 }
set_option maxHeartbeats 4000000 in
set_option maxRecDepth 100000 in
theorem c_X1_clear (l : Launch) (dC : Nat → ClassId) (dI : Nat → Nat → Nat) (sz : Nat) (tr kp : Nat) (ck : ClassId) (T : TK) : Met l yX1_clear wsX1_clear r_X1_clear (zP (dC, dI) vwCl ([(ck, .int)]) (tkW tr kp ck T) sz [.ref tr]) (zQv (dC, dI) vwCl ([(ck, .int)]) (tkW tr kp ck T) sz (True) (tkW tr kp ck (tkC T))) 0 0 (va_A (tkW tr kp ck T) sz) := by
  refine Met.ofW (cc := cX1_clear) (maxL := 1) (ret := none) (by decide) rfl ?_
  intro p e s m args below meth c s₁ B hml hv
  obtain ⟨rfl, hsz, hP, hK, hD0, hZ⟩ := hv
  have hx := B.exec
  have hb := B.bytes
  have hr := B.returns
  have hts0 := atoms_spec (ws := wsX1_clear) B.pre
  have hts : ∀ w ∈ wsAll, w.before _ s = true := fun w h => hts0 w (List.mem_cons_of_mem _ h)
  have hown : s.vm.findClass RX1 = some m.cls := findClass_of_methodNamed B.named
  have hlocks := B.notSynchronized
  subst hsz
  have hD := hD0.self (sz := s.heap.size)
  obtain ⟨A, hAe⟩ : ∃ A, A = va_A (tkW tr kp ck T) s.heap.size := ⟨_, rfl⟩
  rw [← hAe] at hD hZ
  have hA : ∀ q : Nat, s.heap.size ≤ q → A q := fun q h => by rw [hAe]; exact Or.inr h
  have hS : va_S A s.heap s.heap [] := va_S.rf
  have hP : va_P (dC, dI) vwCl (tkW tr kp ck T) s.heap := hP
  have hl := lv_entry ([.ref tr]) (n := 1) (Nat.le_of_ble_eq_true rfl)
  rw [lg_entry_eq]
  generalize (lg_sl ([.ref tr]) ++ List.replicate (1 - (lg_sl ([.ref tr])).length) Slot.unset).toArray = ls at hl ⊢
  have hl : lv_has ls 1 [(0, .ref tr)] := hl
  refine lv_aload_n hx hb dX1_clear_0 rfl (lv_at hl 0 rfl) ?_
  refine lv_iconst (v := iI 0) hx hb dX1_clear_1 rfl ?_
  refine va_put (D := (dC, dI)) (ci := 1) (v := .int (iI 0)) (ty := .int) (C := RX1) (T := TX1) (N := 6) hx hb hts inX1 tyX1 tyX1_ok nmX1 hown hK hP hD hS 0 rfl rfl 1 (by decide) (hts _ wm_151) (fun _ h9 => h9) rfl (by decide +kernel) rfl rfl (Nat.le_of_ble_eq_true rfl) dX1_clear_2 (fun H locs hP hD hS => ?_)
  have hP : va_P (dC, dI) vwCl ([(tr, oI 1 [.ref kp, .int (iI 0), .long (lI T.2.2.1), .int (iI T.2.2.2.1), .int (iI T.2.2.2.2.1), .int (iI T.2.2.2.2.2)]), (kp, aI ck 2000 T.1)]) H := hP
  have hD : va_D A ([(tr, oI 1 [.ref kp, .int (iI 0), .long (lI T.2.2.1), .int (iI T.2.2.2.1), .int (iI T.2.2.2.2.1), .int (iI T.2.2.2.2.2)]), (kp, aI ck 2000 T.1)]) := hD
  refine lv_aload_n hx hb dX1_clear_5 rfl (lv_at hl 0 rfl) ?_
  refine lv_lconst (v := lI 0) hx hb dX1_clear_6 (by decide) ?_
  refine va_put (D := (dC, dI)) (ci := 1) (v := .long (lI 0)) (ty := .long) (C := RX1) (T := TX1) (N := 6) hx hb hts inX1 tyX1 tyX1_ok nmX1 hown hK hP hD hS 0 rfl rfl 2 (by decide) (hts _ wm_152) (fun _ h9 => h9) rfl (by decide +kernel) rfl rfl (Nat.le_of_ble_eq_true rfl) dX1_clear_7 (fun H locs hP hD hS => ?_)
  have hP : va_P (dC, dI) vwCl ([(tr, oI 1 [.ref kp, .int (iI 0), .long (lI 0), .int (iI T.2.2.2.1), .int (iI T.2.2.2.2.1), .int (iI T.2.2.2.2.2)]), (kp, aI ck 2000 T.1)]) H := hP
  have hD : va_D A ([(tr, oI 1 [.ref kp, .int (iI 0), .long (lI 0), .int (iI T.2.2.2.1), .int (iI T.2.2.2.2.1), .int (iI T.2.2.2.2.2)]), (kp, aI ck 2000 T.1)]) := hD
  subst hAe
  exact z_vret hx hb hr hlocks hP hK hD hS (trivial) dX1_clear_10
abbrev r_X1_add : Room := { frames := 1, cells := 0, slots := 0, locals := 24 }
set_option maxHeartbeats 4000000 in
set_option maxRecDepth 100000 in
theorem c_X1_add (l : Launch) (dC : Nat → ClassId) (dI : Nat → Nat → Nat) (sz : Nat) (tr kp : Nat) (ck : ClassId) (T : TK) (x y z : Int) (h0 : 0 ≤ T.2.1 ∧ T.2.1 < 2147483647) (h1 : 0 ≤ T.2.2.2.1 ∧ T.2.2.2.1 < 20) (h2 : 0 ≤ T.2.2.2.2.1 ∧ T.2.2.2.2.1 < 20) (h3 : 0 ≤ T.2.2.2.2.2 ∧ T.2.2.2.2.2 ≤ 1000) (h4 : 0 ≤ x ∧ x < 20) (h5 : 0 ≤ y ∧ y < 20) (h6 : 0 ≤ z ∧ z ≤ 1000) : Met l yX1_add wsX1_add r_X1_add (zP (dC, dI) vwCl ([(ck, .int)]) (tkW tr kp ck T) sz [.ref tr, .int (iI x), .int (iI y), .int (iI z)]) (zQv (dC, dI) vwCl ([(ck, .int)]) (tkW tr kp ck T) sz (True) (tkW tr kp ck (tkA x y z T))) 0 0 (va_A (tkW tr kp ck T) sz) := by
  refine Met.ofW (cc := cX1_add) (maxL := 4) (ret := none) (by decide) rfl ?_
  intro p e s m args below meth c s₁ B hml hv
  obtain ⟨rfl, hsz, hP, hK, hD0, hZ⟩ := hv
  have hx := B.exec
  have hb := B.bytes
  have hr := B.returns
  have hts0 := atoms_spec (ws := wsX1_add) B.pre
  have hts : ∀ w ∈ wsAll, w.before _ s = true := fun w h => hts0 w (List.mem_cons_of_mem _ h)
  have hown : s.vm.findClass RX1 = some m.cls := findClass_of_methodNamed B.named
  have hlocks := B.notSynchronized
  subst hsz
  have hD := hD0.self (sz := s.heap.size)
  obtain ⟨A, hAe⟩ : ∃ A, A = va_A (tkW tr kp ck T) s.heap.size := ⟨_, rfl⟩
  rw [← hAe] at hD hZ
  have hA : ∀ q : Nat, s.heap.size ≤ q → A q := fun q h => by rw [hAe]; exact Or.inr h
  have hS : va_S A s.heap s.heap [] := va_S.rf
  have hP : va_P (dC, dI) vwCl (tkW tr kp ck T) s.heap := hP
  have hl := lv_entry ([.ref tr, .int (iI x), .int (iI y), .int (iI z)]) (n := 4) (Nat.le_of_ble_eq_true rfl)
  rw [lg_entry_eq]
  generalize (lg_sl ([.ref tr, .int (iI x), .int (iI y), .int (iI z)]) ++ List.replicate (4 - (lg_sl ([.ref tr, .int (iI x), .int (iI y), .int (iI z)])).length) Slot.unset).toArray = ls at hl ⊢
  have hl : lv_has ls 4 [(0, .ref tr), (1, .int (iI x)), (2, .int (iI y)), (3, .int (iI z))] := hl
  refine lv_aload_n hx hb dX1_add_0 rfl (lv_at hl 0 rfl) ?_
  refine va_get (D := (dC, dI)) (ci := 1) (v := .int (iI T.2.1)) (C := RX1) (T := TX1) (N := 6) hx hb hts inX1 hown hK hP 0 rfl rfl 1 (by decide) (hts _ wm_151) (fun _ h9 => h9) rfl dX1_add_1 ?_
  refine z_if_le (tgt := 46) hx hb dX1_add_4 (by decide) (by omega) (fun c4 => ?_) (fun c4 => ?_)
  · refine lv_aload_n hx hb dX1_add_46 rfl (lv_at hl 0 rfl) ?_
    refine va_get (D := (dC, dI)) (ci := 1) (v := .int (iI T.2.1)) (C := RX1) (T := TX1) (N := 6) hx hb hts inX1 hown hK hP 0 rfl rfl 1 (by decide) (hts _ wm_151) (fun _ h9 => h9) rfl dX1_add_47 ?_
    refine lv_sipush (v := iI 2000) hx hb dX1_add_50 (by decide) ?_
    refine z_icmp_ge (tgt := 76) hx hb dX1_add_53 (by decide) (by omega) (by omega) (fun c53 => ?_) (fun c53 => ?_)
    · refine lv_aload_n hx hb dX1_add_76 rfl (lv_at hl 0 rfl) ?_
      refine lv_dup hx hb dX1_add_77 rfl ?_
      refine va_get (D := (dC, dI)) (ci := 1) (v := .int (iI T.2.1)) (C := RX1) (T := TX1) (N := 6) hx hb hts inX1 hown hK hP 0 rfl rfl 1 (by decide) (hts _ wm_151) (fun _ h9 => h9) rfl dX1_add_78 ?_
      refine lv_iconst (v := iI 1) hx hb dX1_add_81 rfl ?_
      refine z_add hx hb dX1_add_82 ?_
      refine va_put (D := (dC, dI)) (ci := 1) (v := .int (iI (T.2.1 + 1))) (ty := .int) (C := RX1) (T := TX1) (N := 6) hx hb hts inX1 tyX1 tyX1_ok nmX1 hown hK hP hD hS 0 rfl rfl 1 (by decide) (hts _ wm_151) (fun _ h9 => h9) rfl (by decide +kernel) rfl rfl (Nat.le_of_ble_eq_true rfl) dX1_add_83 (fun H locs hP hD hS => ?_)
      have hP : va_P (dC, dI) vwCl ([(tr, oI 1 [.ref kp, .int (iI (T.2.1 + 1)), .long (lI T.2.2.1), .int (iI T.2.2.2.1), .int (iI T.2.2.2.2.1), .int (iI T.2.2.2.2.2)]), (kp, aI ck 2000 T.1)]) H := hP
      have hD : va_D A ([(tr, oI 1 [.ref kp, .int (iI (T.2.1 + 1)), .long (lI T.2.2.1), .int (iI T.2.2.2.1), .int (iI T.2.2.2.2.1), .int (iI T.2.2.2.2.2)]), (kp, aI ck 2000 T.1)]) := hD
      refine lv_aload_n hx hb dX1_add_86 rfl (lv_at hl 0 rfl) ?_
      refine lv_iload_n hx hb dX1_add_87 rfl (lv_at hl 1 rfl) ?_
      refine va_put (D := (dC, dI)) (ci := 1) (v := .int (iI x)) (ty := .int) (C := RX1) (T := TX1) (N := 6) hx hb hts inX1 tyX1 tyX1_ok nmX1 hown hK hP hD hS 0 rfl rfl 3 (by decide) (hts _ wm_153) (fun _ h9 => h9) rfl (by decide +kernel) rfl rfl (Nat.le_of_ble_eq_true rfl) dX1_add_88 (fun H locs hP hD hS => ?_)
      have hP : va_P (dC, dI) vwCl ([(tr, oI 1 [.ref kp, .int (iI (T.2.1 + 1)), .long (lI T.2.2.1), .int (iI x), .int (iI T.2.2.2.2.1), .int (iI T.2.2.2.2.2)]), (kp, aI ck 2000 T.1)]) H := hP
      have hD : va_D A ([(tr, oI 1 [.ref kp, .int (iI (T.2.1 + 1)), .long (lI T.2.2.1), .int (iI x), .int (iI T.2.2.2.2.1), .int (iI T.2.2.2.2.2)]), (kp, aI ck 2000 T.1)]) := hD
      refine lv_aload_n hx hb dX1_add_91 rfl (lv_at hl 0 rfl) ?_
      refine lv_iload_n hx hb dX1_add_92 rfl (lv_at hl 2 rfl) ?_
      refine va_put (D := (dC, dI)) (ci := 1) (v := .int (iI y)) (ty := .int) (C := RX1) (T := TX1) (N := 6) hx hb hts inX1 tyX1 tyX1_ok nmX1 hown hK hP hD hS 0 rfl rfl 4 (by decide) (hts _ wm_154) (fun _ h9 => h9) rfl (by decide +kernel) rfl rfl (Nat.le_of_ble_eq_true rfl) dX1_add_93 (fun H locs hP hD hS => ?_)
      have hP : va_P (dC, dI) vwCl ([(tr, oI 1 [.ref kp, .int (iI (T.2.1 + 1)), .long (lI T.2.2.1), .int (iI x), .int (iI y), .int (iI T.2.2.2.2.2)]), (kp, aI ck 2000 T.1)]) H := hP
      have hD : va_D A ([(tr, oI 1 [.ref kp, .int (iI (T.2.1 + 1)), .long (lI T.2.2.1), .int (iI x), .int (iI y), .int (iI T.2.2.2.2.2)]), (kp, aI ck 2000 T.1)]) := hD
      refine lv_aload_n hx hb dX1_add_96 rfl (lv_at hl 0 rfl) ?_
      refine lv_iload_n hx hb dX1_add_97 rfl (lv_at hl 3 rfl) ?_
      refine va_put (D := (dC, dI)) (ci := 1) (v := .int (iI z)) (ty := .int) (C := RX1) (T := TX1) (N := 6) hx hb hts inX1 tyX1 tyX1_ok nmX1 hown hK hP hD hS 0 rfl rfl 5 (by decide) (hts _ wm_155) (fun _ h9 => h9) rfl (by decide +kernel) rfl rfl (Nat.le_of_ble_eq_true rfl) dX1_add_98 (fun H locs hP hD hS => ?_)
      have hP : va_P (dC, dI) vwCl ([(tr, oI 1 [.ref kp, .int (iI (T.2.1 + 1)), .long (lI T.2.2.1), .int (iI x), .int (iI y), .int (iI z)]), (kp, aI ck 2000 T.1)]) H := hP
      have hD : va_D A ([(tr, oI 1 [.ref kp, .int (iI (T.2.1 + 1)), .long (lI T.2.2.1), .int (iI x), .int (iI y), .int (iI z)]), (kp, aI ck 2000 T.1)]) := hD
      subst hAe
      rw [show tkA x y z T = (T.1, T.2.1 + 1, T.2.2.1, x, y, z) from by first | (exfalso; omega) | (unfold tkA; rw [if_pos (show T.2.1 < 2000 by omega), if_pos (show 0 < T.2.1 by omega)]) | (unfold tkA; rw [if_pos (show T.2.1 < 2000 by omega), if_neg (show ¬ 0 < T.2.1 by omega)]) | (unfold tkA; rw [if_neg (show ¬ T.2.1 < 2000 by omega), if_pos (show 0 < T.2.1 by omega)]) | (unfold tkA; rw [if_neg (show ¬ T.2.1 < 2000 by omega), if_neg (show ¬ 0 < T.2.1 by omega)])]
      exact z_vret hx hb hr hlocks hP hK hD hS (trivial) dX1_add_101
    · refine lv_aload_n hx hb dX1_add_56 rfl (lv_at hl 0 rfl) ?_
      refine va_get (D := (dC, dI)) (ci := 1) (v := .ref kp) (C := RX1) (T := TX1) (N := 6) hx hb hts inX1 hown hK hP 0 rfl rfl 0 (by decide) (hts _ wm_150) (fun _ h9 => h9) rfl dX1_add_57 ?_
      refine lv_aload_n hx hb dX1_add_60 rfl (lv_at hl 0 rfl) ?_
      refine va_get (D := (dC, dI)) (ci := 1) (v := .int (iI T.2.1)) (C := RX1) (T := TX1) (N := 6) hx hb hts inX1 hown hK hP 0 rfl rfl 1 (by decide) (hts _ wm_151) (fun _ h9 => h9) rfl dX1_add_61 ?_
      refine lv_iload_n hx hb dX1_add_64 rfl (lv_at hl 3 rfl) ?_
      refine lv_bipush (v := iI 20) hx hb dX1_add_65 (by decide) ?_
      refine z_mul hx hb dX1_add_67 ?_
      refine lv_iload_n hx hb dX1_add_68 rfl (lv_at hl 2 rfl) ?_
      refine z_add hx hb dX1_add_69 ?_
      refine lv_bipush (v := iI 20) hx hb dX1_add_70 (by decide) ?_
      refine z_mul hx hb dX1_add_72 ?_
      refine lv_iload_n hx hb dX1_add_73 rfl (lv_at hl 1 rfl) ?_
      refine z_add hx hb dX1_add_74 ?_
      refine z_iast (f := T.1) (i := T.2.1) (x := (((z * 20) + y) * 20) + x) hx hb hK hP hD hS 1 0 rfl rfl (by omega) (by omega) dX1_add_75 (fun H locs hP hD hS => ?_)
      have hP : va_P (dC, dI) vwCl ([(tr, oI 1 [.ref kp, .int (iI T.2.1), .long (lI T.2.2.1), .int (iI T.2.2.2.1), .int (iI T.2.2.2.2.1), .int (iI T.2.2.2.2.2)]), (kp, aI ck 2000 (uI T.1 (T.2.1).toNat ((((z * 20) + y) * 20) + x)))]) H := hP
      have hD : va_D A ([(tr, oI 1 [.ref kp, .int (iI T.2.1), .long (lI T.2.2.1), .int (iI T.2.2.2.1), .int (iI T.2.2.2.2.1), .int (iI T.2.2.2.2.2)]), (kp, aI ck 2000 (uI T.1 (T.2.1).toNat ((((z * 20) + y) * 20) + x)))]) := hD
      refine lv_aload_n hx hb dX1_add_76 rfl (lv_at hl 0 rfl) ?_
      refine lv_dup hx hb dX1_add_77 rfl ?_
      refine va_get (D := (dC, dI)) (ci := 1) (v := .int (iI T.2.1)) (C := RX1) (T := TX1) (N := 6) hx hb hts inX1 hown hK hP 0 rfl rfl 1 (by decide) (hts _ wm_151) (fun _ h9 => h9) rfl dX1_add_78 ?_
      refine lv_iconst (v := iI 1) hx hb dX1_add_81 rfl ?_
      refine z_add hx hb dX1_add_82 ?_
      refine va_put (D := (dC, dI)) (ci := 1) (v := .int (iI (T.2.1 + 1))) (ty := .int) (C := RX1) (T := TX1) (N := 6) hx hb hts inX1 tyX1 tyX1_ok nmX1 hown hK hP hD hS 0 rfl rfl 1 (by decide) (hts _ wm_151) (fun _ h9 => h9) rfl (by decide +kernel) rfl rfl (Nat.le_of_ble_eq_true rfl) dX1_add_83 (fun H locs hP hD hS => ?_)
      have hP : va_P (dC, dI) vwCl ([(tr, oI 1 [.ref kp, .int (iI (T.2.1 + 1)), .long (lI T.2.2.1), .int (iI T.2.2.2.1), .int (iI T.2.2.2.2.1), .int (iI T.2.2.2.2.2)]), (kp, aI ck 2000 (uI T.1 (T.2.1).toNat ((((z * 20) + y) * 20) + x)))]) H := hP
      have hD : va_D A ([(tr, oI 1 [.ref kp, .int (iI (T.2.1 + 1)), .long (lI T.2.2.1), .int (iI T.2.2.2.1), .int (iI T.2.2.2.2.1), .int (iI T.2.2.2.2.2)]), (kp, aI ck 2000 (uI T.1 (T.2.1).toNat ((((z * 20) + y) * 20) + x)))]) := hD
      refine lv_aload_n hx hb dX1_add_86 rfl (lv_at hl 0 rfl) ?_
      refine lv_iload_n hx hb dX1_add_87 rfl (lv_at hl 1 rfl) ?_
      refine va_put (D := (dC, dI)) (ci := 1) (v := .int (iI x)) (ty := .int) (C := RX1) (T := TX1) (N := 6) hx hb hts inX1 tyX1 tyX1_ok nmX1 hown hK hP hD hS 0 rfl rfl 3 (by decide) (hts _ wm_153) (fun _ h9 => h9) rfl (by decide +kernel) rfl rfl (Nat.le_of_ble_eq_true rfl) dX1_add_88 (fun H locs hP hD hS => ?_)
      have hP : va_P (dC, dI) vwCl ([(tr, oI 1 [.ref kp, .int (iI (T.2.1 + 1)), .long (lI T.2.2.1), .int (iI x), .int (iI T.2.2.2.2.1), .int (iI T.2.2.2.2.2)]), (kp, aI ck 2000 (uI T.1 (T.2.1).toNat ((((z * 20) + y) * 20) + x)))]) H := hP
      have hD : va_D A ([(tr, oI 1 [.ref kp, .int (iI (T.2.1 + 1)), .long (lI T.2.2.1), .int (iI x), .int (iI T.2.2.2.2.1), .int (iI T.2.2.2.2.2)]), (kp, aI ck 2000 (uI T.1 (T.2.1).toNat ((((z * 20) + y) * 20) + x)))]) := hD
      refine lv_aload_n hx hb dX1_add_91 rfl (lv_at hl 0 rfl) ?_
      refine lv_iload_n hx hb dX1_add_92 rfl (lv_at hl 2 rfl) ?_
      refine va_put (D := (dC, dI)) (ci := 1) (v := .int (iI y)) (ty := .int) (C := RX1) (T := TX1) (N := 6) hx hb hts inX1 tyX1 tyX1_ok nmX1 hown hK hP hD hS 0 rfl rfl 4 (by decide) (hts _ wm_154) (fun _ h9 => h9) rfl (by decide +kernel) rfl rfl (Nat.le_of_ble_eq_true rfl) dX1_add_93 (fun H locs hP hD hS => ?_)
      have hP : va_P (dC, dI) vwCl ([(tr, oI 1 [.ref kp, .int (iI (T.2.1 + 1)), .long (lI T.2.2.1), .int (iI x), .int (iI y), .int (iI T.2.2.2.2.2)]), (kp, aI ck 2000 (uI T.1 (T.2.1).toNat ((((z * 20) + y) * 20) + x)))]) H := hP
      have hD : va_D A ([(tr, oI 1 [.ref kp, .int (iI (T.2.1 + 1)), .long (lI T.2.2.1), .int (iI x), .int (iI y), .int (iI T.2.2.2.2.2)]), (kp, aI ck 2000 (uI T.1 (T.2.1).toNat ((((z * 20) + y) * 20) + x)))]) := hD
      refine lv_aload_n hx hb dX1_add_96 rfl (lv_at hl 0 rfl) ?_
      refine lv_iload_n hx hb dX1_add_97 rfl (lv_at hl 3 rfl) ?_
      refine va_put (D := (dC, dI)) (ci := 1) (v := .int (iI z)) (ty := .int) (C := RX1) (T := TX1) (N := 6) hx hb hts inX1 tyX1 tyX1_ok nmX1 hown hK hP hD hS 0 rfl rfl 5 (by decide) (hts _ wm_155) (fun _ h9 => h9) rfl (by decide +kernel) rfl rfl (Nat.le_of_ble_eq_true rfl) dX1_add_98 (fun H locs hP hD hS => ?_)
      have hP : va_P (dC, dI) vwCl ([(tr, oI 1 [.ref kp, .int (iI (T.2.1 + 1)), .long (lI T.2.2.1), .int (iI x), .int (iI y), .int (iI z)]), (kp, aI ck 2000 (uI T.1 (T.2.1).toNat ((((z * 20) + y) * 20) + x)))]) H := hP
      have hD : va_D A ([(tr, oI 1 [.ref kp, .int (iI (T.2.1 + 1)), .long (lI T.2.2.1), .int (iI x), .int (iI y), .int (iI z)]), (kp, aI ck 2000 (uI T.1 (T.2.1).toNat ((((z * 20) + y) * 20) + x)))]) := hD
      subst hAe
      rw [show tkA x y z T = (uI T.1 (T.2.1).toNat ((((z * 20) + y) * 20) + x), T.2.1 + 1, T.2.2.1, x, y, z) from by first | (exfalso; omega) | (unfold tkA; rw [if_pos (show T.2.1 < 2000 by omega), if_pos (show 0 < T.2.1 by omega)]) | (unfold tkA; rw [if_pos (show T.2.1 < 2000 by omega), if_neg (show ¬ 0 < T.2.1 by omega)]) | (unfold tkA; rw [if_neg (show ¬ T.2.1 < 2000 by omega), if_pos (show 0 < T.2.1 by omega)]) | (unfold tkA; rw [if_neg (show ¬ T.2.1 < 2000 by omega), if_neg (show ¬ 0 < T.2.1 by omega)])]
      exact z_vret hx hb hr hlocks hP hK hD hS (trivial) dX1_add_101
  · refine lv_aload_n hx hb dX1_add_7 rfl (lv_at hl 0 rfl) ?_
    refine lv_dup hx hb dX1_add_8 rfl ?_
    refine va_get (D := (dC, dI)) (ci := 1) (v := .long (lI T.2.2.1)) (C := RX1) (T := TX1) (N := 6) hx hb hts inX1 hown hK hP 0 rfl rfl 2 (by decide) (hts _ wm_152) (fun _ h9 => h9) rfl dX1_add_9 ?_
    refine lv_iload_n hx hb dX1_add_12 rfl (lv_at hl 1 rfl) ?_
    refine lv_aload_n hx hb dX1_add_13 rfl (lv_at hl 0 rfl) ?_
    refine va_get (D := (dC, dI)) (ci := 1) (v := .int (iI T.2.2.2.1)) (C := RX1) (T := TX1) (N := 6) hx hb hts inX1 hown hK hP 0 rfl rfl 3 (by decide) (hts _ wm_153) (fun _ h9 => h9) rfl dX1_add_14 ?_
    refine z_sub hx hb dX1_add_17 ?_
    refine z_abs hx hb (hml.trans hl.1.symm) hown (hts _ wm_324) (hts _ wm_325) (hts _ wm_110) (hts _ wm_326) (Nat.le_of_ble_eq_true rfl) (Nat.le_of_ble_eq_true rfl) (Nat.le_of_ble_eq_true rfl) (Nat.le_of_ble_eq_true rfl) dX1_add_18 (by omega) ?_
    refine lv_iload_n hx hb dX1_add_21 rfl (lv_at hl 2 rfl) ?_
    refine lv_aload_n hx hb dX1_add_22 rfl (lv_at hl 0 rfl) ?_
    refine va_get (D := (dC, dI)) (ci := 1) (v := .int (iI T.2.2.2.2.1)) (C := RX1) (T := TX1) (N := 6) hx hb hts inX1 hown hK hP 0 rfl rfl 4 (by decide) (hts _ wm_154) (fun _ h9 => h9) rfl dX1_add_23 ?_
    refine z_sub hx hb dX1_add_26 ?_
    refine z_abs hx hb (hml.trans hl.1.symm) hown (hts _ wm_324) (hts _ wm_325) (hts _ wm_110) (hts _ wm_326) (Nat.le_of_ble_eq_true rfl) (Nat.le_of_ble_eq_true rfl) (Nat.le_of_ble_eq_true rfl) (Nat.le_of_ble_eq_true rfl) dX1_add_27 (by omega) ?_
    refine z_add hx hb dX1_add_30 ?_
    refine lv_iload_n hx hb dX1_add_31 rfl (lv_at hl 3 rfl) ?_
    refine lv_aload_n hx hb dX1_add_32 rfl (lv_at hl 0 rfl) ?_
    refine va_get (D := (dC, dI)) (ci := 1) (v := .int (iI T.2.2.2.2.2)) (C := RX1) (T := TX1) (N := 6) hx hb hts inX1 hown hK hP 0 rfl rfl 5 (by decide) (hts _ wm_155) (fun _ h9 => h9) rfl dX1_add_33 ?_
    refine z_sub hx hb dX1_add_36 ?_
    refine z_abs hx hb (hml.trans hl.1.symm) hown (hts _ wm_324) (hts _ wm_325) (hts _ wm_110) (hts _ wm_326) (Nat.le_of_ble_eq_true rfl) (Nat.le_of_ble_eq_true rfl) (Nat.le_of_ble_eq_true rfl) (Nat.le_of_ble_eq_true rfl) dX1_add_37 (by omega) ?_
    refine z_add hx hb dX1_add_40 ?_
    refine z_i2l hx hb dX1_add_41 (by
      have e1 := zab_le (a := x - T.2.2.2.1) (b := 20) (by omega) (by omega)
      have e2 := zab_le (a := y - T.2.2.2.2.1) (b := 20) (by omega) (by omega)
      have e3 := zab_le (a := z - T.2.2.2.2.2) (b := 1000) (by omega) (by omega)
      omega) ?_
    refine z_ladd hx hb dX1_add_42 ?_
    refine va_put (D := (dC, dI)) (ci := 1) (v := .long (lI (T.2.2.1 + (((zab (x - T.2.2.2.1)) + (zab (y - T.2.2.2.2.1))) + (zab (z - T.2.2.2.2.2)))))) (ty := .long) (C := RX1) (T := TX1) (N := 6) hx hb hts inX1 tyX1 tyX1_ok nmX1 hown hK hP hD hS 0 rfl rfl 2 (by decide) (hts _ wm_152) (fun _ h9 => h9) rfl (by decide +kernel) rfl rfl (Nat.le_of_ble_eq_true rfl) dX1_add_43 (fun H locs hP hD hS => ?_)
    have hP : va_P (dC, dI) vwCl ([(tr, oI 1 [.ref kp, .int (iI T.2.1), .long (lI (T.2.2.1 + (((zab (x - T.2.2.2.1)) + (zab (y - T.2.2.2.2.1))) + (zab (z - T.2.2.2.2.2))))), .int (iI T.2.2.2.1), .int (iI T.2.2.2.2.1), .int (iI T.2.2.2.2.2)]), (kp, aI ck 2000 T.1)]) H := hP
    have hD : va_D A ([(tr, oI 1 [.ref kp, .int (iI T.2.1), .long (lI (T.2.2.1 + (((zab (x - T.2.2.2.1)) + (zab (y - T.2.2.2.2.1))) + (zab (z - T.2.2.2.2.2))))), .int (iI T.2.2.2.1), .int (iI T.2.2.2.2.1), .int (iI T.2.2.2.2.2)]), (kp, aI ck 2000 T.1)]) := hD
    refine lv_aload_n hx hb dX1_add_46 rfl (lv_at hl 0 rfl) ?_
    refine va_get (D := (dC, dI)) (ci := 1) (v := .int (iI T.2.1)) (C := RX1) (T := TX1) (N := 6) hx hb hts inX1 hown hK hP 0 rfl rfl 1 (by decide) (hts _ wm_151) (fun _ h9 => h9) rfl dX1_add_47 ?_
    refine lv_sipush (v := iI 2000) hx hb dX1_add_50 (by decide) ?_
    refine z_icmp_ge (tgt := 76) hx hb dX1_add_53 (by decide) (by omega) (by omega) (fun c53 => ?_) (fun c53 => ?_)
    · refine lv_aload_n hx hb dX1_add_76 rfl (lv_at hl 0 rfl) ?_
      refine lv_dup hx hb dX1_add_77 rfl ?_
      refine va_get (D := (dC, dI)) (ci := 1) (v := .int (iI T.2.1)) (C := RX1) (T := TX1) (N := 6) hx hb hts inX1 hown hK hP 0 rfl rfl 1 (by decide) (hts _ wm_151) (fun _ h9 => h9) rfl dX1_add_78 ?_
      refine lv_iconst (v := iI 1) hx hb dX1_add_81 rfl ?_
      refine z_add hx hb dX1_add_82 ?_
      refine va_put (D := (dC, dI)) (ci := 1) (v := .int (iI (T.2.1 + 1))) (ty := .int) (C := RX1) (T := TX1) (N := 6) hx hb hts inX1 tyX1 tyX1_ok nmX1 hown hK hP hD hS 0 rfl rfl 1 (by decide) (hts _ wm_151) (fun _ h9 => h9) rfl (by decide +kernel) rfl rfl (Nat.le_of_ble_eq_true rfl) dX1_add_83 (fun H locs hP hD hS => ?_)
      have hP : va_P (dC, dI) vwCl ([(tr, oI 1 [.ref kp, .int (iI (T.2.1 + 1)), .long (lI (T.2.2.1 + (((zab (x - T.2.2.2.1)) + (zab (y - T.2.2.2.2.1))) + (zab (z - T.2.2.2.2.2))))), .int (iI T.2.2.2.1), .int (iI T.2.2.2.2.1), .int (iI T.2.2.2.2.2)]), (kp, aI ck 2000 T.1)]) H := hP
      have hD : va_D A ([(tr, oI 1 [.ref kp, .int (iI (T.2.1 + 1)), .long (lI (T.2.2.1 + (((zab (x - T.2.2.2.1)) + (zab (y - T.2.2.2.2.1))) + (zab (z - T.2.2.2.2.2))))), .int (iI T.2.2.2.1), .int (iI T.2.2.2.2.1), .int (iI T.2.2.2.2.2)]), (kp, aI ck 2000 T.1)]) := hD
      refine lv_aload_n hx hb dX1_add_86 rfl (lv_at hl 0 rfl) ?_
      refine lv_iload_n hx hb dX1_add_87 rfl (lv_at hl 1 rfl) ?_
      refine va_put (D := (dC, dI)) (ci := 1) (v := .int (iI x)) (ty := .int) (C := RX1) (T := TX1) (N := 6) hx hb hts inX1 tyX1 tyX1_ok nmX1 hown hK hP hD hS 0 rfl rfl 3 (by decide) (hts _ wm_153) (fun _ h9 => h9) rfl (by decide +kernel) rfl rfl (Nat.le_of_ble_eq_true rfl) dX1_add_88 (fun H locs hP hD hS => ?_)
      have hP : va_P (dC, dI) vwCl ([(tr, oI 1 [.ref kp, .int (iI (T.2.1 + 1)), .long (lI (T.2.2.1 + (((zab (x - T.2.2.2.1)) + (zab (y - T.2.2.2.2.1))) + (zab (z - T.2.2.2.2.2))))), .int (iI x), .int (iI T.2.2.2.2.1), .int (iI T.2.2.2.2.2)]), (kp, aI ck 2000 T.1)]) H := hP
      have hD : va_D A ([(tr, oI 1 [.ref kp, .int (iI (T.2.1 + 1)), .long (lI (T.2.2.1 + (((zab (x - T.2.2.2.1)) + (zab (y - T.2.2.2.2.1))) + (zab (z - T.2.2.2.2.2))))), .int (iI x), .int (iI T.2.2.2.2.1), .int (iI T.2.2.2.2.2)]), (kp, aI ck 2000 T.1)]) := hD
      refine lv_aload_n hx hb dX1_add_91 rfl (lv_at hl 0 rfl) ?_
      refine lv_iload_n hx hb dX1_add_92 rfl (lv_at hl 2 rfl) ?_
      refine va_put (D := (dC, dI)) (ci := 1) (v := .int (iI y)) (ty := .int) (C := RX1) (T := TX1) (N := 6) hx hb hts inX1 tyX1 tyX1_ok nmX1 hown hK hP hD hS 0 rfl rfl 4 (by decide) (hts _ wm_154) (fun _ h9 => h9) rfl (by decide +kernel) rfl rfl (Nat.le_of_ble_eq_true rfl) dX1_add_93 (fun H locs hP hD hS => ?_)
      have hP : va_P (dC, dI) vwCl ([(tr, oI 1 [.ref kp, .int (iI (T.2.1 + 1)), .long (lI (T.2.2.1 + (((zab (x - T.2.2.2.1)) + (zab (y - T.2.2.2.2.1))) + (zab (z - T.2.2.2.2.2))))), .int (iI x), .int (iI y), .int (iI T.2.2.2.2.2)]), (kp, aI ck 2000 T.1)]) H := hP
      have hD : va_D A ([(tr, oI 1 [.ref kp, .int (iI (T.2.1 + 1)), .long (lI (T.2.2.1 + (((zab (x - T.2.2.2.1)) + (zab (y - T.2.2.2.2.1))) + (zab (z - T.2.2.2.2.2))))), .int (iI x), .int (iI y), .int (iI T.2.2.2.2.2)]), (kp, aI ck 2000 T.1)]) := hD
      refine lv_aload_n hx hb dX1_add_96 rfl (lv_at hl 0 rfl) ?_
      refine lv_iload_n hx hb dX1_add_97 rfl (lv_at hl 3 rfl) ?_
      refine va_put (D := (dC, dI)) (ci := 1) (v := .int (iI z)) (ty := .int) (C := RX1) (T := TX1) (N := 6) hx hb hts inX1 tyX1 tyX1_ok nmX1 hown hK hP hD hS 0 rfl rfl 5 (by decide) (hts _ wm_155) (fun _ h9 => h9) rfl (by decide +kernel) rfl rfl (Nat.le_of_ble_eq_true rfl) dX1_add_98 (fun H locs hP hD hS => ?_)
      have hP : va_P (dC, dI) vwCl ([(tr, oI 1 [.ref kp, .int (iI (T.2.1 + 1)), .long (lI (T.2.2.1 + (((zab (x - T.2.2.2.1)) + (zab (y - T.2.2.2.2.1))) + (zab (z - T.2.2.2.2.2))))), .int (iI x), .int (iI y), .int (iI z)]), (kp, aI ck 2000 T.1)]) H := hP
      have hD : va_D A ([(tr, oI 1 [.ref kp, .int (iI (T.2.1 + 1)), .long (lI (T.2.2.1 + (((zab (x - T.2.2.2.1)) + (zab (y - T.2.2.2.2.1))) + (zab (z - T.2.2.2.2.2))))), .int (iI x), .int (iI y), .int (iI z)]), (kp, aI ck 2000 T.1)]) := hD
      subst hAe
      rw [show tkA x y z T = (T.1, T.2.1 + 1, T.2.2.1 + (((zab (x - T.2.2.2.1)) + (zab (y - T.2.2.2.2.1))) + (zab (z - T.2.2.2.2.2))), x, y, z) from by first | (exfalso; omega) | (unfold tkA; rw [if_pos (show T.2.1 < 2000 by omega), if_pos (show 0 < T.2.1 by omega)]) | (unfold tkA; rw [if_pos (show T.2.1 < 2000 by omega), if_neg (show ¬ 0 < T.2.1 by omega)]) | (unfold tkA; rw [if_neg (show ¬ T.2.1 < 2000 by omega), if_pos (show 0 < T.2.1 by omega)]) | (unfold tkA; rw [if_neg (show ¬ T.2.1 < 2000 by omega), if_neg (show ¬ 0 < T.2.1 by omega)])]
      exact z_vret hx hb hr hlocks hP hK hD hS (trivial) dX1_add_101
    · refine lv_aload_n hx hb dX1_add_56 rfl (lv_at hl 0 rfl) ?_
      refine va_get (D := (dC, dI)) (ci := 1) (v := .ref kp) (C := RX1) (T := TX1) (N := 6) hx hb hts inX1 hown hK hP 0 rfl rfl 0 (by decide) (hts _ wm_150) (fun _ h9 => h9) rfl dX1_add_57 ?_
      refine lv_aload_n hx hb dX1_add_60 rfl (lv_at hl 0 rfl) ?_
      refine va_get (D := (dC, dI)) (ci := 1) (v := .int (iI T.2.1)) (C := RX1) (T := TX1) (N := 6) hx hb hts inX1 hown hK hP 0 rfl rfl 1 (by decide) (hts _ wm_151) (fun _ h9 => h9) rfl dX1_add_61 ?_
      refine lv_iload_n hx hb dX1_add_64 rfl (lv_at hl 3 rfl) ?_
      refine lv_bipush (v := iI 20) hx hb dX1_add_65 (by decide) ?_
      refine z_mul hx hb dX1_add_67 ?_
      refine lv_iload_n hx hb dX1_add_68 rfl (lv_at hl 2 rfl) ?_
      refine z_add hx hb dX1_add_69 ?_
      refine lv_bipush (v := iI 20) hx hb dX1_add_70 (by decide) ?_
      refine z_mul hx hb dX1_add_72 ?_
      refine lv_iload_n hx hb dX1_add_73 rfl (lv_at hl 1 rfl) ?_
      refine z_add hx hb dX1_add_74 ?_
      refine z_iast (f := T.1) (i := T.2.1) (x := (((z * 20) + y) * 20) + x) hx hb hK hP hD hS 1 0 rfl rfl (by omega) (by omega) dX1_add_75 (fun H locs hP hD hS => ?_)
      have hP : va_P (dC, dI) vwCl ([(tr, oI 1 [.ref kp, .int (iI T.2.1), .long (lI (T.2.2.1 + (((zab (x - T.2.2.2.1)) + (zab (y - T.2.2.2.2.1))) + (zab (z - T.2.2.2.2.2))))), .int (iI T.2.2.2.1), .int (iI T.2.2.2.2.1), .int (iI T.2.2.2.2.2)]), (kp, aI ck 2000 (uI T.1 (T.2.1).toNat ((((z * 20) + y) * 20) + x)))]) H := hP
      have hD : va_D A ([(tr, oI 1 [.ref kp, .int (iI T.2.1), .long (lI (T.2.2.1 + (((zab (x - T.2.2.2.1)) + (zab (y - T.2.2.2.2.1))) + (zab (z - T.2.2.2.2.2))))), .int (iI T.2.2.2.1), .int (iI T.2.2.2.2.1), .int (iI T.2.2.2.2.2)]), (kp, aI ck 2000 (uI T.1 (T.2.1).toNat ((((z * 20) + y) * 20) + x)))]) := hD
      refine lv_aload_n hx hb dX1_add_76 rfl (lv_at hl 0 rfl) ?_
      refine lv_dup hx hb dX1_add_77 rfl ?_
      refine va_get (D := (dC, dI)) (ci := 1) (v := .int (iI T.2.1)) (C := RX1) (T := TX1) (N := 6) hx hb hts inX1 hown hK hP 0 rfl rfl 1 (by decide) (hts _ wm_151) (fun _ h9 => h9) rfl dX1_add_78 ?_
      refine lv_iconst (v := iI 1) hx hb dX1_add_81 rfl ?_
      refine z_add hx hb dX1_add_82 ?_
      refine va_put (D := (dC, dI)) (ci := 1) (v := .int (iI (T.2.1 + 1))) (ty := .int) (C := RX1) (T := TX1) (N := 6) hx hb hts inX1 tyX1 tyX1_ok nmX1 hown hK hP hD hS 0 rfl rfl 1 (by decide) (hts _ wm_151) (fun _ h9 => h9) rfl (by decide +kernel) rfl rfl (Nat.le_of_ble_eq_true rfl) dX1_add_83 (fun H locs hP hD hS => ?_)
      have hP : va_P (dC, dI) vwCl ([(tr, oI 1 [.ref kp, .int (iI (T.2.1 + 1)), .long (lI (T.2.2.1 + (((zab (x - T.2.2.2.1)) + (zab (y - T.2.2.2.2.1))) + (zab (z - T.2.2.2.2.2))))), .int (iI T.2.2.2.1), .int (iI T.2.2.2.2.1), .int (iI T.2.2.2.2.2)]), (kp, aI ck 2000 (uI T.1 (T.2.1).toNat ((((z * 20) + y) * 20) + x)))]) H := hP
      have hD : va_D A ([(tr, oI 1 [.ref kp, .int (iI (T.2.1 + 1)), .long (lI (T.2.2.1 + (((zab (x - T.2.2.2.1)) + (zab (y - T.2.2.2.2.1))) + (zab (z - T.2.2.2.2.2))))), .int (iI T.2.2.2.1), .int (iI T.2.2.2.2.1), .int (iI T.2.2.2.2.2)]), (kp, aI ck 2000 (uI T.1 (T.2.1).toNat ((((z * 20) + y) * 20) + x)))]) := hD
      refine lv_aload_n hx hb dX1_add_86 rfl (lv_at hl 0 rfl) ?_
      refine lv_iload_n hx hb dX1_add_87 rfl (lv_at hl 1 rfl) ?_
      refine va_put (D := (dC, dI)) (ci := 1) (v := .int (iI x)) (ty := .int) (C := RX1) (T := TX1) (N := 6) hx hb hts inX1 tyX1 tyX1_ok nmX1 hown hK hP hD hS 0 rfl rfl 3 (by decide) (hts _ wm_153) (fun _ h9 => h9) rfl (by decide +kernel) rfl rfl (Nat.le_of_ble_eq_true rfl) dX1_add_88 (fun H locs hP hD hS => ?_)
      have hP : va_P (dC, dI) vwCl ([(tr, oI 1 [.ref kp, .int (iI (T.2.1 + 1)), .long (lI (T.2.2.1 + (((zab (x - T.2.2.2.1)) + (zab (y - T.2.2.2.2.1))) + (zab (z - T.2.2.2.2.2))))), .int (iI x), .int (iI T.2.2.2.2.1), .int (iI T.2.2.2.2.2)]), (kp, aI ck 2000 (uI T.1 (T.2.1).toNat ((((z * 20) + y) * 20) + x)))]) H := hP
      have hD : va_D A ([(tr, oI 1 [.ref kp, .int (iI (T.2.1 + 1)), .long (lI (T.2.2.1 + (((zab (x - T.2.2.2.1)) + (zab (y - T.2.2.2.2.1))) + (zab (z - T.2.2.2.2.2))))), .int (iI x), .int (iI T.2.2.2.2.1), .int (iI T.2.2.2.2.2)]), (kp, aI ck 2000 (uI T.1 (T.2.1).toNat ((((z * 20) + y) * 20) + x)))]) := hD
      refine lv_aload_n hx hb dX1_add_91 rfl (lv_at hl 0 rfl) ?_
      refine lv_iload_n hx hb dX1_add_92 rfl (lv_at hl 2 rfl) ?_
      refine va_put (D := (dC, dI)) (ci := 1) (v := .int (iI y)) (ty := .int) (C := RX1) (T := TX1) (N := 6) hx hb hts inX1 tyX1 tyX1_ok nmX1 hown hK hP hD hS 0 rfl rfl 4 (by decide) (hts _ wm_154) (fun _ h9 => h9) rfl (by decide +kernel) rfl rfl (Nat.le_of_ble_eq_true rfl) dX1_add_93 (fun H locs hP hD hS => ?_)
      have hP : va_P (dC, dI) vwCl ([(tr, oI 1 [.ref kp, .int (iI (T.2.1 + 1)), .long (lI (T.2.2.1 + (((zab (x - T.2.2.2.1)) + (zab (y - T.2.2.2.2.1))) + (zab (z - T.2.2.2.2.2))))), .int (iI x), .int (iI y), .int (iI T.2.2.2.2.2)]), (kp, aI ck 2000 (uI T.1 (T.2.1).toNat ((((z * 20) + y) * 20) + x)))]) H := hP
      have hD : va_D A ([(tr, oI 1 [.ref kp, .int (iI (T.2.1 + 1)), .long (lI (T.2.2.1 + (((zab (x - T.2.2.2.1)) + (zab (y - T.2.2.2.2.1))) + (zab (z - T.2.2.2.2.2))))), .int (iI x), .int (iI y), .int (iI T.2.2.2.2.2)]), (kp, aI ck 2000 (uI T.1 (T.2.1).toNat ((((z * 20) + y) * 20) + x)))]) := hD
      refine lv_aload_n hx hb dX1_add_96 rfl (lv_at hl 0 rfl) ?_
      refine lv_iload_n hx hb dX1_add_97 rfl (lv_at hl 3 rfl) ?_
      refine va_put (D := (dC, dI)) (ci := 1) (v := .int (iI z)) (ty := .int) (C := RX1) (T := TX1) (N := 6) hx hb hts inX1 tyX1 tyX1_ok nmX1 hown hK hP hD hS 0 rfl rfl 5 (by decide) (hts _ wm_155) (fun _ h9 => h9) rfl (by decide +kernel) rfl rfl (Nat.le_of_ble_eq_true rfl) dX1_add_98 (fun H locs hP hD hS => ?_)
      have hP : va_P (dC, dI) vwCl ([(tr, oI 1 [.ref kp, .int (iI (T.2.1 + 1)), .long (lI (T.2.2.1 + (((zab (x - T.2.2.2.1)) + (zab (y - T.2.2.2.2.1))) + (zab (z - T.2.2.2.2.2))))), .int (iI x), .int (iI y), .int (iI z)]), (kp, aI ck 2000 (uI T.1 (T.2.1).toNat ((((z * 20) + y) * 20) + x)))]) H := hP
      have hD : va_D A ([(tr, oI 1 [.ref kp, .int (iI (T.2.1 + 1)), .long (lI (T.2.2.1 + (((zab (x - T.2.2.2.1)) + (zab (y - T.2.2.2.2.1))) + (zab (z - T.2.2.2.2.2))))), .int (iI x), .int (iI y), .int (iI z)]), (kp, aI ck 2000 (uI T.1 (T.2.1).toNat ((((z * 20) + y) * 20) + x)))]) := hD
      subst hAe
      rw [show tkA x y z T = (uI T.1 (T.2.1).toNat ((((z * 20) + y) * 20) + x), T.2.1 + 1, T.2.2.1 + (((zab (x - T.2.2.2.1)) + (zab (y - T.2.2.2.2.1))) + (zab (z - T.2.2.2.2.2))), x, y, z) from by first | (exfalso; omega) | (unfold tkA; rw [if_pos (show T.2.1 < 2000 by omega), if_pos (show 0 < T.2.1 by omega)]) | (unfold tkA; rw [if_pos (show T.2.1 < 2000 by omega), if_neg (show ¬ 0 < T.2.1 by omega)]) | (unfold tkA; rw [if_neg (show ¬ T.2.1 < 2000 by omega), if_pos (show 0 < T.2.1 by omega)]) | (unfold tkA; rw [if_neg (show ¬ T.2.1 < 2000 by omega), if_neg (show ¬ 0 < T.2.1 by omega)])]
      exact z_vret hx hb hr hlocks hP hK hD hS (trivial) dX1_add_101
abbrev r_X1_holds : Room := { frames := 0, cells := 0, slots := 0, locals := 0 }
set_option maxHeartbeats 4000000 in
set_option maxRecDepth 100000 in
theorem c_X1_holds (l : Launch) (dC : Nat → ClassId) (dI : Nat → Nat → Nat) (sz : Nat) (tr kp : Nat) (ck : ClassId) (T : TK) (k : Int) (h0 : rg T.2.1) (h1 : rg k) : Met l yX1_holds wsX1_holds r_X1_holds (zP (dC, dI) vwCl ([(ck, .int)]) (tkW tr kp ck T) sz [.ref tr, .int (iI k)]) (zQi (dC, dI) vwCl ([(ck, .int)]) (tkW tr kp ck T) sz (True) (if 0 ≤ k ∧ k < T.2.1 ∧ k < 2000 then 1 else 0) (tkW tr kp ck T)) 0 0 (va_A (tkW tr kp ck T) sz) := by
  refine Met.ofW (cc := cX1_holds) (maxL := 2) (ret := (some .boolean)) (by decide) rfl ?_
  intro p e s m args below meth c s₁ B hml hv
  obtain ⟨rfl, hsz, hP, hK, hD0, hZ⟩ := hv
  have hx := B.exec
  have hb := B.bytes
  have hr := B.returns
  have hts0 := atoms_spec (ws := wsX1_holds) B.pre
  have hts : ∀ w ∈ wsAll, w.before _ s = true := fun w h => hts0 w (List.mem_cons_of_mem _ h)
  have hown : s.vm.findClass RX1 = some m.cls := findClass_of_methodNamed B.named
  have hlocks := B.notSynchronized
  subst hsz
  have hD := hD0.self (sz := s.heap.size)
  obtain ⟨A, hAe⟩ : ∃ A, A = va_A (tkW tr kp ck T) s.heap.size := ⟨_, rfl⟩
  rw [← hAe] at hD hZ
  have hA : ∀ q : Nat, s.heap.size ≤ q → A q := fun q h => by rw [hAe]; exact Or.inr h
  have hS : va_S A s.heap s.heap [] := va_S.rf
  have hP : va_P (dC, dI) vwCl (tkW tr kp ck T) s.heap := hP
  have hl := lv_entry ([.ref tr, .int (iI k)]) (n := 2) (Nat.le_of_ble_eq_true rfl)
  rw [lg_entry_eq]
  generalize (lg_sl ([.ref tr, .int (iI k)]) ++ List.replicate (2 - (lg_sl ([.ref tr, .int (iI k)])).length) Slot.unset).toArray = ls at hl ⊢
  have hl : lv_has ls 2 [(0, .ref tr), (1, .int (iI k))] := hl
  refine lv_iload_n hx hb dX1_holds_0 rfl (lv_at hl 1 rfl) ?_
  refine z_if_lt (tgt := 23) hx hb dX1_holds_1 (by decide) (by omega) (fun c1 => ?_) (fun c1 => ?_)
  · refine lv_iconst (v := iI 0) hx hb dX1_holds_23 rfl ?_
    subst hAe
    refine z_top (b := if 0 ≤ k ∧ k < T.2.1 ∧ k < 2000 then 1 else 0) (by (repeat' split) <;> omega) ?_
    exact z_zret hx hb hr hlocks (by split <;> omega) hP hK hD hS (trivial) dX1_holds_24
  · refine lv_iload_n hx hb dX1_holds_4 rfl (lv_at hl 1 rfl) ?_
    refine lv_aload_n hx hb dX1_holds_5 rfl (lv_at hl 0 rfl) ?_
    refine va_get (D := (dC, dI)) (ci := 1) (v := .int (iI T.2.1)) (C := RX1) (T := TX1) (N := 6) hx hb hts inX1 hown hK hP 0 rfl rfl 1 (by decide) (hts _ wm_151) (fun _ h9 => h9) rfl dX1_holds_6 ?_
    refine z_icmp_ge (tgt := 23) hx hb dX1_holds_9 (by decide) (by omega) (by omega) (fun c9 => ?_) (fun c9 => ?_)
    · refine lv_iconst (v := iI 0) hx hb dX1_holds_23 rfl ?_
      subst hAe
      refine z_top (b := if 0 ≤ k ∧ k < T.2.1 ∧ k < 2000 then 1 else 0) (by (repeat' split) <;> omega) ?_
      exact z_zret hx hb hr hlocks (by split <;> omega) hP hK hD hS (trivial) dX1_holds_24
    · refine lv_iload_n hx hb dX1_holds_12 rfl (lv_at hl 1 rfl) ?_
      refine lv_sipush (v := iI 2000) hx hb dX1_holds_13 (by decide) ?_
      refine z_icmp_ge (tgt := 23) hx hb dX1_holds_16 (by decide) (by omega) (by omega) (fun c16 => ?_) (fun c16 => ?_)
      · refine lv_iconst (v := iI 0) hx hb dX1_holds_23 rfl ?_
        subst hAe
        refine z_top (b := if 0 ≤ k ∧ k < T.2.1 ∧ k < 2000 then 1 else 0) (by (repeat' split) <;> omega) ?_
        exact z_zret hx hb hr hlocks (by split <;> omega) hP hK hD hS (trivial) dX1_holds_24
      · refine lv_iconst (v := iI 1) hx hb dX1_holds_19 rfl ?_
        refine lv_goto (tgt := 24) hx hb dX1_holds_20 (by decide) ?_
        subst hAe
        refine z_top (b := if 0 ≤ k ∧ k < T.2.1 ∧ k < 2000 then 1 else 0) (by (repeat' split) <;> omega) ?_
        exact z_zret hx hb hr hlocks (by split <;> omega) hP hK hD hS (trivial) dX1_holds_24
abbrev r_X1_xOf : Room := { frames := 0, cells := 0, slots := 0, locals := 0 }
set_option maxHeartbeats 4000000 in
set_option maxRecDepth 100000 in
theorem c_X1_xOf (l : Launch) (dC : Nat → ClassId) (dI : Nat → Nat → Nat) (sz : Nat) (tr kp : Nat) (ck : ClassId) (T : TK) (k : Int) (h0 : 0 ≤ k ∧ k < 2000) (h1 : 0 ≤ T.1 k.toNat ∧ T.1 k.toNat < 2147483648) : Met l yX1_xOf wsX1_xOf r_X1_xOf (zP (dC, dI) vwCl ([(ck, .int)]) (tkW tr kp ck T) sz [.ref tr, .int (iI k)]) (zQi (dC, dI) vwCl ([(ck, .int)]) (tkW tr kp ck T) sz (True) (T.1 k.toNat % 20) (tkW tr kp ck T)) 0 0 (va_A (tkW tr kp ck T) sz) := by
  refine Met.ofW (cc := cX1_xOf) (maxL := 2) (ret := (some .int)) (by decide) rfl ?_
  intro p e s m args below meth c s₁ B hml hv
  obtain ⟨rfl, hsz, hP, hK, hD0, hZ⟩ := hv
  have hx := B.exec
  have hb := B.bytes
  have hr := B.returns
  have hts0 := atoms_spec (ws := wsX1_xOf) B.pre
  have hts : ∀ w ∈ wsAll, w.before _ s = true := fun w h => hts0 w (List.mem_cons_of_mem _ h)
  have hown : s.vm.findClass RX1 = some m.cls := findClass_of_methodNamed B.named
  have hlocks := B.notSynchronized
  subst hsz
  have hD := hD0.self (sz := s.heap.size)
  obtain ⟨A, hAe⟩ : ∃ A, A = va_A (tkW tr kp ck T) s.heap.size := ⟨_, rfl⟩
  rw [← hAe] at hD hZ
  have hA : ∀ q : Nat, s.heap.size ≤ q → A q := fun q h => by rw [hAe]; exact Or.inr h
  have hS : va_S A s.heap s.heap [] := va_S.rf
  have hP : va_P (dC, dI) vwCl (tkW tr kp ck T) s.heap := hP
  have hl := lv_entry ([.ref tr, .int (iI k)]) (n := 2) (Nat.le_of_ble_eq_true rfl)
  rw [lg_entry_eq]
  generalize (lg_sl ([.ref tr, .int (iI k)]) ++ List.replicate (2 - (lg_sl ([.ref tr, .int (iI k)])).length) Slot.unset).toArray = ls at hl ⊢
  have hl : lv_has ls 2 [(0, .ref tr), (1, .int (iI k))] := hl
  refine lv_aload_n hx hb dX1_xOf_0 rfl (lv_at hl 0 rfl) ?_
  refine va_get (D := (dC, dI)) (ci := 1) (v := .ref kp) (C := RX1) (T := TX1) (N := 6) hx hb hts inX1 hown hK hP 0 rfl rfl 0 (by decide) (hts _ wm_150) (fun _ h9 => h9) rfl dX1_xOf_1 ?_
  refine lv_iload_n hx hb dX1_xOf_4 rfl (lv_at hl 1 rfl) ?_
  refine z_iald (f := T.1) (i := k) hx hb hK hP 1 0 rfl rfl (by omega) (by omega) dX1_xOf_5 ?_
  refine lv_bipush (v := iI 20) hx hb dX1_xOf_6 (by decide) ?_
  refine z_rem hx hb dX1_xOf_8 (by omega) (by omega) ?_
  subst hAe
  refine z_top (b := T.1 k.toNat % 20) (rfl) ?_
  exact z_iret hx hb hr hlocks hP hK hD hS (trivial) dX1_xOf_9
abbrev r_X1_yOf : Room := { frames := 0, cells := 0, slots := 0, locals := 0 }
set_option maxHeartbeats 4000000 in
set_option maxRecDepth 100000 in
theorem c_X1_yOf (l : Launch) (dC : Nat → ClassId) (dI : Nat → Nat → Nat) (sz : Nat) (tr kp : Nat) (ck : ClassId) (T : TK) (k : Int) (h0 : 0 ≤ k ∧ k < 2000) (h1 : 0 ≤ T.1 k.toNat ∧ T.1 k.toNat < 2147483648) : Met l yX1_yOf wsX1_yOf r_X1_yOf (zP (dC, dI) vwCl ([(ck, .int)]) (tkW tr kp ck T) sz [.ref tr, .int (iI k)]) (zQi (dC, dI) vwCl ([(ck, .int)]) (tkW tr kp ck T) sz (True) (T.1 k.toNat / 20 % 20) (tkW tr kp ck T)) 0 0 (va_A (tkW tr kp ck T) sz) := by
  refine Met.ofW (cc := cX1_yOf) (maxL := 2) (ret := (some .int)) (by decide) rfl ?_
  intro p e s m args below meth c s₁ B hml hv
  obtain ⟨rfl, hsz, hP, hK, hD0, hZ⟩ := hv
  have hx := B.exec
  have hb := B.bytes
  have hr := B.returns
  have hts0 := atoms_spec (ws := wsX1_yOf) B.pre
  have hts : ∀ w ∈ wsAll, w.before _ s = true := fun w h => hts0 w (List.mem_cons_of_mem _ h)
  have hown : s.vm.findClass RX1 = some m.cls := findClass_of_methodNamed B.named
  have hlocks := B.notSynchronized
  subst hsz
  have hD := hD0.self (sz := s.heap.size)
  obtain ⟨A, hAe⟩ : ∃ A, A = va_A (tkW tr kp ck T) s.heap.size := ⟨_, rfl⟩
  rw [← hAe] at hD hZ
  have hA : ∀ q : Nat, s.heap.size ≤ q → A q := fun q h => by rw [hAe]; exact Or.inr h
  have hS : va_S A s.heap s.heap [] := va_S.rf
  have hP : va_P (dC, dI) vwCl (tkW tr kp ck T) s.heap := hP
  have hl := lv_entry ([.ref tr, .int (iI k)]) (n := 2) (Nat.le_of_ble_eq_true rfl)
  rw [lg_entry_eq]
  generalize (lg_sl ([.ref tr, .int (iI k)]) ++ List.replicate (2 - (lg_sl ([.ref tr, .int (iI k)])).length) Slot.unset).toArray = ls at hl ⊢
  have hl : lv_has ls 2 [(0, .ref tr), (1, .int (iI k))] := hl
  refine lv_aload_n hx hb dX1_yOf_0 rfl (lv_at hl 0 rfl) ?_
  refine va_get (D := (dC, dI)) (ci := 1) (v := .ref kp) (C := RX1) (T := TX1) (N := 6) hx hb hts inX1 hown hK hP 0 rfl rfl 0 (by decide) (hts _ wm_150) (fun _ h9 => h9) rfl dX1_yOf_1 ?_
  refine lv_iload_n hx hb dX1_yOf_4 rfl (lv_at hl 1 rfl) ?_
  refine z_iald (f := T.1) (i := k) hx hb hK hP 1 0 rfl rfl (by omega) (by omega) dX1_yOf_5 ?_
  refine lv_bipush (v := iI 20) hx hb dX1_yOf_6 (by decide) ?_
  refine z_div hx hb dX1_yOf_8 (by omega) (by omega) ?_
  refine lv_bipush (v := iI 20) hx hb dX1_yOf_9 (by decide) ?_
  refine z_rem hx hb dX1_yOf_11 (by omega) (by omega) ?_
  subst hAe
  refine z_top (b := T.1 k.toNat / 20 % 20) (rfl) ?_
  exact z_iret hx hb hr hlocks hP hK hD hS (trivial) dX1_yOf_12
abbrev r_X1_zOf : Room := { frames := 0, cells := 0, slots := 0, locals := 0 }
set_option maxHeartbeats 4000000 in
set_option maxRecDepth 100000 in
theorem c_X1_zOf (l : Launch) (dC : Nat → ClassId) (dI : Nat → Nat → Nat) (sz : Nat) (tr kp : Nat) (ck : ClassId) (T : TK) (k : Int) (h0 : 0 ≤ k ∧ k < 2000) (h1 : 0 ≤ T.1 k.toNat ∧ T.1 k.toNat < 2147483648) : Met l yX1_zOf wsX1_zOf r_X1_zOf (zP (dC, dI) vwCl ([(ck, .int)]) (tkW tr kp ck T) sz [.ref tr, .int (iI k)]) (zQi (dC, dI) vwCl ([(ck, .int)]) (tkW tr kp ck T) sz (True) (T.1 k.toNat / 400) (tkW tr kp ck T)) 0 0 (va_A (tkW tr kp ck T) sz) := by
  refine Met.ofW (cc := cX1_zOf) (maxL := 2) (ret := (some .int)) (by decide) rfl ?_
  intro p e s m args below meth c s₁ B hml hv
  obtain ⟨rfl, hsz, hP, hK, hD0, hZ⟩ := hv
  have hx := B.exec
  have hb := B.bytes
  have hr := B.returns
  have hts0 := atoms_spec (ws := wsX1_zOf) B.pre
  have hts : ∀ w ∈ wsAll, w.before _ s = true := fun w h => hts0 w (List.mem_cons_of_mem _ h)
  have hown : s.vm.findClass RX1 = some m.cls := findClass_of_methodNamed B.named
  have hlocks := B.notSynchronized
  subst hsz
  have hD := hD0.self (sz := s.heap.size)
  obtain ⟨A, hAe⟩ : ∃ A, A = va_A (tkW tr kp ck T) s.heap.size := ⟨_, rfl⟩
  rw [← hAe] at hD hZ
  have hA : ∀ q : Nat, s.heap.size ≤ q → A q := fun q h => by rw [hAe]; exact Or.inr h
  have hS : va_S A s.heap s.heap [] := va_S.rf
  have hP : va_P (dC, dI) vwCl (tkW tr kp ck T) s.heap := hP
  have hl := lv_entry ([.ref tr, .int (iI k)]) (n := 2) (Nat.le_of_ble_eq_true rfl)
  rw [lg_entry_eq]
  generalize (lg_sl ([.ref tr, .int (iI k)]) ++ List.replicate (2 - (lg_sl ([.ref tr, .int (iI k)])).length) Slot.unset).toArray = ls at hl ⊢
  have hl : lv_has ls 2 [(0, .ref tr), (1, .int (iI k))] := hl
  refine lv_aload_n hx hb dX1_zOf_0 rfl (lv_at hl 0 rfl) ?_
  refine va_get (D := (dC, dI)) (ci := 1) (v := .ref kp) (C := RX1) (T := TX1) (N := 6) hx hb hts inX1 hown hK hP 0 rfl rfl 0 (by decide) (hts _ wm_150) (fun _ h9 => h9) rfl dX1_zOf_1 ?_
  refine lv_iload_n hx hb dX1_zOf_4 rfl (lv_at hl 1 rfl) ?_
  refine z_iald (f := T.1) (i := k) hx hb hK hP 1 0 rfl rfl (by omega) (by omega) dX1_zOf_5 ?_
  refine lv_sipush (v := iI 400) hx hb dX1_zOf_6 (by decide) ?_
  refine z_div hx hb dX1_zOf_9 (by omega) (by omega) ?_
  subst hAe
  refine z_top (b := T.1 k.toNat / 400) (rfl) ?_
  exact z_iret hx hb hr hlocks hP hK hD hS (trivial) dX1_zOf_10
