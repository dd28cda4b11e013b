abbrev r_X3_tool : Room := { frames := 1, cells := 0, slots := 0, locals := 22 }
set_option maxHeartbeats 4000000 in
set_option maxRecDepth 100000 in
theorem c_X3_tool (l : Launch) (dC : Nat → ClassId) (dI : Nat → Nat → Nat) (sz : Nat) (b : Nat → Nat) (cB : Nat → ClassId) (w h : Nat) (cd : Int) (wn mn kn : Nat → Int) (ik so : Int) (ks rs lf : Nat → Int) (K : MK) (t k r : Int) (h1 : rg t) (h2 : rg k) (h3 : rg r) (hks : ∀ j, j < 4 → 0 ≤ ks j ∧ ks j ≤ 2) (hrs : ∀ j, j < 4 → 0 ≤ rs j ∧ rs j ≤ 5) : Met l yX3_tool wsX3_tool r_X3_tool (zP (dC, dI) vwCl (mdT cB) (mdW b cB w h cd wn mn kn ik so ks rs lf K) sz [.ref (b 0), .int (iI t), .int (iI k), .int (iI r)]) (zQi (dC, dI) vwCl (mdT cB) (mdW b cB w h cd wn mn kn ik so ks rs lf K) sz (True) (if cod3 (isW t 0 3) (isW k 0 2) (isW r 0 5) ≤ 0 ∧ ¬ (ks t.toNat = k ∧ rs t.toNat = r) then 1 else 0) (mdW b cB w h (cod3 (isW t 0 3) (isW k 0 2) (isW r 0 5)) wn mn kn ik so (puM ks t.toNat k (cod3 (isW t 0 3) (isW k 0 2) (isW r 0 5))) (puM rs t.toNat r (cod3 (isW t 0 3) (isW k 0 2) (isW r 0 5))) lf K)) 0 0 (va_A (mdW b cB w h cd wn mn kn ik so ks rs lf K) sz) := by
  refine Met.ofW (cc := cX3_tool) (maxL := 4) (ret := (some .boolean)) (by decide) rfl ?_
  intro p e s m args below meth c s₁ B hml hv
  obtain ⟨rfl, hsz, hP, hK, hD0, hZ⟩ := hv
  have hx := B.exec
  have hb := B.bytes
  have hr := B.returns
  have hts0 := atoms_spec (ws := wsX3_tool) B.pre
  have hts : ∀ w ∈ wsAll, w.before _ s = true := fun w h => hts0 w (List.mem_cons_of_mem _ h)
  have hown : s.vm.findClass RX3 = some m.cls := findClass_of_methodNamed B.named
  have hlocks := B.notSynchronized
  subst hsz
  have hD := hD0.self (sz := s.heap.size)
  obtain ⟨A, hAe⟩ : ∃ A, A = va_A (mdW b cB w h cd wn mn kn ik so ks rs lf K) s.heap.size := ⟨_, rfl⟩
  rw [← hAe] at hD hZ
  have hA : ∀ q : Nat, s.heap.size ≤ q → A q := fun q h => by rw [hAe]; exact Or.inr h
  have hS : va_S A s.heap s.heap [] := va_S.rf
  have hP : va_P (dC, dI) vwCl (mdW b cB w h cd wn mn kn ik so ks rs lf K) s.heap := hP
  have hl := lv_entry ([.ref (b 0), .int (iI t), .int (iI k), .int (iI r)]) (n := 4) (Nat.le_of_ble_eq_true rfl)
  rw [lg_entry_eq]
  generalize (lg_sl ([.ref (b 0), .int (iI t), .int (iI k), .int (iI r)]) ++ List.replicate (4 - (lg_sl ([.ref (b 0), .int (iI t), .int (iI k), .int (iI r)])).length) Slot.unset).toArray = ls at hl ⊢
  have hl : lv_has ls 4 [(0, .ref (b 0)), (1, .int (iI t)), (2, .int (iI k)), (3, .int (iI r))] := hl
  refine lv_aload_n hx hb dX3_tool_0 rfl (lv_at hl 0 rfl) ?_
  refine lv_iload_n hx hb dX3_tool_1 rfl (lv_at hl 1 rfl) ?_
  refine lv_iconst (v := iI 0) hx hb dX3_tool_2 rfl ?_
  refine lv_iconst (v := iI 3) hx hb dX3_tool_3 rfl ?_
  refine z_rcalli (va_runS (As := [.int (iI t), .int (iI 0), .int (iI 3)]) (rest := [.ref (b 0)]) ⟨hx, hb, hml, hown, hts⟩ (c_X3_isIn l dC dI (s.heap).size t 0 3 (by omega) (by omega) (by omega)) (va_cwS 3 hts g_X3_55 rfl rfl rfl (by decide +kernel) ⟨Nat.le_of_ble_eq_true rfl, Nat.le_of_ble_eq_true rfl⟩) (zP_S z_P0 (hK.sub [] rfl) z_D0 hS (z_free0 hS hA) hZ) rfl rfl hl.1 rfl (lv_room (Nat.le_of_ble_eq_true rfl)) dX3_tool_4 ⟨Nat.le_of_ble_eq_true rfl, Nat.le_of_ble_eq_true rfl⟩) hP hD hS (z_free0 hS hA) (fun _ h => by cases h) (fun H locs _ hP hD hS _ => ?_)
  refine z_joinH (D := (dC, dI)) (cl := vwCl) (A := A) (ws := mdW b cB w h cd wn mn kn ik so ks rs lf K) (g0 := F0 m 37 ls [.int (iI (cod3 (isW t 0 3) (isW k 0 2) (isW r 0 5))), .ref (b 0)]) (fun H locs hP hD hS => ?_) (fun J37 => ?_)
  · refine va_put (D := (dC, dI)) (ci := 3) (v := .int (iI (cod3 (isW t 0 3) (isW k 0 2) (isW r 0 5)))) (ty := .int) (C := RX3) (T := TX3) (N := 18) hx hb hts inX3 tyX3 tyX3_ok nmX3 hown hK hP hD hS 0 rfl rfl 0 (by decide) (hts _ wm_403) (fun _ h9 => h9) rfl (by decide +kernel) rfl rfl (Nat.le_of_ble_eq_true rfl) dX3_tool_37 (fun H locs hP hD hS => ?_)
    have hP : va_P (dC, dI) vwCl (mdW b cB w h (cod3 (isW t 0 3) (isW k 0 2) (isW r 0 5)) wn mn kn ik so ks rs lf K) H := hP
    have hD : va_D A (mdW b cB w h (cod3 (isW t 0 3) (isW k 0 2) (isW r 0 5)) wn mn kn ik so ks rs lf K) := hD
    refine lv_aload_n hx hb dX3_tool_40 rfl (lv_at hl 0 rfl) ?_
    refine va_get (D := (dC, dI)) (ci := 3) (v := .int (iI (cod3 (isW t 0 3) (isW k 0 2) (isW r 0 5)))) (C := RX3) (T := TX3) (N := 18) hx hb hts inX3 hown hK hP 0 rfl rfl 0 (by decide) (hts _ wm_403) (fun _ h9 => h9) rfl dX3_tool_41 ?_
    have hcr := cod3_rg (isW t 0 3) (isW k 0 2) (isW r 0 5)
    refine z_if_gt (tgt := 67) hx hb dX3_tool_44 (by decide) (by omega) (fun c44 => ?_) (fun c44 => ?_)
    · refine lv_iconst (v := iI 0) hx hb dX3_tool_67 rfl ?_
      subst hAe
      first | rw [show puM ks t.toNat k (cod3 (isW t 0 3) (isW k 0 2) (isW r 0 5)) = ks from if_neg (by omega), show puM rs t.toNat r (cod3 (isW t 0 3) (isW k 0 2) (isW r 0 5)) = rs from if_neg (by omega)] | rw [show puM ks t.toNat k (cod3 (isW t 0 3) (isW k 0 2) (isW r 0 5)) = ks from by unfold puM; rw [if_pos (by omega), ← c54, uI_id], show puM rs t.toNat r (cod3 (isW t 0 3) (isW k 0 2) (isW r 0 5)) = rs from by unfold puM; rw [if_pos (by omega), ← c64, uI_id]]
      refine z_top (b := if cod3 (isW t 0 3) (isW k 0 2) (isW r 0 5) ≤ 0 ∧ ¬ (ks t.toNat = k ∧ rs t.toNat = r) then 1 else 0) (by first | (rw [if_neg (fun z9 => by omega)]) | (rw [if_neg (fun z9 => z9.2 ⟨c54, c64⟩)])) ?_
      exact z_zret hx hb hr hlocks (by split <;> omega) hP hK hD hS (trivial) dX3_tool_68
    · have hok := cod3_ok c44
      have ht3 := isW_t.mp hok.1
      have hk2 := isW_t.mp hok.2.1
      have hr2 := isW_t.mp hok.2.2
      have hj : t.toNat < 4 := by omega
      have hb1 := hks _ hj
      have hb2 := hrs _ hj
      refine lv_aload_n hx hb dX3_tool_47 rfl (lv_at hl 0 rfl) ?_
      refine va_get (D := (dC, dI)) (ci := 3) (v := .ref (b 4)) (C := RX3) (T := TX3) (N := 18) hx hb hts inX3 hown hK hP 0 rfl rfl 8 (by decide) (hts _ wm_411) (fun _ h9 => h9) rfl dX3_tool_48 ?_
      refine lv_iload_n hx hb dX3_tool_51 rfl (lv_at hl 1 rfl) ?_
      refine z_iald (f := ks) (i := t) hx hb hK hP 4 3 rfl rfl (by omega) (by decide) dX3_tool_52 ?_
      refine lv_iload_n hx hb dX3_tool_53 rfl (lv_at hl 2 rfl) ?_
      refine z_icmp_ne (tgt := 69) hx hb dX3_tool_54 (by decide) (by omega) (by omega) (fun c54 => ?_) (fun c54 => ?_)
      · refine lv_aload_n hx hb dX3_tool_69 rfl (lv_at hl 0 rfl) ?_
        refine va_get (D := (dC, dI)) (ci := 3) (v := .ref (b 4)) (C := RX3) (T := TX3) (N := 18) hx hb hts inX3 hown hK hP 0 rfl rfl 8 (by decide) (hts _ wm_411) (fun _ h9 => h9) rfl dX3_tool_70 ?_
        refine lv_iload_n hx hb dX3_tool_73 rfl (lv_at hl 1 rfl) ?_
        refine lv_iload_n hx hb dX3_tool_74 rfl (lv_at hl 2 rfl) ?_
        refine z_iast (f := ks) (i := t) (x := k) hx hb hK hP hD hS 4 3 rfl rfl (by omega) (by decide) dX3_tool_75 (fun H locs hP hD hS => ?_)
        have hP : va_P (dC, dI) vwCl (mdW b cB w h (cod3 (isW t 0 3) (isW k 0 2) (isW r 0 5)) wn mn kn ik so (uI ks (t).toNat k) rs lf K) H := hP
        have hD : va_D A (mdW b cB w h (cod3 (isW t 0 3) (isW k 0 2) (isW r 0 5)) wn mn kn ik so (uI ks (t).toNat k) rs lf K) := hD
        refine lv_aload_n hx hb dX3_tool_76 rfl (lv_at hl 0 rfl) ?_
        refine va_get (D := (dC, dI)) (ci := 3) (v := .ref (b 5)) (C := RX3) (T := TX3) (N := 18) hx hb hts inX3 hown hK hP 0 rfl rfl 9 (by decide) (hts _ wm_412) (fun _ h9 => h9) rfl dX3_tool_77 ?_
        refine lv_iload_n hx hb dX3_tool_80 rfl (lv_at hl 1 rfl) ?_
        refine lv_iload_n hx hb dX3_tool_81 rfl (lv_at hl 3 rfl) ?_
        refine z_iast (f := rs) (i := t) (x := r) hx hb hK hP hD hS 5 4 rfl rfl (by omega) (by decide) dX3_tool_82 (fun H locs hP hD hS => ?_)
        have hP : va_P (dC, dI) vwCl (mdW b cB w h (cod3 (isW t 0 3) (isW k 0 2) (isW r 0 5)) wn mn kn ik so (uI ks (t).toNat k) (uI rs (t).toNat r) lf K) H := hP
        have hD : va_D A (mdW b cB w h (cod3 (isW t 0 3) (isW k 0 2) (isW r 0 5)) wn mn kn ik so (uI ks (t).toNat k) (uI rs (t).toNat r) lf K) := hD
        refine lv_iconst (v := iI 1) hx hb dX3_tool_83 rfl ?_
        subst hAe
        rw [show puM ks t.toNat k (cod3 (isW t 0 3) (isW k 0 2) (isW r 0 5)) = uI ks t.toNat k from if_pos (by omega), show puM rs t.toNat r (cod3 (isW t 0 3) (isW k 0 2) (isW r 0 5)) = uI rs t.toNat r from if_pos (by omega)]
        refine z_top (b := if cod3 (isW t 0 3) (isW k 0 2) (isW r 0 5) ≤ 0 ∧ ¬ (ks t.toNat = k ∧ rs t.toNat = r) then 1 else 0) ((if_pos ⟨by omega, by omega⟩).symm) ?_
        exact z_zret hx hb hr hlocks (by split <;> omega) hP hK hD hS (trivial) dX3_tool_84
      · refine lv_aload_n hx hb dX3_tool_57 rfl (lv_at hl 0 rfl) ?_
        refine va_get (D := (dC, dI)) (ci := 3) (v := .ref (b 5)) (C := RX3) (T := TX3) (N := 18) hx hb hts inX3 hown hK hP 0 rfl rfl 9 (by decide) (hts _ wm_412) (fun _ h9 => h9) rfl dX3_tool_58 ?_
        refine lv_iload_n hx hb dX3_tool_61 rfl (lv_at hl 1 rfl) ?_
        refine z_iald (f := rs) (i := t) hx hb hK hP 5 4 rfl rfl (by omega) (by decide) dX3_tool_62 ?_
        refine lv_iload_n hx hb dX3_tool_63 rfl (lv_at hl 3 rfl) ?_
        refine z_icmp_ne (tgt := 69) hx hb dX3_tool_64 (by decide) (by omega) (by omega) (fun c64 => ?_) (fun c64 => ?_)
        · refine lv_aload_n hx hb dX3_tool_69 rfl (lv_at hl 0 rfl) ?_
          refine va_get (D := (dC, dI)) (ci := 3) (v := .ref (b 4)) (C := RX3) (T := TX3) (N := 18) hx hb hts inX3 hown hK hP 0 rfl rfl 8 (by decide) (hts _ wm_411) (fun _ h9 => h9) rfl dX3_tool_70 ?_
          refine lv_iload_n hx hb dX3_tool_73 rfl (lv_at hl 1 rfl) ?_
          refine lv_iload_n hx hb dX3_tool_74 rfl (lv_at hl 2 rfl) ?_
          refine z_iast (f := ks) (i := t) (x := k) hx hb hK hP hD hS 4 3 rfl rfl (by omega) (by decide) dX3_tool_75 (fun H locs hP hD hS => ?_)
          have hP : va_P (dC, dI) vwCl (mdW b cB w h (cod3 (isW t 0 3) (isW k 0 2) (isW r 0 5)) wn mn kn ik so (uI ks (t).toNat k) rs lf K) H := hP
          have hD : va_D A (mdW b cB w h (cod3 (isW t 0 3) (isW k 0 2) (isW r 0 5)) wn mn kn ik so (uI ks (t).toNat k) rs lf K) := hD
          refine lv_aload_n hx hb dX3_tool_76 rfl (lv_at hl 0 rfl) ?_
          refine va_get (D := (dC, dI)) (ci := 3) (v := .ref (b 5)) (C := RX3) (T := TX3) (N := 18) hx hb hts inX3 hown hK hP 0 rfl rfl 9 (by decide) (hts _ wm_412) (fun _ h9 => h9) rfl dX3_tool_77 ?_
          refine lv_iload_n hx hb dX3_tool_80 rfl (lv_at hl 1 rfl) ?_
          refine lv_iload_n hx hb dX3_tool_81 rfl (lv_at hl 3 rfl) ?_
          refine z_iast (f := rs) (i := t) (x := r) hx hb hK hP hD hS 5 4 rfl rfl (by omega) (by decide) dX3_tool_82 (fun H locs hP hD hS => ?_)
          have hP : va_P (dC, dI) vwCl (mdW b cB w h (cod3 (isW t 0 3) (isW k 0 2) (isW r 0 5)) wn mn kn ik so (uI ks (t).toNat k) (uI rs (t).toNat r) lf K) H := hP
          have hD : va_D A (mdW b cB w h (cod3 (isW t 0 3) (isW k 0 2) (isW r 0 5)) wn mn kn ik so (uI ks (t).toNat k) (uI rs (t).toNat r) lf K) := hD
          refine lv_iconst (v := iI 1) hx hb dX3_tool_83 rfl ?_
          subst hAe
          rw [show puM ks t.toNat k (cod3 (isW t 0 3) (isW k 0 2) (isW r 0 5)) = uI ks t.toNat k from if_pos (by omega), show puM rs t.toNat r (cod3 (isW t 0 3) (isW k 0 2) (isW r 0 5)) = uI rs t.toNat r from if_pos (by omega)]
          refine z_top (b := if cod3 (isW t 0 3) (isW k 0 2) (isW r 0 5) ≤ 0 ∧ ¬ (ks t.toNat = k ∧ rs t.toNat = r) then 1 else 0) ((if_pos ⟨by omega, by omega⟩).symm) ?_
          exact z_zret hx hb hr hlocks (by split <;> omega) hP hK hD hS (trivial) dX3_tool_84
        · refine lv_iconst (v := iI 0) hx hb dX3_tool_67 rfl ?_
          subst hAe
          first | rw [show puM ks t.toNat k (cod3 (isW t 0 3) (isW k 0 2) (isW r 0 5)) = ks from if_neg (by omega), show puM rs t.toNat r (cod3 (isW t 0 3) (isW k 0 2) (isW r 0 5)) = rs from if_neg (by omega)] | rw [show puM ks t.toNat k (cod3 (isW t 0 3) (isW k 0 2) (isW r 0 5)) = ks from by unfold puM; rw [if_pos (by omega), ← c54, uI_id], show puM rs t.toNat r (cod3 (isW t 0 3) (isW k 0 2) (isW r 0 5)) = rs from by unfold puM; rw [if_pos (by omega), ← c64, uI_id]]
          refine z_top (b := if cod3 (isW t 0 3) (isW k 0 2) (isW r 0 5) ≤ 0 ∧ ¬ (ks t.toNat = k ∧ rs t.toNat = r) then 1 else 0) (by first | (rw [if_neg (fun z9 => by omega)]) | (rw [if_neg (fun z9 => z9.2 ⟨c54, c64⟩)])) ?_
          exact z_zret hx hb hr hlocks (by split <;> omega) hP hK hD hS (trivial) dX3_tool_68
  · refine z_if_ne (tgt := 14) hx hb dX3_tool_7 (by decide) (isW_rg _ _ _) (fun c7 => ?_) (fun c7 => ?_)
    · refine lv_iload_n hx hb dX3_tool_14 rfl (lv_at hl 2 rfl) ?_
      refine lv_iconst (v := iI 0) hx hb dX3_tool_15 rfl ?_
      refine lv_iconst (v := iI 2) hx hb dX3_tool_16 rfl ?_
      refine z_rcalli (va_runS (As := [.int (iI k), .int (iI 0), .int (iI 2)]) (rest := [.ref (b 0)]) ⟨hx, hb, hml, hown, hts⟩ (c_X3_isIn l dC dI (H).size k 0 2 (by omega) (by omega) (by omega)) (va_cwS 3 hts g_X3_55 rfl rfl rfl (by decide +kernel) ⟨Nat.le_of_ble_eq_true rfl, Nat.le_of_ble_eq_true rfl⟩) (zP_S z_P0 (hK.sub [] rfl) z_D0 hS (z_free0 hS hA) hZ) rfl rfl hl.1 rfl (lv_room (Nat.le_of_ble_eq_true rfl)) dX3_tool_17 ⟨Nat.le_of_ble_eq_true rfl, Nat.le_of_ble_eq_true rfl⟩) hP hD hS (z_free0 hS hA) (fun _ h => by cases h) (fun H locs _ hP hD hS _ => ?_)
      refine z_if_eq (tgt := 36) hx hb dX3_tool_20 (by decide) (isW_rg _ _ _) (fun c20 => ?_) (fun c20 => ?_)
      · refine lv_iconst (v := iI 2) hx hb dX3_tool_36 rfl ?_
        exact z_top (b := cod3 (isW t 0 3) (isW k 0 2) (isW r 0 5)) (by unfold cod3; (repeat' split) <;> omega) (J37 _ _ hP hD hS)
      · refine lv_iload_n hx hb dX3_tool_23 rfl (lv_at hl 3 rfl) ?_
        refine lv_iconst (v := iI 0) hx hb dX3_tool_24 rfl ?_
        refine lv_iconst (v := iI 5) hx hb dX3_tool_25 rfl ?_
        refine z_rcalli (va_runS (As := [.int (iI r), .int (iI 0), .int (iI 5)]) (rest := [.ref (b 0)]) ⟨hx, hb, hml, hown, hts⟩ (c_X3_isIn l dC dI (H).size r 0 5 (by omega) (by omega) (by omega)) (va_cwS 3 hts g_X3_55 rfl rfl rfl (by decide +kernel) ⟨Nat.le_of_ble_eq_true rfl, Nat.le_of_ble_eq_true rfl⟩) (zP_S z_P0 (hK.sub [] rfl) z_D0 hS (z_free0 hS hA) hZ) rfl rfl hl.1 rfl (lv_room (Nat.le_of_ble_eq_true rfl)) dX3_tool_26 ⟨Nat.le_of_ble_eq_true rfl, Nat.le_of_ble_eq_true rfl⟩) hP hD hS (z_free0 hS hA) (fun _ h => by cases h) (fun H locs _ hP hD hS _ => ?_)
        refine z_if_eq (tgt := 36) hx hb dX3_tool_29 (by decide) (isW_rg _ _ _) (fun c29 => ?_) (fun c29 => ?_)
        · refine lv_iconst (v := iI 2) hx hb dX3_tool_36 rfl ?_
          exact z_top (b := cod3 (isW t 0 3) (isW k 0 2) (isW r 0 5)) (by unfold cod3; (repeat' split) <;> omega) (J37 _ _ hP hD hS)
        · refine lv_iconst (v := iI 0) hx hb dX3_tool_32 rfl ?_
          refine lv_goto (tgt := 37) hx hb dX3_tool_33 (by decide) ?_
          exact z_top (b := cod3 (isW t 0 3) (isW k 0 2) (isW r 0 5)) (by unfold cod3; (repeat' split) <;> omega) (J37 _ _ hP hD hS)
    · refine lv_iconst (v := iI 1) hx hb dX3_tool_10 rfl ?_
      refine lv_goto (tgt := 37) hx hb dX3_tool_11 (by decide) ?_
      exact z_top (b := cod3 (isW t 0 3) (isW k 0 2) (isW r 0 5)) (by unfold cod3; (repeat' split) <;> omega) (J37 _ _ hP hD hS)
abbrev r_X3_greatest : Room := { frames := 0, cells := 0, slots := 0, locals := 0 }
set_option maxHeartbeats 4000000 in
set_option maxRecDepth 100000 in
theorem lp_X3_greatest_14 {p : Program} {l : Launch} {e : Env} {s : State} {m : MethodId} {args : Array Value} {below : List Frame} {meth : Method} {c : Code} {Q : State → Prop} {A : Nat → Prop} {dC : Nat → ClassId} {dI : Nat → Nat → Nat} (b : Nat → Nat) (cB : Nat → ClassId) (w h : Nat) (cd : Int) (wn mn kn : Nat → Int) (ik so : Int) (ks rs lf : Nat → Int) (K : MK) (u g : Int) (hx : p.tables.exec = Jvm.exec) (hb : c.code = cX3_greatest) (hml : c.maxLocals = 4) (hown : s.vm.findClass RX3 = some m.cls) (hts : ∀ w ∈ wsAll, w.before args s = true) (hA : ∀ q : Nat, s.heap.size ≤ q → A q) (hZ : zZ A s s.heap) (hK : va_K (dC, dI) vwCl (mdT cB) s) (hw : 1 ≤ w ∧ w ≤ 20) (hh : 1 ≤ h ∧ h ≤ 20) (hwn : bd wn 0 1000) (hu : 0 ≤ u ∧ u < (h : Int)) (hg : 0 ≤ g ∧ g ≤ 1000) (kk : ∀ (H : Heap) (locs : List Loc) (ls : Array Slot), va_P (dC, dI) vwCl (mdW b cB w h cd wn mn kn ik so ks rs lf K) H → va_D A (mdW b cB w h cd wn mn kn ik so ks rs lf K) → va_S A s.heap H locs → lv_has ls 4 [(0, .ref (b 0)), (1, .int (iI (gmR wn u w g))), (2, .int (iI u)), (3, .int (iI ((w : Nat) : Int)))] → W p l e r_X3_greatest s m args below meth c H locs 0 0 Q (F0 m 59 ls [])) : ∀ (n i : Nat), i + n = w → ∀ (H : Heap) (locs : List Loc) (ls : Array Slot), va_P (dC, dI) vwCl (mdW b cB w h cd wn mn kn ik so ks rs lf K) H → va_D A (mdW b cB w h cd wn mn kn ik so ks rs lf K) → va_S A s.heap H locs → lv_has ls 4 [(0, .ref (b 0)), (1, .int (iI (gmR wn u i g))), (2, .int (iI u)), (3, .int (iI ((i : Nat) : Int)))] → W p l e r_X3_greatest s m args below meth c H locs 0 0 Q (F0 m 14 ls []) := by
  intro n
  induction n with
  | zero =>
    intro i hi H locs ls hP hD hS hl
    have hi9 : w = i := by omega
    subst hi9
    refine lv_iload_n hx hb dX3_greatest_14 rfl (lv_at hl 3 rfl) ?_
    refine lv_aload_n hx hb dX3_greatest_15 rfl (lv_at hl 0 rfl) ?_
    refine va_get (D := (dC, dI)) (ci := 3) (v := .int (iI (w : Int))) (C := RX3) (T := TX3) (N := 18) hx hb hts inX3 hown hK hP 0 rfl rfl 1 (by decide) (hts _ wm_404) (fun _ h9 => h9) rfl dX3_greatest_16 ?_
    refine z_icmp_ge (tgt := 59) hx hb dX3_greatest_19 (by decide) (by omega) (by omega) (fun c19 => ?_) (fun c19 => by exfalso; omega)
    exact kk _ _ _ hP hD hS (lv_sub hl [0, 1, 2, 3] rfl)
  | succ n ih =>
    intro i hi H locs ls hP hD hS hl
    refine lv_iload_n hx hb dX3_greatest_14 rfl (lv_at hl 3 rfl) ?_
    refine lv_aload_n hx hb dX3_greatest_15 rfl (lv_at hl 0 rfl) ?_
    refine va_get (D := (dC, dI)) (ci := 3) (v := .int (iI (w : Int))) (C := RX3) (T := TX3) (N := 18) hx hb hts inX3 hown hK hP 0 rfl rfl 1 (by decide) (hts _ wm_404) (fun _ h9 => h9) rfl dX3_greatest_16 ?_
    refine z_icmp_ge (tgt := 59) hx hb dX3_greatest_19 (by decide) (by omega) (by omega) (fun c19 => by exfalso; omega) (fun c19 => ?_)
    refine lv_aload_n hx hb dX3_greatest_22 rfl (lv_at hl 0 rfl) ?_
    refine va_get (D := (dC, dI)) (ci := 3) (v := .ref (b 1)) (C := RX3) (T := TX3) (N := 18) hx hb hts inX3 hown hK hP 0 rfl rfl 3 (by decide) (hts _ wm_406) (fun _ h9 => h9) rfl dX3_greatest_23 ?_
    refine lv_bipush (v := iI 20) hx hb dX3_greatest_26 (by decide) ?_
    refine lv_iload_n hx hb dX3_greatest_28 rfl (lv_at hl 2 rfl) ?_
    refine z_mul hx hb dX3_greatest_29 ?_
    refine lv_iload_n hx hb dX3_greatest_30 rfl (lv_at hl 3 rfl) ?_
    refine z_add hx hb dX3_greatest_31 ?_
    refine z_iald (f := wn) (i := (20 * u) + ((i : Nat) : Int)) hx hb hK hP 1 0 rfl rfl (z_i20 (w := w) (h := h) hw.2 hh.2 (x := ((i : Nat) : Int)) (y := u) (by omega) (by omega) hu.1 hu.2) (by decide) dX3_greatest_32 ?_
    refine lv_iload_n hx hb dX3_greatest_33 rfl (lv_at hl 1 rfl) ?_
    have hb1 := hwn (20 * u + ((i : Nat) : Int)).toNat
    have hb2 := gmR_rg (y := u) (n := i) hwn hg
    refine z_icmp_le (tgt := 51) hx hb dX3_greatest_34 (by decide) (by omega) (by omega) (fun c34 => ?_) (fun c34 => ?_)
    · refine lv_iload_n hx hb dX3_greatest_51 rfl (lv_at hl 1 rfl) ?_
      refine lv_istore_n (lv' := [(1, .int (iI (gmR wn u i g))), (0, .ref (b 0)), (2, .int (iI u)), (3, .int (iI ((i : Nat) : Int)))]) hx hb dX3_greatest_52 rfl hl (by decide) rfl (fun ls hl => ?_)
      refine lv_iinc (v := iI (((i + 1) : Nat) : Int)) (lv' := [(3, .int (iI (((i + 1) : Nat) : Int))), (1, .int (iI (gmR wn u i g))), (0, .ref (b 0)), (2, .int (iI u))]) hx hb dX3_greatest_53 hl (k := 3) rfl ((iI_add _ _).trans (congrArg iI (by omega))) (by decide) rfl (fun ls hl => ?_)
      refine lv_goto (tgt := 14) hx hb dX3_greatest_56 (by decide) ?_
      have eg : gmR wn u (i + 1) g = gmR wn u i g := by
        show max (gmR wn u i g) (wn (20 * u + ((i : Nat) : Int)).toNat) = _
        omega
      exact ih (i + 1) (by omega) _ _ _ hP hD hS (by rw [eg]; exact lv_sub hl [2, 1, 3, 0] rfl)
    · refine lv_aload_n hx hb dX3_greatest_37 rfl (lv_at hl 0 rfl) ?_
      refine va_get (D := (dC, dI)) (ci := 3) (v := .ref (b 1)) (C := RX3) (T := TX3) (N := 18) hx hb hts inX3 hown hK hP 0 rfl rfl 3 (by decide) (hts _ wm_406) (fun _ h9 => h9) rfl dX3_greatest_38 ?_
      refine lv_bipush (v := iI 20) hx hb dX3_greatest_41 (by decide) ?_
      refine lv_iload_n hx hb dX3_greatest_43 rfl (lv_at hl 2 rfl) ?_
      refine z_mul hx hb dX3_greatest_44 ?_
      refine lv_iload_n hx hb dX3_greatest_45 rfl (lv_at hl 3 rfl) ?_
      refine z_add hx hb dX3_greatest_46 ?_
      refine z_iald (f := wn) (i := (20 * u) + ((i : Nat) : Int)) hx hb hK hP 1 0 rfl rfl (z_i20 (w := w) (h := h) hw.2 hh.2 (x := ((i : Nat) : Int)) (y := u) (by omega) (by omega) hu.1 hu.2) (by decide) dX3_greatest_47 ?_
      refine lv_goto (tgt := 52) hx hb dX3_greatest_48 (by decide) ?_
      refine lv_istore_n (lv' := [(1, .int (iI (wn ((20 * u) + ((i : Nat) : Int)).toNat))), (0, .ref (b 0)), (2, .int (iI u)), (3, .int (iI ((i : Nat) : Int)))]) hx hb dX3_greatest_52 rfl hl (by decide) rfl (fun ls hl => ?_)
      refine lv_iinc (v := iI (((i + 1) : Nat) : Int)) (lv' := [(3, .int (iI (((i + 1) : Nat) : Int))), (1, .int (iI (wn ((20 * u) + ((i : Nat) : Int)).toNat))), (0, .ref (b 0)), (2, .int (iI u))]) hx hb dX3_greatest_53 hl (k := 3) rfl ((iI_add _ _).trans (congrArg iI (by omega))) (by decide) rfl (fun ls hl => ?_)
      refine lv_goto (tgt := 14) hx hb dX3_greatest_56 (by decide) ?_
      have eg : gmR wn u (i + 1) g = wn ((20 * u) + ((i : Nat) : Int)).toNat := by
        show max (gmR wn u i g) (wn (20 * u + ((i : Nat) : Int)).toNat) = _
        omega
      exact ih (i + 1) (by omega) _ _ _ hP hD hS (by rw [eg]; exact lv_sub hl [2, 1, 3, 0] rfl)
set_option maxHeartbeats 4000000 in
set_option maxRecDepth 100000 in
theorem lp_X3_greatest_4 {p : Program} {l : Launch} {e : Env} {s : State} {m : MethodId} {args : Array Value} {below : List Frame} {meth : Method} {c : Code} {Q : State → Prop} {A : Nat → Prop} {dC : Nat → ClassId} {dI : Nat → Nat → Nat} (b : Nat → Nat) (cB : Nat → ClassId) (w h : Nat) (cd : Int) (wn mn kn : Nat → Int) (ik so : Int) (ks rs lf : Nat → Int) (K : MK) (hx : p.tables.exec = Jvm.exec) (hb : c.code = cX3_greatest) (hml : c.maxLocals = 4) (hown : s.vm.findClass RX3 = some m.cls) (hts : ∀ w ∈ wsAll, w.before args s = true) (hA : ∀ q : Nat, s.heap.size ≤ q → A q) (hZ : zZ A s s.heap) (hK : va_K (dC, dI) vwCl (mdT cB) s) (hw : 1 ≤ w ∧ w ≤ 20) (hh : 1 ≤ h ∧ h ≤ 20) (hwn : bd wn 0 1000) (kk : ∀ (H : Heap) (locs : List Loc) (ls : Array Slot), va_P (dC, dI) vwCl (mdW b cB w h cd wn mn kn ik so ks rs lf K) H → va_D A (mdW b cB w h cd wn mn kn ik so ks rs lf K) → va_S A s.heap H locs → lv_has ls 4 [(0, .ref (b 0)), (1, .int (iI (gmF w wn h))), (2, .int (iI ((h : Nat) : Int)))] → W p l e r_X3_greatest s m args below meth c H locs 0 0 Q (F0 m 65 ls [])) : ∀ (n i : Nat), i + n = h → ∀ (H : Heap) (locs : List Loc) (ls : Array Slot), va_P (dC, dI) vwCl (mdW b cB w h cd wn mn kn ik so ks rs lf K) H → va_D A (mdW b cB w h cd wn mn kn ik so ks rs lf K) → va_S A s.heap H locs → lv_has ls 4 [(0, .ref (b 0)), (1, .int (iI (gmF w wn i))), (2, .int (iI ((i : Nat) : Int)))] → W p l e r_X3_greatest s m args below meth c H locs 0 0 Q (F0 m 4 ls []) := by
  intro n
  induction n with
  | zero =>
    intro i hi H locs ls hP hD hS hl
    have hi9 : h = i := by omega
    subst hi9
    refine lv_iload_n hx hb dX3_greatest_4 rfl (lv_at hl 2 rfl) ?_
    refine lv_aload_n hx hb dX3_greatest_5 rfl (lv_at hl 0 rfl) ?_
    refine va_get (D := (dC, dI)) (ci := 3) (v := .int (iI (h : Int))) (C := RX3) (T := TX3) (N := 18) hx hb hts inX3 hown hK hP 0 rfl rfl 2 (by decide) (hts _ wm_405) (fun _ h9 => h9) rfl dX3_greatest_6 ?_
    refine z_icmp_ge (tgt := 65) hx hb dX3_greatest_9 (by decide) (by omega) (by omega) (fun c9 => ?_) (fun c9 => by exfalso; omega)
    exact kk _ _ _ hP hD hS (lv_sub hl [0, 1, 2] rfl)
  | succ n ih =>
    intro i hi H locs ls hP hD hS hl
    refine lv_iload_n hx hb dX3_greatest_4 rfl (lv_at hl 2 rfl) ?_
    refine lv_aload_n hx hb dX3_greatest_5 rfl (lv_at hl 0 rfl) ?_
    refine va_get (D := (dC, dI)) (ci := 3) (v := .int (iI (h : Int))) (C := RX3) (T := TX3) (N := 18) hx hb hts inX3 hown hK hP 0 rfl rfl 2 (by decide) (hts _ wm_405) (fun _ h9 => h9) rfl dX3_greatest_6 ?_
    refine z_icmp_ge (tgt := 65) hx hb dX3_greatest_9 (by decide) (by omega) (by omega) (fun c9 => by exfalso; omega) (fun c9 => ?_)
    refine lv_iconst (v := iI 0) hx hb dX3_greatest_12 rfl ?_
    refine lv_istore_n (lv' := [(3, .int (iI 0)), (0, .ref (b 0)), (1, .int (iI (gmF w wn i))), (2, .int (iI ((i : Nat) : Int)))]) hx hb dX3_greatest_13 rfl hl (by decide) rfl (fun ls hl => ?_)
    refine lp_X3_greatest_14 b cB w h cd wn mn kn ik so ks rs lf K ((i : Nat) : Int) (gmF w wn i) hx hb hml hown hts hA hZ hK (hw) (hh) (hwn) (by omega) (gmF_rg hwn) (fun H locs ls hP hD hS hl => ?_)  w 0 (by omega) _ _ _ hP hD hS (lv_sub hl [1, 2, 3, 0] rfl)
    have hP : va_P (dC, dI) vwCl (mdW b cB w h cd wn mn kn ik so ks rs lf K) H := hP
    have hD : va_D A (mdW b cB w h cd wn mn kn ik so ks rs lf K) := hD
    have hl : lv_has ls 4 [(0, .ref (b 0)), (1, .int (iI (gmR wn ((i : Nat) : Int) w (gmF w wn i)))), (2, .int (iI ((i : Nat) : Int))), (3, .int (iI ((w : Nat) : Int)))] := hl
    refine lv_iinc (v := iI (((i + 1) : Nat) : Int)) (lv' := [(2, .int (iI (((i + 1) : Nat) : Int))), (0, .ref (b 0)), (1, .int (iI (gmR wn ((i : Nat) : Int) w (gmF w wn i)))), (3, .int (iI ((w : Nat) : Int)))]) hx hb dX3_greatest_59 hl (k := 2) rfl ((iI_add _ _).trans (congrArg iI (by omega))) (by decide) rfl (fun ls hl => ?_)
    refine lv_goto (tgt := 4) hx hb dX3_greatest_62 (by decide) ?_
    exact ih (i + 1) (by omega) _ _ _ hP hD hS (lv_sub hl [1, 2, 0] rfl)
set_option maxHeartbeats 4000000 in
set_option maxRecDepth 100000 in
theorem c_X3_greatest (l : Launch) (dC : Nat → ClassId) (dI : Nat → Nat → Nat) (sz : Nat) (b : Nat → Nat) (cB : Nat → ClassId) (w h : Nat) (cd : Int) (wn mn kn : Nat → Int) (ik so : Int) (ks rs lf : Nat → Int) (K : MK) (hw : 1 ≤ w ∧ w ≤ 20) (hh : 1 ≤ h ∧ h ≤ 20) (hwn : bd wn 0 1000) : Met l yX3_greatest wsX3_greatest r_X3_greatest (zP (dC, dI) vwCl (mdT cB) (mdW b cB w h cd wn mn kn ik so ks rs lf K) sz [.ref (b 0)]) (zQi (dC, dI) vwCl (mdT cB) (mdW b cB w h cd wn mn kn ik so ks rs lf K) sz (True) (gmF w wn h) (mdW b cB w h cd wn mn kn ik so ks rs lf K)) 0 0 (va_A (mdW b cB w h cd wn mn kn ik so ks rs lf K) sz) := by
  refine Met.ofW (cc := cX3_greatest) (maxL := 4) (ret := (some .int)) (by decide) rfl ?_
  intro p e s m args below meth c s₁ B hml hv
  obtain ⟨rfl, hsz, hP, hK, hD0, hZ⟩ := hv
  have hx := B.exec
  have hb := B.bytes
  have hr := B.returns
  have hts0 := atoms_spec (ws := wsX3_greatest) B.pre
  have hts : ∀ w ∈ wsAll, w.before _ s = true := fun w h => hts0 w (List.mem_cons_of_mem _ h)
  have hown : s.vm.findClass RX3 = some m.cls := findClass_of_methodNamed B.named
  have hlocks := B.notSynchronized
  subst hsz
  have hD := hD0.self (sz := s.heap.size)
  obtain ⟨A, hAe⟩ : ∃ A, A = va_A (mdW b cB w h cd wn mn kn ik so ks rs lf K) s.heap.size := ⟨_, rfl⟩
  rw [← hAe] at hD hZ
  have hA : ∀ q : Nat, s.heap.size ≤ q → A q := fun q h => by rw [hAe]; exact Or.inr h
  have hS : va_S A s.heap s.heap [] := va_S.rf
  have hP : va_P (dC, dI) vwCl (mdW b cB w h cd wn mn kn ik so ks rs lf K) s.heap := hP
  have hl := lv_entry ([.ref (b 0)]) (n := 4) (Nat.le_of_ble_eq_true rfl)
  rw [lg_entry_eq]
  generalize (lg_sl ([.ref (b 0)]) ++ List.replicate (4 - (lg_sl ([.ref (b 0)])).length) Slot.unset).toArray = ls at hl ⊢
  have hl : lv_has ls 4 [(0, .ref (b 0))] := hl
  refine lv_iconst (v := iI 0) hx hb dX3_greatest_0 rfl ?_
  refine lv_istore_n (lv' := [(1, .int (iI 0)), (0, .ref (b 0))]) hx hb dX3_greatest_1 rfl hl (by decide) rfl (fun ls hl => ?_)
  refine lv_iconst (v := iI 0) hx hb dX3_greatest_2 rfl ?_
  refine lv_istore_n (lv' := [(2, .int (iI 0)), (1, .int (iI 0)), (0, .ref (b 0))]) hx hb dX3_greatest_3 rfl hl (by decide) rfl (fun ls hl => ?_)
  refine lp_X3_greatest_4 b cB w h cd wn mn kn ik so ks rs lf K hx hb hml hown hts hA hZ hK (hw) (hh) (hwn) (fun H locs ls hP hD hS hl => ?_)  h 0 (by omega) _ _ _ hP hD hS (lv_sub hl [2, 1, 0] rfl)
  have hP : va_P (dC, dI) vwCl (mdW b cB w h cd wn mn kn ik so ks rs lf K) H := hP
  have hD : va_D A (mdW b cB w h cd wn mn kn ik so ks rs lf K) := hD
  have hl : lv_has ls 4 [(0, .ref (b 0)), (1, .int (iI (gmF w wn h))), (2, .int (iI ((h : Nat) : Int)))] := hl
  refine lv_iload_n hx hb dX3_greatest_65 rfl (lv_at hl 1 rfl) ?_
  subst hAe
  exact z_iret hx hb hr hlocks hP hK hD hS (trivial) dX3_greatest_66
theorem g_X3_59 : GoodIn wsAll (wsV RX3 59 RX3 yX3_greatest wsX3_greatest) := z_good (show ∀ w ∈ (Cond.methodLink RX3 59 yX3_greatest :: Cond.instanceMethod yX3_greatest :: Cond.selects RX3 yX3_greatest yX3_greatest :: Cond.initialized RX3 :: Cond.code yX3_greatest prog_5_method_8_code 4 (some .int) :: wsAll), w ∈ wsAll from List.forall_mem_cons.mpr ⟨wm_479, List.forall_mem_cons.mpr ⟨wm_480, List.forall_mem_cons.mpr ⟨wm_571, List.forall_mem_cons.mpr ⟨wm_114, List.forall_mem_cons.mpr ⟨wm_481, fun _ h => h⟩⟩⟩⟩⟩)
abbrev r_X3_stock : Room := { frames := 1, cells := 0, slots := 0, locals := 23 }
set_option maxHeartbeats 4000000 in
set_option maxRecDepth 100000 in
theorem lp_X3_stock_48 {p : Program} {l : Launch} {e : Env} {s : State} {m : MethodId} {args : Array Value} {below : List Frame} {meth : Method} {c : Code} {Q : State → Prop} {A : Nat → Prop} {dC : Nat → ClassId} {dI : Nat → Nat → Nat} (b : Nat → Nat) (cB : Nat → ClassId) (w h : Nat) (cd : Int) (wn mn kn : Nat → Int) (ik so : Int) (ks rs lf : Nat → Int) (K : MK) (v : Int) (hx : p.tables.exec = Jvm.exec) (hb : c.code = cX3_stock) (hml : c.maxLocals = 3) (hown : s.vm.findClass RX3 = some m.cls) (hts : ∀ w ∈ wsAll, w.before args s = true) (hA : ∀ q : Nat, s.heap.size ≤ q → A q) (hZ : zZ A s s.heap) (hK : va_K (dC, dI) vwCl (mdT cB) s) (kk : ∀ (H : Heap) (locs : List Loc) (ls : Array Slot), va_P (dC, dI) vwCl (mdW b cB w h cd wn (flF v 400 mn) kn ik so ks rs lf K) H → va_D A (mdW b cB w h cd wn (flF v 400 mn) kn ik so ks rs lf K) → va_S A s.heap H locs → lv_has ls 3 [(0, .ref (b 0)), (1, .int (iI v)), (2, .int (iI ((400 : Nat) : Int)))] → W p l e r_X3_stock s m args below meth c H locs 0 0 Q (F0 m 68 ls [])) : ∀ (n i : Nat), i + n = 400 → ∀ (H : Heap) (locs : List Loc) (ls : Array Slot), va_P (dC, dI) vwCl (mdW b cB w h cd wn (flF v i mn) kn ik so ks rs lf K) H → va_D A (mdW b cB w h cd wn (flF v i mn) kn ik so ks rs lf K) → va_S A s.heap H locs → lv_has ls 3 [(0, .ref (b 0)), (1, .int (iI v)), (2, .int (iI ((i : Nat) : Int)))] → W p l e r_X3_stock s m args below meth c H locs 0 0 Q (F0 m 48 ls []) := by
  intro n
  induction n with
  | zero =>
    intro i hi H locs ls hP hD hS hl
    have hi9 : 400 = i := by omega
    subst hi9
    refine lv_iload_n hx hb dX3_stock_48 rfl (lv_at hl 2 rfl) ?_
    refine lv_sipush (v := iI 400) hx hb dX3_stock_49 (by decide) ?_
    refine z_icmp_ge (tgt := 68) hx hb dX3_stock_52 (by decide) (by omega) (by omega) (fun c52 => ?_) (fun c52 => by exfalso; omega)
    exact kk _ _ _ hP hD hS (lv_sub hl [0, 1, 2] rfl)
  | succ n ih =>
    intro i hi H locs ls hP hD hS hl
    refine lv_iload_n hx hb dX3_stock_48 rfl (lv_at hl 2 rfl) ?_
    refine lv_sipush (v := iI 400) hx hb dX3_stock_49 (by decide) ?_
    refine z_icmp_ge (tgt := 68) hx hb dX3_stock_52 (by decide) (by omega) (by omega) (fun c52 => by exfalso; omega) (fun c52 => ?_)
    refine lv_aload_n hx hb dX3_stock_55 rfl (lv_at hl 0 rfl) ?_
    refine va_get (D := (dC, dI)) (ci := 3) (v := .ref (b 2)) (C := RX3) (T := TX3) (N := 18) hx hb hts inX3 hown hK hP 0 rfl rfl 4 (by decide) (hts _ wm_407) (fun _ h9 => h9) rfl dX3_stock_56 ?_
    refine lv_iload_n hx hb dX3_stock_59 rfl (lv_at hl 2 rfl) ?_
    refine lv_iload_n hx hb dX3_stock_60 rfl (lv_at hl 1 rfl) ?_
    refine z_iast (f := flF v i mn) (i := ((i : Nat) : Int)) (x := v) hx hb hK hP hD hS 2 1 rfl rfl (by omega) (by decide) dX3_stock_61 (fun H locs hP hD hS => ?_)
    have hP : va_P (dC, dI) vwCl (mdW b cB w h cd wn (uI (flF v i mn) (((i : Nat) : Int)).toNat v) kn ik so ks rs lf K) H := hP
    have hD : va_D A (mdW b cB w h cd wn (uI (flF v i mn) (((i : Nat) : Int)).toNat v) kn ik so ks rs lf K) := hD
    refine lv_iinc (v := iI (((i + 1) : Nat) : Int)) (lv' := [(2, .int (iI (((i + 1) : Nat) : Int))), (0, .ref (b 0)), (1, .int (iI v))]) hx hb dX3_stock_62 hl (k := 2) rfl ((iI_add _ _).trans (congrArg iI (by omega))) (by decide) rfl (fun ls hl => ?_)
    refine lv_goto (tgt := 48) hx hb dX3_stock_65 (by decide) ?_
    exact ih (i + 1) (by omega) _ _ _ hP hD hS (lv_sub hl [1, 2, 0] rfl)
set_option maxHeartbeats 4000000 in
set_option maxRecDepth 100000 in
theorem c_X3_stock (l : Launch) (dC : Nat → ClassId) (dI : Nat → Nat → Nat) (sz : Nat) (b : Nat → Nat) (cB : Nat → ClassId) (w h : Nat) (cd : Int) (wn mn kn : Nat → Int) (ik so : Int) (ks rs lf : Nat → Int) (K : MK) (v : Int) (hw : 1 ≤ w ∧ w ≤ 20) (hh : 1 ≤ h ∧ h ≤ 20) (hwn : bd wn 0 1000) (h1 : rg v) : Met l yX3_stock wsX3_stock r_X3_stock (zP (dC, dI) vwCl (mdT cB) (mdW b cB w h cd wn mn kn ik so ks rs lf K) sz [.ref (b 0), .int (iI v)]) (zQi (dC, dI) vwCl (mdT cB) (mdW b cB w h cd wn mn kn ik so ks rs lf K) sz (True) (if codS (isW v 1 1000) (gmF w wn h) v ≤ 0 then gmF w wn h else 0) (mdW b cB w h (codS (isW v 1 1000) (gmF w wn h) v) wn (if codS (isW v 1 1000) (gmF w wn h) v ≤ 0 then flF v 400 mn else mn) kn ik (if codS (isW v 1 1000) (gmF w wn h) v ≤ 0 then v else so) ks rs lf K)) 0 0 (va_A (mdW b cB w h cd wn mn kn ik so ks rs lf K) sz) := by
  refine Met.ofW (cc := cX3_stock) (maxL := 3) (ret := (some .int)) (by decide) rfl ?_
  intro p e s m args below meth c s₁ B hml hv
  obtain ⟨rfl, hsz, hP, hK, hD0, hZ⟩ := hv
  have hx := B.exec
  have hb := B.bytes
  have hr := B.returns
  have hts0 := atoms_spec (ws := wsX3_stock) B.pre
  have hts : ∀ w ∈ wsAll, w.before _ s = true := fun w h => hts0 w (List.mem_cons_of_mem _ h)
  have hown : s.vm.findClass RX3 = some m.cls := findClass_of_methodNamed B.named
  have hlocks := B.notSynchronized
  subst hsz
  have hD := hD0.self (sz := s.heap.size)
  obtain ⟨A, hAe⟩ : ∃ A, A = va_A (mdW b cB w h cd wn mn kn ik so ks rs lf K) s.heap.size := ⟨_, rfl⟩
  rw [← hAe] at hD hZ
  have hA : ∀ q : Nat, s.heap.size ≤ q → A q := fun q h => by rw [hAe]; exact Or.inr h
  have hS : va_S A s.heap s.heap [] := va_S.rf
  have hP : va_P (dC, dI) vwCl (mdW b cB w h cd wn mn kn ik so ks rs lf K) s.heap := hP
  have hl := lv_entry ([.ref (b 0), .int (iI v)]) (n := 3) (Nat.le_of_ble_eq_true rfl)
  rw [lg_entry_eq]
  generalize (lg_sl ([.ref (b 0), .int (iI v)]) ++ List.replicate (3 - (lg_sl ([.ref (b 0), .int (iI v)])).length) Slot.unset).toArray = ls at hl ⊢
  have hl : lv_has ls 3 [(0, .ref (b 0)), (1, .int (iI v))] := hl
  refine lv_aload_n hx hb dX3_stock_0 rfl (lv_at hl 0 rfl) ?_
  refine lv_iload_n hx hb dX3_stock_1 rfl (lv_at hl 1 rfl) ?_
  refine lv_iconst (v := iI 1) hx hb dX3_stock_2 rfl ?_
  refine lv_sipush (v := iI 1000) hx hb dX3_stock_3 (by decide) ?_
  refine z_rcalli (va_runS (As := [.int (iI v), .int (iI 1), .int (iI 1000)]) (rest := [.ref (b 0)]) ⟨hx, hb, hml, hown, hts⟩ (c_X3_isIn l dC dI (s.heap).size v 1 1000 (by omega) (by omega) (by omega)) (va_cwS 3 hts g_X3_55 rfl rfl rfl (by decide +kernel) ⟨Nat.le_of_ble_eq_true rfl, Nat.le_of_ble_eq_true rfl⟩) (zP_S z_P0 (hK.sub [] rfl) z_D0 hS (z_free0 hS hA) hZ) rfl rfl hl.1 rfl (lv_room (Nat.le_of_ble_eq_true rfl)) dX3_stock_6 ⟨Nat.le_of_ble_eq_true rfl, Nat.le_of_ble_eq_true rfl⟩) hP hD hS (z_free0 hS hA) (fun _ h => by cases h) (fun H locs _ hP hD hS _ => ?_)
  refine z_joinH (D := (dC, dI)) (cl := vwCl) (A := A) (ws := mdW b cB w h cd wn mn kn ik so ks rs lf K) (g0 := F0 m 29 ls [.int (iI (codS (isW v 1 1000) (gmF w wn h) v)), .ref (b 0)]) (fun H locs hP hD hS => ?_) (fun J29 => ?_)
  · refine va_put (D := (dC, dI)) (ci := 3) (v := .int (iI (codS (isW v 1 1000) (gmF w wn h) v))) (ty := .int) (C := RX3) (T := TX3) (N := 18) hx hb hts inX3 tyX3 tyX3_ok nmX3 hown hK hP hD hS 0 rfl rfl 0 (by decide) (hts _ wm_403) (fun _ h9 => h9) rfl (by decide +kernel) rfl rfl (Nat.le_of_ble_eq_true rfl) dX3_stock_29 (fun H locs hP hD hS => ?_)
    have hP : va_P (dC, dI) vwCl (mdW b cB w h (codS (isW v 1 1000) (gmF w wn h) v) wn mn kn ik so ks rs lf K) H := hP
    have hD : va_D A (mdW b cB w h (codS (isW v 1 1000) (gmF w wn h) v) wn mn kn ik so ks rs lf K) := hD
    refine lv_aload_n hx hb dX3_stock_32 rfl (lv_at hl 0 rfl) ?_
    refine va_get (D := (dC, dI)) (ci := 3) (v := .int (iI (codS (isW v 1 1000) (gmF w wn h) v))) (C := RX3) (T := TX3) (N := 18) hx hb hts inX3 hown hK hP 0 rfl rfl 0 (by decide) (hts _ wm_403) (fun _ h9 => h9) rfl dX3_stock_33 ?_
    have hcr := codS_rg (isW v 1 1000) (gmF w wn h) v
    refine z_if_le (tgt := 41) hx hb dX3_stock_36 (by decide) (by omega) (fun c36 => ?_) (fun c36 => ?_)
    · refine lv_aload_n hx hb dX3_stock_41 rfl (lv_at hl 0 rfl) ?_
      refine lv_iload_n hx hb dX3_stock_42 rfl (lv_at hl 1 rfl) ?_
      refine va_put (D := (dC, dI)) (ci := 3) (v := .int (iI v)) (ty := .int) (C := RX3) (T := TX3) (N := 18) hx hb hts inX3 tyX3 tyX3_ok nmX3 hown hK hP hD hS 0 rfl rfl 7 (by decide) (hts _ wm_410) (fun _ h9 => h9) rfl (by decide +kernel) rfl rfl (Nat.le_of_ble_eq_true rfl) dX3_stock_43 (fun H locs hP hD hS => ?_)
      have hP : va_P (dC, dI) vwCl (mdW b cB w h (codS (isW v 1 1000) (gmF w wn h) v) wn mn kn ik v ks rs lf K) H := hP
      have hD : va_D A (mdW b cB w h (codS (isW v 1 1000) (gmF w wn h) v) wn mn kn ik v ks rs lf K) := hD
      refine lv_iconst (v := iI 0) hx hb dX3_stock_46 rfl ?_
      refine lv_istore_n (lv' := [(2, .int (iI 0)), (0, .ref (b 0)), (1, .int (iI v))]) hx hb dX3_stock_47 rfl hl (by decide) rfl (fun ls hl => ?_)
      refine lp_X3_stock_48 b cB w h (codS (isW v 1 1000) (gmF w wn h) v) wn mn kn ik v ks rs lf K v hx hb hml hown hts hA hZ hK  (fun H locs ls hP hD hS hl => ?_)  400 0 (by omega) _ _ _ hP hD hS (lv_sub hl [1, 2, 0] rfl)
      have hP : va_P (dC, dI) vwCl (mdW b cB w h (codS (isW v 1 1000) (gmF w wn h) v) wn (flF v 400 mn) kn ik v ks rs lf K) H := hP
      have hD : va_D A (mdW b cB w h (codS (isW v 1 1000) (gmF w wn h) v) wn (flF v 400 mn) kn ik v ks rs lf K) := hD
      have hl : lv_has ls 3 [(0, .ref (b 0)), (1, .int (iI v)), (2, .int (iI ((400 : Nat) : Int)))] := hl
      refine lv_aload_n hx hb dX3_stock_68 rfl (lv_at hl 0 rfl) ?_
      have hFc := z_freeR (wc := mdW b cB w h (codS (isW v 1 1000) (gmF w wn h) v) wn (flF v 400 mn) kn ik v ks rs lf K) (fun _ h => h) hD hS hA
      refine z_wcalli (va_runV (As := []) (rest := []) ⟨hx, hb, hml, hown, hts⟩ (c_X3_greatest l dC dI (H).size b cB w h (codS (isW v 1 1000) (gmF w wn h) v) wn (flF v 400 mn) kn ik v ks rs lf K hw hh hwn) (cwV 0 hts g_X3_59 rfl rfl rfl (by decide +kernel) ⟨Nat.le_of_ble_eq_true rfl, Nat.le_of_ble_eq_true rfl⟩) (zP_V (ci := 3) (q0 := 0) rfl rfl hP hK hD hS hFc hZ) rfl rfl hl.1 rfl (lv_room (Nat.le_of_ble_eq_true rfl)) dX3_stock_69 ⟨Nat.le_of_ble_eq_true rfl, Nat.le_of_ble_eq_true rfl⟩) hS hFc (fun H locs _ hP hD hS _ => ?_)
      have hP : va_P (dC, dI) vwCl (mdW b cB w h (codS (isW v 1 1000) (gmF w wn h) v) wn (flF v 400 mn) kn ik v ks rs lf K) H := hP
      have hD : va_D A (mdW b cB w h (codS (isW v 1 1000) (gmF w wn h) v) wn (flF v 400 mn) kn ik v ks rs lf K) := hD
      subst hAe
      rw [show (if codS (isW v 1 1000) (gmF w wn h) v ≤ 0 then v else so) = v from if_pos (by omega), show (if codS (isW v 1 1000) (gmF w wn h) v ≤ 0 then flF v 400 mn else mn) = flF v 400 mn from if_pos (by omega)]
      refine z_top (b := if codS (isW v 1 1000) (gmF w wn h) v ≤ 0 then gmF w wn h else 0) (by rw [if_pos (by omega)]) ?_
      exact z_iret hx hb hr hlocks hP hK hD hS (trivial) dX3_stock_72
    · refine lv_iconst (v := iI 0) hx hb dX3_stock_39 rfl ?_
      subst hAe
      rw [show (if codS (isW v 1 1000) (gmF w wn h) v ≤ 0 then v else so) = so from if_neg (by omega), show (if codS (isW v 1 1000) (gmF w wn h) v ≤ 0 then flF v 400 mn else mn) = mn from if_neg (by omega)]
      refine z_top (b := if codS (isW v 1 1000) (gmF w wn h) v ≤ 0 then gmF w wn h else 0) (by rw [if_neg (by omega)]) ?_
      exact z_iret hx hb hr hlocks hP hK hD hS (trivial) dX3_stock_40
  · refine z_if_ne (tgt := 16) hx hb dX3_stock_9 (by decide) (isW_rg _ _ _) (fun c9 => ?_) (fun c9 => ?_)
    · refine lv_aload_n hx hb dX3_stock_16 rfl (lv_at hl 0 rfl) ?_
      have hFc := z_freeR (wc := mdW b cB w h cd wn mn kn ik so ks rs lf K) (fun _ h => h) hD hS hA
      refine z_wcalli (va_runV (As := []) (rest := [.ref (b 0)]) ⟨hx, hb, hml, hown, hts⟩ (c_X3_greatest l dC dI (H).size b cB w h cd wn mn kn ik so ks rs lf K hw hh hwn) (cwV 0 hts g_X3_59 rfl rfl rfl (by decide +kernel) ⟨Nat.le_of_ble_eq_true rfl, Nat.le_of_ble_eq_true rfl⟩) (zP_V (ci := 3) (q0 := 0) rfl rfl hP hK hD hS hFc hZ) rfl rfl hl.1 rfl (lv_room (Nat.le_of_ble_eq_true rfl)) dX3_stock_17 ⟨Nat.le_of_ble_eq_true rfl, Nat.le_of_ble_eq_true rfl⟩) hS hFc (fun H locs _ hP hD hS _ => ?_)
      have hP : va_P (dC, dI) vwCl (mdW b cB w h cd wn mn kn ik so ks rs lf K) H := hP
      have hD : va_D A (mdW b cB w h cd wn mn kn ik so ks rs lf K) := hD
      refine lv_iload_n hx hb dX3_stock_20 rfl (lv_at hl 1 rfl) ?_
      have hgr := gmF_rg (w := w) (n := h) hwn
      refine z_icmp_le (tgt := 28) hx hb dX3_stock_21 (by decide) (by omega) (by omega) (fun c21 => ?_) (fun c21 => ?_)
      · refine lv_iconst (v := iI 0) hx hb dX3_stock_28 rfl ?_
        exact z_top (b := codS (isW v 1 1000) (gmF w wn h) v) (by unfold codS; (repeat' split) <;> omega) (J29 _ _ hP hD hS)
      · refine lv_iconst (v := iI 2) hx hb dX3_stock_24 rfl ?_
        refine lv_goto (tgt := 29) hx hb dX3_stock_25 (by decide) ?_
        exact z_top (b := codS (isW v 1 1000) (gmF w wn h) v) (by unfold codS; (repeat' split) <;> omega) (J29 _ _ hP hD hS)
    · refine lv_iconst (v := iI 1) hx hb dX3_stock_12 rfl ?_
      refine lv_goto (tgt := 29) hx hb dX3_stock_13 (by decide) ?_
      exact z_top (b := codS (isW v 1 1000) (gmF w wn h) v) (by unfold codS; (repeat' split) <;> omega) (J29 _ _ hP hD hS)
