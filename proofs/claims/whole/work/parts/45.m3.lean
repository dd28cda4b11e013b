theorem g_X3_63 : GoodIn wsAll (wsV RX3 63 RX3 yX3_profileOf wsX3_profileOf) := z_good (show ∀ w ∈ (Cond.methodLink RX3 63 yX3_profileOf :: Cond.instanceMethod yX3_profileOf :: Cond.selects RX3 yX3_profileOf yX3_profileOf :: Cond.initialized RX3 :: Cond.code yX3_profileOf prog_5_method_10_code 7 (some .int) :: wsAll), w ∈ wsAll from List.forall_mem_cons.mpr ⟨wm_486, List.forall_mem_cons.mpr ⟨wm_487, List.forall_mem_cons.mpr ⟨wm_572, List.forall_mem_cons.mpr ⟨wm_114, List.forall_mem_cons.mpr ⟨wm_488, fun _ h => h⟩⟩⟩⟩⟩)
abbrev r_X3_profile : Room := { frames := 2, cells := 0, slots := 0, locals := 48 }
set_option maxHeartbeats 4000000 in
set_option maxRecDepth 100000 in
theorem c_X3_profile (l : Launch) (dC : Nat → ClassId) (dI : Nat → Nat → Nat) (sz : Nat) (b : Nat → Nat) (cB : Nat → ClassId) (w h : Nat) (cd : Int) (wn mn kn : Nat → Int) (ik so : Int) (ks rs lf : Nat → Int) (K : MK) (t dx dy : Int) (h0 : rg t) (h1 : rg dx) (h2 : rg dy) (hks : ∀ j, j < 4 → 0 ≤ ks j ∧ ks j ≤ 2) (hrs : ∀ j, j < 4 → 0 ≤ rs j ∧ rs j ≤ 5) : Met l yX3_profile wsX3_profile r_X3_profile (zP (dC, dI) vwCl (mdT cB) (mdW b cB w h cd wn mn kn ik so ks rs lf K) sz [.ref (b 0), .int (iI t), .int (iI dx), .int (iI dy)]) (zQi (dC, dI) vwCl (mdT cB) (mdW b cB w h cd wn mn kn ik so ks rs lf K) sz (True) (if cod1 (isW t 0 3) ≤ 0 then pfM (ks t.toNat) (rs t.toNat) dx dy else 0) (mdW b cB w h (cod1 (isW t 0 3)) wn mn kn ik so ks rs lf K)) 0 0 (va_A (mdW b cB w h cd wn mn kn ik so ks rs lf K) sz) := by
  refine Met.ofW (cc := cX3_profile) (maxL := 4) (ret := (some .int)) (by decide) rfl ?_
  intro p e s m args below meth c s₁ B hml hv
  obtain ⟨rfl, hsz, hP, hK, hD0, hZ⟩ := hv
  have hx := B.exec
  have hb := B.bytes
  have hr := B.returns
  have hts0 := atoms_spec (ws := wsX3_profile) B.pre
  have hts : ∀ w ∈ wsAll, w.before _ s = true := fun w h => hts0 w (List.mem_cons_of_mem _ h)
  have hown : s.vm.findClass RX3 = some m.cls := findClass_of_methodNamed B.named
  have hlocks := B.notSynchronized
  subst hsz
  have hD := hD0.self (sz := s.heap.size)
  obtain ⟨A, hAe⟩ : ∃ A, A = va_A (mdW b cB w h cd wn mn kn ik so ks rs lf K) s.heap.size := ⟨_, rfl⟩
  rw [← hAe] at hD hZ
  have hA : ∀ q : Nat, s.heap.size ≤ q → A q := fun q h => by rw [hAe]; exact Or.inr h
  have hS : va_S A s.heap s.heap [] := va_S.rf
  have hP : va_P (dC, dI) vwCl (mdW b cB w h cd wn mn kn ik so ks rs lf K) s.heap := hP
  have hl := lv_entry ([.ref (b 0), .int (iI t), .int (iI dx), .int (iI dy)]) (n := 4) (Nat.le_of_ble_eq_true rfl)
  rw [lg_entry_eq]
  generalize (lg_sl ([.ref (b 0), .int (iI t), .int (iI dx), .int (iI dy)]) ++ List.replicate (4 - (lg_sl ([.ref (b 0), .int (iI t), .int (iI dx), .int (iI dy)])).length) Slot.unset).toArray = ls at hl ⊢
  have hl : lv_has ls 4 [(0, .ref (b 0)), (1, .int (iI t)), (2, .int (iI dx)), (3, .int (iI dy))] := hl
  refine lv_aload_n hx hb dX3_profile_0 rfl (lv_at hl 0 rfl) ?_
  refine lv_iload_n hx hb dX3_profile_1 rfl (lv_at hl 1 rfl) ?_
  refine lv_iconst (v := iI 0) hx hb dX3_profile_2 rfl ?_
  refine lv_iconst (v := iI 3) hx hb dX3_profile_3 rfl ?_
  refine z_rcalli (va_runS (As := [.int (iI t), .int (iI 0), .int (iI 3)]) (rest := [.ref (b 0)]) ⟨hx, hb, hml, hown, hts⟩ (c_X3_isIn l dC dI (s.heap).size t 0 3 (by omega) (by omega) (by omega)) (va_cwS 3 hts g_X3_55 rfl rfl rfl (by decide +kernel) ⟨Nat.le_of_ble_eq_true rfl, Nat.le_of_ble_eq_true rfl⟩) (zP_S z_P0 (hK.sub [] rfl) z_D0 hS (z_free0 hS hA) hZ) rfl rfl hl.1 rfl (lv_room (Nat.le_of_ble_eq_true rfl)) dX3_profile_4 ⟨Nat.le_of_ble_eq_true rfl, Nat.le_of_ble_eq_true rfl⟩) hP hD hS (z_free0 hS hA) (fun _ h => by cases h) (fun H locs _ hP hD hS _ => ?_)
  refine z_joinH (D := (dC, dI)) (cl := vwCl) (A := A) (ws := mdW b cB w h cd wn mn kn ik so ks rs lf K) (g0 := F0 m 15 ls [.int (iI (cod1 (isW t 0 3))), .ref (b 0)]) (fun H locs hP hD hS => ?_) (fun J15 => ?_)
  · refine va_put (D := (dC, dI)) (ci := 3) (v := .int (iI (cod1 (isW t 0 3)))) (ty := .int) (C := RX3) (T := TX3) (N := 18) hx hb hts inX3 tyX3 tyX3_ok nmX3 hown hK hP hD hS 0 rfl rfl 0 (by decide) (hts _ wm_403) (fun _ h9 => h9) rfl (by decide +kernel) rfl rfl (Nat.le_of_ble_eq_true rfl) dX3_profile_15 (fun H locs hP hD hS => ?_)
    have hP : va_P (dC, dI) vwCl (mdW b cB w h (cod1 (isW t 0 3)) wn mn kn ik so ks rs lf K) H := hP
    have hD : va_D A (mdW b cB w h (cod1 (isW t 0 3)) wn mn kn ik so ks rs lf K) := hD
    refine lv_aload_n hx hb dX3_profile_18 rfl (lv_at hl 0 rfl) ?_
    refine va_get (D := (dC, dI)) (ci := 3) (v := .int (iI (cod1 (isW t 0 3)))) (C := RX3) (T := TX3) (N := 18) hx hb hts inX3 hown hK hP 0 rfl rfl 0 (by decide) (hts _ wm_403) (fun _ h9 => h9) rfl dX3_profile_19 ?_
    have hcr := cod1_rg (isW t 0 3)
    refine z_if_le (tgt := 29) hx hb dX3_profile_22 (by decide) (by omega) (fun c22 => ?_) (fun c22 => ?_)
    · have ht3 := isW_t.mp (cod1_ok c22)
      have hj : t.toNat < 4 := by omega
      have hks := hks _ hj
      have hrs := hrs _ hj
      refine lv_aload_n hx hb dX3_profile_29 rfl (lv_at hl 0 rfl) ?_
      refine lv_iload_n hx hb dX3_profile_30 rfl (lv_at hl 1 rfl) ?_
      refine lv_iload_n hx hb dX3_profile_31 rfl (lv_at hl 2 rfl) ?_
      refine lv_iload_n hx hb dX3_profile_32 rfl (lv_at hl 3 rfl) ?_
      have hFc := z_freeR (wc := mdW b cB w h (cod1 (isW t 0 3)) wn mn kn ik so ks rs lf K) (fun _ h => h) hD hS hA
      refine z_wcalli (va_runV (As := [.int (iI t), .int (iI dx), .int (iI dy)]) (rest := []) ⟨hx, hb, hml, hown, hts⟩ (c_X3_profileOf l dC dI (H).size b cB w h (cod1 (isW t 0 3)) wn mn kn ik so ks rs lf K t dx dy ht3 (by omega) (by omega) hks hrs) (cwV 3 hts g_X3_63 rfl rfl rfl (by decide +kernel) ⟨Nat.le_of_ble_eq_true rfl, Nat.le_of_ble_eq_true rfl⟩) (zP_V (ci := 3) (q0 := 0) rfl rfl hP hK hD hS hFc hZ) rfl rfl hl.1 rfl (lv_room (Nat.le_of_ble_eq_true rfl)) dX3_profile_33 ⟨Nat.le_of_ble_eq_true rfl, Nat.le_of_ble_eq_true rfl⟩) hS hFc (fun H locs _ hP hD hS _ => ?_)
      have hP : va_P (dC, dI) vwCl (mdW b cB w h (cod1 (isW t 0 3)) wn mn kn ik so ks rs lf K) H := hP
      have hD : va_D A (mdW b cB w h (cod1 (isW t 0 3)) wn mn kn ik so ks rs lf K) := hD
      subst hAe
      refine z_top (b := if cod1 (isW t 0 3) ≤ 0 then pfM (ks t.toNat) (rs t.toNat) dx dy else 0) (by first | rw [if_pos (by omega)] | rw [if_neg (by omega)]) ?_
      exact z_iret hx hb hr hlocks hP hK hD hS (trivial) dX3_profile_36
    · refine lv_iconst (v := iI 0) hx hb dX3_profile_25 rfl ?_
      refine lv_goto (tgt := 36) hx hb dX3_profile_26 (by decide) ?_
      subst hAe
      refine z_top (b := if cod1 (isW t 0 3) ≤ 0 then pfM (ks t.toNat) (rs t.toNat) dx dy else 0) (by first | rw [if_pos (by omega)] | rw [if_neg (by omega)]) ?_
      exact z_iret hx hb hr hlocks hP hK hD hS (trivial) dX3_profile_36
  · refine z_if_eq (tgt := 14) hx hb dX3_profile_7 (by decide) (isW_rg _ _ _) (fun c7 => ?_) (fun c7 => ?_)
    · refine lv_iconst (v := iI 1) hx hb dX3_profile_14 rfl ?_
      exact z_top (b := cod1 (isW t 0 3)) (by unfold cod1; (repeat' split) <;> omega) (J15 _ _ hP hD hS)
    · refine lv_iconst (v := iI 0) hx hb dX3_profile_10 rfl ?_
      refine lv_goto (tgt := 15) hx hb dX3_profile_11 (by decide) ?_
      exact z_top (b := cod1 (isW t 0 3)) (by unfold cod1; (repeat' split) <;> omega) (J15 _ _ hP hD hS)
abbrev r_X3_liftOf : Room := { frames := 2, cells := 0, slots := 0, locals := 48 }
set_option maxHeartbeats 4000000 in
set_option maxRecDepth 100000 in
theorem lp_X3_liftOf_61 {p : Program} {l : Launch} {e : Env} {s : State} {m : MethodId} {args : Array Value} {below : List Frame} {meth : Method} {c : Code} {Q : State → Prop} {A : Nat → Prop} {dC : Nat → ClassId} {dI : Nat → Nat → Nat} (b : Nat → Nat) (cB : Nat → ClassId) (w h : Nat) (cd : Int) (wn mn kn : Nat → Int) (ik so : Int) (ks rs lf : Nat → Int) (K : MK) (x y t u g : Int) (hx : p.tables.exec = Jvm.exec) (hb : c.code = cX3_liftOf) (hml : c.maxLocals = 9) (hown : s.vm.findClass RX3 = some m.cls) (hts : ∀ w ∈ wsAll, w.before args s = true) (hA : ∀ q : Nat, s.heap.size ≤ q → A q) (hZ : zZ A s s.heap) (hK : va_K (dC, dI) vwCl (mdT cB) s) (hw : 1 ≤ w ∧ w ≤ 20) (hh : 1 ≤ h ∧ h ≤ 20) (hwn : bd wn 0 1000) (hx0 : 0 ≤ x ∧ x < (w : Int)) (hy0 : 0 ≤ y ∧ y < (h : Int)) (ht3 : 0 ≤ t ∧ t ≤ 3) (hks : 0 ≤ ks t.toNat ∧ ks t.toNat ≤ 2) (hrs : 0 ≤ rs t.toNat ∧ rs t.toNat ≤ 5) (hu : 0 ≤ u ∧ u < (h : Int)) (hg : -1 ≤ g ∧ g ≤ 1000) (kk : ∀ (H : Heap) (locs : List Loc) (ls : Array Slot), va_P (dC, dI) vwCl (mdW b cB w h cd wn mn kn ik so ks rs lf K) H → va_D A (mdW b cB w h cd wn mn kn ik so ks rs lf K) → va_S A s.heap H locs → lv_has ls 9 [(0, .ref (b 0)), (1, .int (iI x)), (2, .int (iI y)), (3, .int (iI t)), (4, .int (iI (lmR wn (ks t.toNat) (rs t.toNat) x y u (nB w (rs t.toNat) x) g))), (5, .int (iI (rs t.toNat))), (6, .int (iI u)), (7, .int (iI (loB (rs t.toNat) x + ((nB w (rs t.toNat) x : Nat) : Int))))] → W p l e r_X3_liftOf s m args below meth c H locs 0 0 Q (F0 m 149 ls [])) : ∀ (n i : Nat), i + n = nB w (rs t.toNat) x → ∀ (H : Heap) (locs : List Loc) (ls : Array Slot), va_P (dC, dI) vwCl (mdW b cB w h cd wn mn kn ik so ks rs lf K) H → va_D A (mdW b cB w h cd wn mn kn ik so ks rs lf K) → va_S A s.heap H locs → lv_has ls 9 [(0, .ref (b 0)), (1, .int (iI x)), (2, .int (iI y)), (3, .int (iI t)), (4, .int (iI (lmR wn (ks t.toNat) (rs t.toNat) x y u i g))), (5, .int (iI (rs t.toNat))), (6, .int (iI u)), (7, .int (iI (loB (rs t.toNat) x + ((i : Nat) : Int))))] → W p l e r_X3_liftOf s m args below meth c H locs 0 0 Q (F0 m 61 ls []) := by
  intro n
  induction n with
  | zero =>
    intro i hi H locs ls hP hD hS hl
    have hi9 : nB w (rs t.toNat) x = i := by omega
    subst hi9
    have hB := B_out (n := w) (r := rs t.toNat) (x := x) hx0.1 hx0.2 hrs.1
    have hmi : hiB w (rs t.toNat) x = min ((w : Int) - 1) (x + rs t.toNat) := rfl
    refine lv_iload hx hb dX3_liftOf_61 (lv_at hl 7 rfl) ?_
    refine lv_aload_n hx hb dX3_liftOf_63 rfl (lv_at hl 0 rfl) ?_
    refine va_get (D := (dC, dI)) (ci := 3) (v := .int (iI (w : Int))) (C := RX3) (T := TX3) (N := 18) hx hb hts inX3 hown hK hP 0 rfl rfl 1 (by decide) (hts _ wm_404) (fun _ h9 => h9) rfl dX3_liftOf_64 ?_
    refine z_icmp_ge (tgt := 149) hx hb dX3_liftOf_67 (by decide) (by omega) (by omega) (fun c67 => ?_) (fun c67 => ?_)
    · exact kk _ _ _ hP hD hS (lv_sub hl [0, 1, 2, 3, 4, 5, 6, 7] rfl)
    · refine lv_iload hx hb dX3_liftOf_70 (lv_at hl 7 rfl) ?_
      refine lv_iload_n hx hb dX3_liftOf_72 rfl (lv_at hl 1 rfl) ?_
      refine lv_iload hx hb dX3_liftOf_73 (lv_at hl 5 rfl) ?_
      refine z_add hx hb dX3_liftOf_75 ?_
      refine z_icmp_gt (tgt := 149) hx hb dX3_liftOf_76 (by decide) (by omega) (by omega) (fun c76 => ?_) (fun c76 => by exfalso; omega)
      exact kk _ _ _ hP hD hS (lv_sub hl [0, 1, 2, 3, 4, 5, 6, 7] rfl)
  | succ n ih =>
    intro i hi H locs ls hP hD hS hl
    have hB := B_in (n := w) (i := i) (r := rs t.toNat) (x := x) (by omega) hx0.1 hx0.2 hrs.1
    refine lv_iload hx hb dX3_liftOf_61 (lv_at hl 7 rfl) ?_
    refine lv_aload_n hx hb dX3_liftOf_63 rfl (lv_at hl 0 rfl) ?_
    refine va_get (D := (dC, dI)) (ci := 3) (v := .int (iI (w : Int))) (C := RX3) (T := TX3) (N := 18) hx hb hts inX3 hown hK hP 0 rfl rfl 1 (by decide) (hts _ wm_404) (fun _ h9 => h9) rfl dX3_liftOf_64 ?_
    refine z_icmp_ge (tgt := 149) hx hb dX3_liftOf_67 (by decide) (by omega) (by omega) (fun c67 => by exfalso; omega) (fun c67 => ?_)
    refine lv_iload hx hb dX3_liftOf_70 (lv_at hl 7 rfl) ?_
    refine lv_iload_n hx hb dX3_liftOf_72 rfl (lv_at hl 1 rfl) ?_
    refine lv_iload hx hb dX3_liftOf_73 (lv_at hl 5 rfl) ?_
    refine z_add hx hb dX3_liftOf_75 ?_
    refine z_icmp_gt (tgt := 149) hx hb dX3_liftOf_76 (by decide) (by omega) (by omega) (fun c76 => by exfalso; omega) (fun c76 => ?_)
    refine lv_aload_n hx hb dX3_liftOf_79 rfl (lv_at hl 0 rfl) ?_
    refine lv_iload_n hx hb dX3_liftOf_80 rfl (lv_at hl 3 rfl) ?_
    refine lv_iload hx hb dX3_liftOf_81 (lv_at hl 7 rfl) ?_
    refine lv_iload_n hx hb dX3_liftOf_83 rfl (lv_at hl 1 rfl) ?_
    refine z_sub hx hb dX3_liftOf_84 ?_
    refine lv_iload hx hb dX3_liftOf_85 (lv_at hl 6 rfl) ?_
    refine lv_iload_n hx hb dX3_liftOf_87 rfl (lv_at hl 2 rfl) ?_
    refine z_sub hx hb dX3_liftOf_88 ?_
    have hpv := pfM_rg (kd := ks t.toNat) (r := rs t.toNat) (dx := loB (rs t.toNat) x + ((i : Nat) : Int) - x) (dy := u - y) hrs.1 hrs.2
    have hgr := lmR_rg (kd := ks t.toNat) (r := rs t.toNat) (x := x) (y := y) (py := u) (n := i) hwn hg
    have hwb := hwn (20 * u + (loB (rs t.toNat) x + ((i : Nat) : Int))).toNat
    have hix := z_i20 (w := w) (h := h) hw.2 hh.2 (x := loB (rs t.toNat) x + ((i : Nat) : Int)) (y := u) hB.1 (by omega) hu.1 hu.2
    have hFc := z_freeR (wc := mdW b cB w h cd wn mn kn ik so ks rs lf K) (fun _ h => h) hD hS hA
    refine z_wcalli (va_runV (As := [.int (iI t), .int (iI ((loB (rs t.toNat) x + ((i : Nat) : Int)) - x)), .int (iI (u - y))]) (rest := []) ⟨hx, hb, hml, hown, hts⟩ (c_X3_profileOf l dC dI (H).size b cB w h cd wn mn kn ik so ks rs lf K t ((loB (rs t.toNat) x + ((i : Nat) : Int)) - x) (u - y) ht3 (by omega) (by omega) hks hrs) (cwV 3 hts g_X3_63 rfl rfl rfl (by decide +kernel) ⟨Nat.le_of_ble_eq_true rfl, Nat.le_of_ble_eq_true rfl⟩) (zP_V (ci := 3) (q0 := 0) rfl rfl hP hK hD hS hFc hZ) rfl rfl hl.1 rfl (lv_room (Nat.le_of_ble_eq_true rfl)) dX3_liftOf_89 ⟨Nat.le_of_ble_eq_true rfl, Nat.le_of_ble_eq_true rfl⟩) hS hFc (fun H locs _ hP hD hS _ => ?_)
    have hP : va_P (dC, dI) vwCl (mdW b cB w h cd wn mn kn ik so ks rs lf K) H := hP
    have hD : va_D A (mdW b cB w h cd wn mn kn ik so ks rs lf K) := hD
    refine lv_istore (lv' := [(8, .int (iI (pfM (ks t.toNat) (rs t.toNat) ((loB (rs t.toNat) x + ((i : Nat) : Int)) - x) (u - y)))), (0, .ref (b 0)), (1, .int (iI x)), (2, .int (iI y)), (3, .int (iI t)), (4, .int (iI (lmR wn (ks t.toNat) (rs t.toNat) x y u i g))), (5, .int (iI (rs t.toNat))), (6, .int (iI u)), (7, .int (iI (loB (rs t.toNat) x + ((i : Nat) : Int))))]) hx hb dX3_liftOf_92 hl (by decide) rfl (fun ls hl => ?_)
    refine lv_iload hx hb dX3_liftOf_94 (lv_at hl 0 rfl) ?_
    refine z_if_lt (tgt := 139) hx hb dX3_liftOf_96 (by decide) (by omega) (fun c96 => ?_) (fun c96 => ?_)
    · refine lv_iload hx hb dX3_liftOf_139 (lv_at hl 5 rfl) ?_
      refine lv_istore (lv' := [(4, .int (iI (lmR wn (ks t.toNat) (rs t.toNat) x y u i g))), (8, .int (iI (pfM (ks t.toNat) (rs t.toNat) ((loB (rs t.toNat) x + ((i : Nat) : Int)) - x) (u - y)))), (0, .ref (b 0)), (1, .int (iI x)), (2, .int (iI y)), (3, .int (iI t)), (5, .int (iI (rs t.toNat))), (6, .int (iI u)), (7, .int (iI (loB (rs t.toNat) x + ((i : Nat) : Int))))]) hx hb dX3_liftOf_141 hl (by decide) rfl (fun ls hl => ?_)
      refine lv_iinc (v := iI (loB (rs t.toNat) x + (((i + 1) : Nat) : Int))) (lv' := [(7, .int (iI (loB (rs t.toNat) x + (((i + 1) : Nat) : Int)))), (4, .int (iI (lmR wn (ks t.toNat) (rs t.toNat) x y u i g))), (8, .int (iI (pfM (ks t.toNat) (rs t.toNat) ((loB (rs t.toNat) x + ((i : Nat) : Int)) - x) (u - y)))), (0, .ref (b 0)), (1, .int (iI x)), (2, .int (iI y)), (3, .int (iI t)), (5, .int (iI (rs t.toNat))), (6, .int (iI u))]) hx hb dX3_liftOf_143 hl (k := 8) rfl ((iI_add _ _).trans (congrArg iI (by omega))) (by decide) rfl (fun ls hl => ?_)
      refine lv_goto (tgt := 61) hx hb dX3_liftOf_146 (by decide) ?_
      have eg : lmR wn (ks t.toNat) (rs t.toNat) x y u (i + 1) g = lmR wn (ks t.toNat) (rs t.toNat) x y u i g := by
        show lmS wn (ks t.toNat) (rs t.toNat) x y (loB (rs t.toNat) x + ((i : Nat) : Int)) u (lmR wn (ks t.toNat) (rs t.toNat) x y u i g) = _
        unfold lmS
        split <;> first | rfl | (exfalso; omega)
      exact ih (i + 1) (by omega) _ _ _ hP hD hS (by rw [eg]; exact lv_sub hl [3, 4, 5, 6, 1, 7, 8, 0] rfl)
    · refine lv_aload_n hx hb dX3_liftOf_99 rfl (lv_at hl 1 rfl) ?_
      refine va_get (D := (dC, dI)) (ci := 3) (v := .ref (b 1)) (C := RX3) (T := TX3) (N := 18) hx hb hts inX3 hown hK hP 0 rfl rfl 3 (by decide) (hts _ wm_406) (fun _ h9 => h9) rfl dX3_liftOf_100 ?_
      refine lv_bipush (v := iI 20) hx hb dX3_liftOf_103 (by decide) ?_
      refine lv_iload hx hb dX3_liftOf_105 (lv_at hl 7 rfl) ?_
      refine z_mul hx hb dX3_liftOf_107 ?_
      refine lv_iload hx hb dX3_liftOf_108 (lv_at hl 8 rfl) ?_
      refine z_add hx hb dX3_liftOf_110 ?_
      refine z_iald (f := wn) (i := (20 * u) + (loB (rs t.toNat) x + ((i : Nat) : Int))) hx hb hK hP 1 0 rfl rfl (hix) (by decide) dX3_liftOf_111 ?_
      refine lv_iload hx hb dX3_liftOf_112 (lv_at hl 0 rfl) ?_
      refine z_sub hx hb dX3_liftOf_114 ?_
      refine lv_iload hx hb dX3_liftOf_115 (lv_at hl 5 rfl) ?_
      refine z_icmp_le (tgt := 139) hx hb dX3_liftOf_117 (by decide) (by omega) (by omega) (fun c117 => ?_) (fun c117 => ?_)
      · refine lv_iload hx hb dX3_liftOf_139 (lv_at hl 5 rfl) ?_
        refine lv_istore (lv' := [(4, .int (iI (lmR wn (ks t.toNat) (rs t.toNat) x y u i g))), (8, .int (iI (pfM (ks t.toNat) (rs t.toNat) ((loB (rs t.toNat) x + ((i : Nat) : Int)) - x) (u - y)))), (0, .ref (b 0)), (1, .int (iI x)), (2, .int (iI y)), (3, .int (iI t)), (5, .int (iI (rs t.toNat))), (6, .int (iI u)), (7, .int (iI (loB (rs t.toNat) x + ((i : Nat) : Int))))]) hx hb dX3_liftOf_141 hl (by decide) rfl (fun ls hl => ?_)
        refine lv_iinc (v := iI (loB (rs t.toNat) x + (((i + 1) : Nat) : Int))) (lv' := [(7, .int (iI (loB (rs t.toNat) x + (((i + 1) : Nat) : Int)))), (4, .int (iI (lmR wn (ks t.toNat) (rs t.toNat) x y u i g))), (8, .int (iI (pfM (ks t.toNat) (rs t.toNat) ((loB (rs t.toNat) x + ((i : Nat) : Int)) - x) (u - y)))), (0, .ref (b 0)), (1, .int (iI x)), (2, .int (iI y)), (3, .int (iI t)), (5, .int (iI (rs t.toNat))), (6, .int (iI u))]) hx hb dX3_liftOf_143 hl (k := 8) rfl ((iI_add _ _).trans (congrArg iI (by omega))) (by decide) rfl (fun ls hl => ?_)
        refine lv_goto (tgt := 61) hx hb dX3_liftOf_146 (by decide) ?_
        have eg : lmR wn (ks t.toNat) (rs t.toNat) x y u (i + 1) g = lmR wn (ks t.toNat) (rs t.toNat) x y u i g := by
          show lmS wn (ks t.toNat) (rs t.toNat) x y (loB (rs t.toNat) x + ((i : Nat) : Int)) u (lmR wn (ks t.toNat) (rs t.toNat) x y u i g) = _
          unfold lmS
          split <;> first | rfl | (exfalso; omega)
        exact ih (i + 1) (by omega) _ _ _ hP hD hS (by rw [eg]; exact lv_sub hl [3, 4, 5, 6, 1, 7, 8, 0] rfl)
      · refine lv_aload_n hx hb dX3_liftOf_120 rfl (lv_at hl 1 rfl) ?_
        refine va_get (D := (dC, dI)) (ci := 3) (v := .ref (b 1)) (C := RX3) (T := TX3) (N := 18) hx hb hts inX3 hown hK hP 0 rfl rfl 3 (by decide) (hts _ wm_406) (fun _ h9 => h9) rfl dX3_liftOf_121 ?_
        refine lv_bipush (v := iI 20) hx hb dX3_liftOf_124 (by decide) ?_
        refine lv_iload hx hb dX3_liftOf_126 (lv_at hl 7 rfl) ?_
        refine z_mul hx hb dX3_liftOf_128 ?_
        refine lv_iload hx hb dX3_liftOf_129 (lv_at hl 8 rfl) ?_
        refine z_add hx hb dX3_liftOf_131 ?_
        refine z_iald (f := wn) (i := (20 * u) + (loB (rs t.toNat) x + ((i : Nat) : Int))) hx hb hK hP 1 0 rfl rfl (hix) (by decide) dX3_liftOf_132 ?_
        refine lv_iload hx hb dX3_liftOf_133 (lv_at hl 0 rfl) ?_
        refine z_sub hx hb dX3_liftOf_135 ?_
        refine lv_goto (tgt := 141) hx hb dX3_liftOf_136 (by decide) ?_
        refine lv_istore (lv' := [(4, .int (iI ((wn ((20 * u) + (loB (rs t.toNat) x + ((i : Nat) : Int))).toNat) - (pfM (ks t.toNat) (rs t.toNat) ((loB (rs t.toNat) x + ((i : Nat) : Int)) - x) (u - y))))), (8, .int (iI (pfM (ks t.toNat) (rs t.toNat) ((loB (rs t.toNat) x + ((i : Nat) : Int)) - x) (u - y)))), (0, .ref (b 0)), (1, .int (iI x)), (2, .int (iI y)), (3, .int (iI t)), (5, .int (iI (rs t.toNat))), (6, .int (iI u)), (7, .int (iI (loB (rs t.toNat) x + ((i : Nat) : Int))))]) hx hb dX3_liftOf_141 hl (by decide) rfl (fun ls hl => ?_)
        refine lv_iinc (v := iI (loB (rs t.toNat) x + (((i + 1) : Nat) : Int))) (lv' := [(7, .int (iI (loB (rs t.toNat) x + (((i + 1) : Nat) : Int)))), (4, .int (iI ((wn ((20 * u) + (loB (rs t.toNat) x + ((i : Nat) : Int))).toNat) - (pfM (ks t.toNat) (rs t.toNat) ((loB (rs t.toNat) x + ((i : Nat) : Int)) - x) (u - y))))), (8, .int (iI (pfM (ks t.toNat) (rs t.toNat) ((loB (rs t.toNat) x + ((i : Nat) : Int)) - x) (u - y)))), (0, .ref (b 0)), (1, .int (iI x)), (2, .int (iI y)), (3, .int (iI t)), (5, .int (iI (rs t.toNat))), (6, .int (iI u))]) hx hb dX3_liftOf_143 hl (k := 8) rfl ((iI_add _ _).trans (congrArg iI (by omega))) (by decide) rfl (fun ls hl => ?_)
        refine lv_goto (tgt := 61) hx hb dX3_liftOf_146 (by decide) ?_
        have eg : lmR wn (ks t.toNat) (rs t.toNat) x y u (i + 1) g = (wn ((20 * u) + (loB (rs t.toNat) x + ((i : Nat) : Int))).toNat) - (pfM (ks t.toNat) (rs t.toNat) ((loB (rs t.toNat) x + ((i : Nat) : Int)) - x) (u - y)) := by
          show lmS wn (ks t.toNat) (rs t.toNat) x y (loB (rs t.toNat) x + ((i : Nat) : Int)) u (lmR wn (ks t.toNat) (rs t.toNat) x y u i g) = _
          unfold lmS
          split <;> first | rfl | (exfalso; omega)
        exact ih (i + 1) (by omega) _ _ _ hP hD hS (by rw [eg]; exact lv_sub hl [3, 4, 5, 6, 1, 7, 8, 0] rfl)
set_option maxHeartbeats 4000000 in
set_option maxRecDepth 100000 in
theorem lp_X3_liftOf_27 {p : Program} {l : Launch} {e : Env} {s : State} {m : MethodId} {args : Array Value} {below : List Frame} {meth : Method} {c : Code} {Q : State → Prop} {A : Nat → Prop} {dC : Nat → ClassId} {dI : Nat → Nat → Nat} (b : Nat → Nat) (cB : Nat → ClassId) (w h : Nat) (cd : Int) (wn mn kn : Nat → Int) (ik so : Int) (ks rs lf : Nat → Int) (K : MK) (x y t : Int) (hx : p.tables.exec = Jvm.exec) (hb : c.code = cX3_liftOf) (hml : c.maxLocals = 9) (hown : s.vm.findClass RX3 = some m.cls) (hts : ∀ w ∈ wsAll, w.before args s = true) (hA : ∀ q : Nat, s.heap.size ≤ q → A q) (hZ : zZ A s s.heap) (hK : va_K (dC, dI) vwCl (mdT cB) s) (hw : 1 ≤ w ∧ w ≤ 20) (hh : 1 ≤ h ∧ h ≤ 20) (hwn : bd wn 0 1000) (hx0 : 0 ≤ x ∧ x < (w : Int)) (hy0 : 0 ≤ y ∧ y < (h : Int)) (ht3 : 0 ≤ t ∧ t ≤ 3) (hks : 0 ≤ ks t.toNat ∧ ks t.toNat ≤ 2) (hrs : 0 ≤ rs t.toNat ∧ rs t.toNat ≤ 5) (kk : ∀ (H : Heap) (locs : List Loc) (ls : Array Slot), va_P (dC, dI) vwCl (mdW b cB w h cd wn mn kn ik so ks rs lf K) H → va_D A (mdW b cB w h cd wn mn kn ik so ks rs lf K) → va_S A s.heap H locs → lv_has ls 9 [(0, .ref (b 0)), (1, .int (iI x)), (2, .int (iI y)), (3, .int (iI t)), (4, .int (iI (lmF w wn (ks t.toNat) (rs t.toNat) x y (nB h (rs t.toNat) y)))), (5, .int (iI (rs t.toNat))), (6, .int (iI (loB (rs t.toNat) y + ((nB h (rs t.toNat) y : Nat) : Int))))] → W p l e r_X3_liftOf s m args below meth c H locs 0 0 Q (F0 m 155 ls [])) : ∀ (n i : Nat), i + n = nB h (rs t.toNat) y → ∀ (H : Heap) (locs : List Loc) (ls : Array Slot), va_P (dC, dI) vwCl (mdW b cB w h cd wn mn kn ik so ks rs lf K) H → va_D A (mdW b cB w h cd wn mn kn ik so ks rs lf K) → va_S A s.heap H locs → lv_has ls 9 [(0, .ref (b 0)), (1, .int (iI x)), (2, .int (iI y)), (3, .int (iI t)), (4, .int (iI (lmF w wn (ks t.toNat) (rs t.toNat) x y i))), (5, .int (iI (rs t.toNat))), (6, .int (iI (loB (rs t.toNat) y + ((i : Nat) : Int))))] → W p l e r_X3_liftOf s m args below meth c H locs 0 0 Q (F0 m 27 ls []) := by
  intro n
  induction n with
  | zero =>
    intro i hi H locs ls hP hD hS hl
    have hi9 : nB h (rs t.toNat) y = i := by omega
    subst hi9
    have hB := B_out (n := h) (r := rs t.toNat) (x := y) hy0.1 hy0.2 hrs.1
    have hmi : hiB h (rs t.toNat) y = min ((h : Int) - 1) (y + rs t.toNat) := rfl
    refine lv_iload hx hb dX3_liftOf_27 (lv_at hl 6 rfl) ?_
    refine lv_aload_n hx hb dX3_liftOf_29 rfl (lv_at hl 0 rfl) ?_
    refine va_get (D := (dC, dI)) (ci := 3) (v := .int (iI (h : Int))) (C := RX3) (T := TX3) (N := 18) hx hb hts inX3 hown hK hP 0 rfl rfl 2 (by decide) (hts _ wm_405) (fun _ h9 => h9) rfl dX3_liftOf_30 ?_
    refine z_icmp_ge (tgt := 155) hx hb dX3_liftOf_33 (by decide) (by omega) (by omega) (fun c33 => ?_) (fun c33 => ?_)
    · exact kk _ _ _ hP hD hS (lv_sub hl [0, 1, 2, 3, 4, 5, 6] rfl)
    · refine lv_iload hx hb dX3_liftOf_36 (lv_at hl 6 rfl) ?_
      refine lv_iload_n hx hb dX3_liftOf_38 rfl (lv_at hl 2 rfl) ?_
      refine lv_iload hx hb dX3_liftOf_39 (lv_at hl 5 rfl) ?_
      refine z_add hx hb dX3_liftOf_41 ?_
      refine z_icmp_gt (tgt := 155) hx hb dX3_liftOf_42 (by decide) (by omega) (by omega) (fun c42 => ?_) (fun c42 => by exfalso; omega)
      exact kk _ _ _ hP hD hS (lv_sub hl [0, 1, 2, 3, 4, 5, 6] rfl)
  | succ n ih =>
    intro i hi H locs ls hP hD hS hl
    have hB := B_in (n := h) (i := i) (r := rs t.toNat) (x := y) (by omega) hy0.1 hy0.2 hrs.1
    refine lv_iload hx hb dX3_liftOf_27 (lv_at hl 6 rfl) ?_
    refine lv_aload_n hx hb dX3_liftOf_29 rfl (lv_at hl 0 rfl) ?_
    refine va_get (D := (dC, dI)) (ci := 3) (v := .int (iI (h : Int))) (C := RX3) (T := TX3) (N := 18) hx hb hts inX3 hown hK hP 0 rfl rfl 2 (by decide) (hts _ wm_405) (fun _ h9 => h9) rfl dX3_liftOf_30 ?_
    refine z_icmp_ge (tgt := 155) hx hb dX3_liftOf_33 (by decide) (by omega) (by omega) (fun c33 => by exfalso; omega) (fun c33 => ?_)
    refine lv_iload hx hb dX3_liftOf_36 (lv_at hl 6 rfl) ?_
    refine lv_iload_n hx hb dX3_liftOf_38 rfl (lv_at hl 2 rfl) ?_
    refine lv_iload hx hb dX3_liftOf_39 (lv_at hl 5 rfl) ?_
    refine z_add hx hb dX3_liftOf_41 ?_
    refine z_icmp_gt (tgt := 155) hx hb dX3_liftOf_42 (by decide) (by omega) (by omega) (fun c42 => by exfalso; omega) (fun c42 => ?_)
    refine lv_iload_n hx hb dX3_liftOf_45 rfl (lv_at hl 1 rfl) ?_
    refine lv_iload hx hb dX3_liftOf_46 (lv_at hl 5 rfl) ?_
    refine z_joinH (D := (dC, dI)) (cl := vwCl) (A := A) (ws := mdW b cB w h cd wn mn kn ik so ks rs lf K) (g0 := F0 m 59 ls [.int (iI (loB (rs t.toNat) x + ((0 : Nat) : Int)))]) (fun H locs hP hD hS => ?_) (fun J59 => ?_)
    · refine lv_istore (lv' := [(7, .int (iI (loB (rs t.toNat) x + ((0 : Nat) : Int)))), (0, .ref (b 0)), (1, .int (iI x)), (2, .int (iI y)), (3, .int (iI t)), (4, .int (iI (lmF w wn (ks t.toNat) (rs t.toNat) x y i))), (5, .int (iI (rs t.toNat))), (6, .int (iI (loB (rs t.toNat) y + ((i : Nat) : Int))))]) hx hb dX3_liftOf_59 hl (by decide) rfl (fun ls hl => ?_)
      refine lp_X3_liftOf_61 b cB w h cd wn mn kn ik so ks rs lf K x y t (loB (rs t.toNat) y + ((i : Nat) : Int)) (lmF w wn (ks t.toNat) (rs t.toNat) x y i) hx hb hml hown hts hA hZ hK (hw) (hh) (hwn) (hx0) (hy0) (ht3) (hks) (hrs) (⟨hB.1, by omega⟩) (lmF_rg hwn) (fun H locs ls hP hD hS hl => ?_)  (nB w (rs t.toNat) x) 0 (by omega) _ _ _ hP hD hS (lv_sub hl [1, 2, 3, 4, 5, 6, 7, 0] rfl)
      have hP : va_P (dC, dI) vwCl (mdW b cB w h cd wn mn kn ik so ks rs lf K) H := hP
      have hD : va_D A (mdW b cB w h cd wn mn kn ik so ks rs lf K) := hD
      have hl : lv_has ls 9 [(0, .ref (b 0)), (1, .int (iI x)), (2, .int (iI y)), (3, .int (iI t)), (4, .int (iI (lmR wn (ks t.toNat) (rs t.toNat) x y (loB (rs t.toNat) y + ((i : Nat) : Int)) (nB w (rs t.toNat) x) (lmF w wn (ks t.toNat) (rs t.toNat) x y i)))), (5, .int (iI (rs t.toNat))), (6, .int (iI (loB (rs t.toNat) y + ((i : Nat) : Int)))), (7, .int (iI (loB (rs t.toNat) x + ((nB w (rs t.toNat) x : Nat) : Int))))] := hl
      refine lv_iinc (v := iI (loB (rs t.toNat) y + (((i + 1) : Nat) : Int))) (lv' := [(6, .int (iI (loB (rs t.toNat) y + (((i + 1) : Nat) : Int)))), (0, .ref (b 0)), (1, .int (iI x)), (2, .int (iI y)), (3, .int (iI t)), (4, .int (iI (lmR wn (ks t.toNat) (rs t.toNat) x y (loB (rs t.toNat) y + ((i : Nat) : Int)) (nB w (rs t.toNat) x) (lmF w wn (ks t.toNat) (rs t.toNat) x y i)))), (5, .int (iI (rs t.toNat))), (7, .int (iI (loB (rs t.toNat) x + ((nB w (rs t.toNat) x : Nat) : Int))))]) hx hb dX3_liftOf_149 hl (k := 6) rfl ((iI_add _ _).trans (congrArg iI (by omega))) (by decide) rfl (fun ls hl => ?_)
      refine lv_goto (tgt := 27) hx hb dX3_liftOf_152 (by decide) ?_
      exact ih (i + 1) (by omega) _ _ _ hP hD hS (lv_sub hl [1, 2, 3, 4, 5, 6, 0] rfl)
    · refine z_icmp_ge (tgt := 55) hx hb dX3_liftOf_48 (by decide) (by omega) (by omega) (fun c48 => ?_) (fun c48 => ?_)
      · refine lv_iload_n hx hb dX3_liftOf_55 rfl (lv_at hl 1 rfl) ?_
        refine lv_iload hx hb dX3_liftOf_56 (lv_at hl 5 rfl) ?_
        refine z_sub hx hb dX3_liftOf_58 ?_
        exact z_top (b := loB (rs t.toNat) x + ((0 : Nat) : Int)) (by unfold loB; omega) (J59 _ _ hP hD hS)
      · refine lv_iconst (v := iI 0) hx hb dX3_liftOf_51 rfl ?_
        refine lv_goto (tgt := 59) hx hb dX3_liftOf_52 (by decide) ?_
        exact z_top (b := loB (rs t.toNat) x + ((0 : Nat) : Int)) (by unfold loB; omega) (J59 _ _ hP hD hS)
set_option maxHeartbeats 4000000 in
set_option maxRecDepth 100000 in
theorem c_X3_liftOf (l : Launch) (dC : Nat → ClassId) (dI : Nat → Nat → Nat) (sz : Nat) (b : Nat → Nat) (cB : Nat → ClassId) (w h : Nat) (cd : Int) (wn mn kn : Nat → Int) (ik so : Int) (ks rs lf : Nat → Int) (K : MK) (x y t : Int) (hw : 1 ≤ w ∧ w ≤ 20) (hh : 1 ≤ h ∧ h ≤ 20) (hwn : bd wn 0 1000) (hx0 : 0 ≤ x ∧ x < (w : Int)) (hy0 : 0 ≤ y ∧ y < (h : Int)) (ht3 : 0 ≤ t ∧ t ≤ 3) (hks : 0 ≤ ks t.toNat ∧ ks t.toNat ≤ 2) (hrs : 0 ≤ rs t.toNat ∧ rs t.toNat ≤ 5) : Met l yX3_liftOf wsX3_liftOf r_X3_liftOf (zP (dC, dI) vwCl (mdT cB) (mdW b cB w h cd wn mn kn ik so ks rs lf K) sz [.ref (b 0), .int (iI x), .int (iI y), .int (iI t)]) (zQi (dC, dI) vwCl (mdT cB) (mdW b cB w h cd wn mn kn ik so ks rs lf K) sz (True) (lmF w wn (ks t.toNat) (rs t.toNat) x y (nB h (rs t.toNat) y)) (mdW b cB w h cd wn mn kn ik so ks rs lf K)) 0 0 (va_A (mdW b cB w h cd wn mn kn ik so ks rs lf K) sz) := by
  refine Met.ofW (cc := cX3_liftOf) (maxL := 9) (ret := (some .int)) (by decide) rfl ?_
  intro p e s m args below meth c s₁ B hml hv
  obtain ⟨rfl, hsz, hP, hK, hD0, hZ⟩ := hv
  have hx := B.exec
  have hb := B.bytes
  have hr := B.returns
  have hts0 := atoms_spec (ws := wsX3_liftOf) B.pre
  have hts : ∀ w ∈ wsAll, w.before _ s = true := fun w h => hts0 w (List.mem_cons_of_mem _ h)
  have hown : s.vm.findClass RX3 = some m.cls := findClass_of_methodNamed B.named
  have hlocks := B.notSynchronized
  subst hsz
  have hD := hD0.self (sz := s.heap.size)
  obtain ⟨A, hAe⟩ : ∃ A, A = va_A (mdW b cB w h cd wn mn kn ik so ks rs lf K) s.heap.size := ⟨_, rfl⟩
  rw [← hAe] at hD hZ
  have hA : ∀ q : Nat, s.heap.size ≤ q → A q := fun q h => by rw [hAe]; exact Or.inr h
  have hS : va_S A s.heap s.heap [] := va_S.rf
  have hP : va_P (dC, dI) vwCl (mdW b cB w h cd wn mn kn ik so ks rs lf K) s.heap := hP
  have hl := lv_entry ([.ref (b 0), .int (iI x), .int (iI y), .int (iI t)]) (n := 9) (Nat.le_of_ble_eq_true rfl)
  rw [lg_entry_eq]
  generalize (lg_sl ([.ref (b 0), .int (iI x), .int (iI y), .int (iI t)]) ++ List.replicate (9 - (lg_sl ([.ref (b 0), .int (iI x), .int (iI y), .int (iI t)])).length) Slot.unset).toArray = ls at hl ⊢
  have hl : lv_has ls 9 [(0, .ref (b 0)), (1, .int (iI x)), (2, .int (iI y)), (3, .int (iI t))] := hl
  refine lv_iconst (v := iI (-1)) hx hb dX3_liftOf_0 rfl ?_
  refine lv_istore (lv' := [(4, .int (iI (-1))), (0, .ref (b 0)), (1, .int (iI x)), (2, .int (iI y)), (3, .int (iI t))]) hx hb dX3_liftOf_1 hl (by decide) rfl (fun ls hl => ?_)
  refine lv_aload_n hx hb dX3_liftOf_3 rfl (lv_at hl 1 rfl) ?_
  refine va_get (D := (dC, dI)) (ci := 3) (v := .ref (b 5)) (C := RX3) (T := TX3) (N := 18) hx hb hts inX3 hown hK hP 0 rfl rfl 9 (by decide) (hts _ wm_412) (fun _ h9 => h9) rfl dX3_liftOf_4 ?_
  refine lv_iload_n hx hb dX3_liftOf_7 rfl (lv_at hl 4 rfl) ?_
  refine z_iald (f := rs) (i := t) hx hb hK hP 5 4 rfl rfl (by omega) (by decide) dX3_liftOf_8 ?_
  refine lv_istore (lv' := [(5, .int (iI (rs (t).toNat))), (4, .int (iI (-1))), (0, .ref (b 0)), (1, .int (iI x)), (2, .int (iI y)), (3, .int (iI t))]) hx hb dX3_liftOf_9 hl (by decide) rfl (fun ls hl => ?_)
  refine lv_iload_n hx hb dX3_liftOf_11 rfl (lv_at hl 4 rfl) ?_
  refine lv_iload hx hb dX3_liftOf_12 (lv_at hl 0 rfl) ?_
  refine z_joinH (D := (dC, dI)) (cl := vwCl) (A := A) (ws := mdW b cB w h cd wn mn kn ik so ks rs lf K) (g0 := F0 m 25 ls [.int (iI (loB (rs t.toNat) y + ((0 : Nat) : Int)))]) (fun H locs hP hD hS => ?_) (fun J25 => ?_)
  · refine lv_istore (lv' := [(6, .int (iI (loB (rs t.toNat) y + ((0 : Nat) : Int)))), (5, .int (iI (rs (t).toNat))), (4, .int (iI (-1))), (0, .ref (b 0)), (1, .int (iI x)), (2, .int (iI y)), (3, .int (iI t))]) hx hb dX3_liftOf_25 hl (by decide) rfl (fun ls hl => ?_)
    refine lp_X3_liftOf_27 b cB w h cd wn mn kn ik so ks rs lf K x y t hx hb hml hown hts hA hZ hK (hw) (hh) (hwn) (hx0) (hy0) (ht3) (hks) (hrs) (fun H locs ls hP hD hS hl => ?_)  (nB h (rs t.toNat) y) 0 (by omega) _ _ _ hP hD hS (lv_sub hl [3, 4, 5, 6, 2, 1, 0] rfl)
    have hP : va_P (dC, dI) vwCl (mdW b cB w h cd wn mn kn ik so ks rs lf K) H := hP
    have hD : va_D A (mdW b cB w h cd wn mn kn ik so ks rs lf K) := hD
    have hl : lv_has ls 9 [(0, .ref (b 0)), (1, .int (iI x)), (2, .int (iI y)), (3, .int (iI t)), (4, .int (iI (lmF w wn (ks t.toNat) (rs t.toNat) x y (nB h (rs t.toNat) y)))), (5, .int (iI (rs t.toNat))), (6, .int (iI (loB (rs t.toNat) y + ((nB h (rs t.toNat) y : Nat) : Int))))] := hl
    refine lv_iload hx hb dX3_liftOf_155 (lv_at hl 4 rfl) ?_
    subst hAe
    exact z_iret hx hb hr hlocks hP hK hD hS (trivial) dX3_liftOf_157
  · refine z_icmp_ge (tgt := 21) hx hb dX3_liftOf_14 (by decide) (by omega) (by omega) (fun c14 => ?_) (fun c14 => ?_)
    · refine lv_iload_n hx hb dX3_liftOf_21 rfl (lv_at hl 4 rfl) ?_
      refine lv_iload hx hb dX3_liftOf_22 (lv_at hl 0 rfl) ?_
      refine z_sub hx hb dX3_liftOf_24 ?_
      exact z_top (b := loB (rs t.toNat) y + ((0 : Nat) : Int)) (by unfold loB; omega) (J25 _ _ hP hD hS)
    · refine lv_iconst (v := iI 0) hx hb dX3_liftOf_17 rfl ?_
      refine lv_goto (tgt := 25) hx hb dX3_liftOf_18 (by decide) ?_
      exact z_top (b := loB (rs t.toNat) y + ((0 : Nat) : Int)) (by unfold loB; omega) (J25 _ _ hP hD hS)
theorem g_X3_67 : GoodIn wsAll (wsV RX3 67 RX3 yX3_liftOf wsX3_liftOf) := z_good (show ∀ w ∈ (Cond.methodLink RX3 67 yX3_liftOf :: Cond.instanceMethod yX3_liftOf :: Cond.selects RX3 yX3_liftOf yX3_liftOf :: Cond.initialized RX3 :: Cond.code yX3_liftOf prog_5_method_12_code 9 (some .int) :: wsAll), w ∈ wsAll from List.forall_mem_cons.mpr ⟨wm_493, List.forall_mem_cons.mpr ⟨wm_494, List.forall_mem_cons.mpr ⟨wm_573, List.forall_mem_cons.mpr ⟨wm_114, List.forall_mem_cons.mpr ⟨wm_495, fun _ h => h⟩⟩⟩⟩⟩)
abbrev r_X3_lift : Room := { frames := 3, cells := 0, slots := 0, locals := 76 }
set_option maxHeartbeats 4000000 in
set_option maxRecDepth 100000 in
theorem c_X3_lift (l : Launch) (dC : Nat → ClassId) (dI : Nat → Nat → Nat) (sz : Nat) (b : Nat → Nat) (cB : Nat → ClassId) (w h : Nat) (cd : Int) (wn mn kn : Nat → Int) (ik so : Int) (ks rs lf : Nat → Int) (K : MK) (x y t : Int) (hw : 1 ≤ w ∧ w ≤ 20) (hh : 1 ≤ h ∧ h ≤ 20) (hwn : bd wn 0 1000) (h0 : rg t) (h1 : rg x) (h2 : rg y) (hks : ∀ j, j < 4 → 0 ≤ ks j ∧ ks j ≤ 2) (hrs : ∀ j, j < 4 → 0 ≤ rs j ∧ rs j ≤ 5) : Met l yX3_lift wsX3_lift r_X3_lift (zP (dC, dI) vwCl (mdT cB) (mdW b cB w h cd wn mn kn ik so ks rs lf K) sz [.ref (b 0), .int (iI x), .int (iI y), .int (iI t)]) (zQi (dC, dI) vwCl (mdT cB) (mdW b cB w h cd wn mn kn ik so ks rs lf K) sz (True) (if cod1a (plB w h x y) (isW t 0 3) ≤ 0 then lmF w wn (ks t.toNat) (rs t.toNat) x y (nB h (rs t.toNat) y) else 0) (mdW b cB w h (cod1a (plB w h x y) (isW t 0 3)) wn mn kn ik so ks rs lf K)) 0 0 (va_A (mdW b cB w h cd wn mn kn ik so ks rs lf K) sz) := by
  refine Met.ofW (cc := cX3_lift) (maxL := 4) (ret := (some .int)) (by decide) rfl ?_
  intro p e s m args below meth c s₁ B hml hv
  obtain ⟨rfl, hsz, hP, hK, hD0, hZ⟩ := hv
  have hx := B.exec
  have hb := B.bytes
  have hr := B.returns
  have hts0 := atoms_spec (ws := wsX3_lift) B.pre
  have hts : ∀ w ∈ wsAll, w.before _ s = true := fun w h => hts0 w (List.mem_cons_of_mem _ h)
  have hown : s.vm.findClass RX3 = some m.cls := findClass_of_methodNamed B.named
  have hlocks := B.notSynchronized
  subst hsz
  have hD := hD0.self (sz := s.heap.size)
  obtain ⟨A, hAe⟩ : ∃ A, A = va_A (mdW b cB w h cd wn mn kn ik so ks rs lf K) s.heap.size := ⟨_, rfl⟩
  rw [← hAe] at hD hZ
  have hA : ∀ q : Nat, s.heap.size ≤ q → A q := fun q h => by rw [hAe]; exact Or.inr h
  have hS : va_S A s.heap s.heap [] := va_S.rf
  have hP : va_P (dC, dI) vwCl (mdW b cB w h cd wn mn kn ik so ks rs lf K) s.heap := hP
  have hl := lv_entry ([.ref (b 0), .int (iI x), .int (iI y), .int (iI t)]) (n := 4) (Nat.le_of_ble_eq_true rfl)
  rw [lg_entry_eq]
  generalize (lg_sl ([.ref (b 0), .int (iI x), .int (iI y), .int (iI t)]) ++ List.replicate (4 - (lg_sl ([.ref (b 0), .int (iI x), .int (iI y), .int (iI t)])).length) Slot.unset).toArray = ls at hl ⊢
  have hl : lv_has ls 4 [(0, .ref (b 0)), (1, .int (iI x)), (2, .int (iI y)), (3, .int (iI t))] := hl
  refine lv_aload_n hx hb dX3_lift_0 rfl (lv_at hl 0 rfl) ?_
  refine lv_aload_n hx hb dX3_lift_1 rfl (lv_at hl 0 rfl) ?_
  refine lv_iload_n hx hb dX3_lift_2 rfl (lv_at hl 1 rfl) ?_
  refine lv_iload_n hx hb dX3_lift_3 rfl (lv_at hl 2 rfl) ?_
  have hFc := z_freeR (wc := mdW b cB w h cd wn mn kn ik so ks rs lf K) (fun _ h => h) hD hS hA
  refine z_wcalli (va_runV (As := [.int (iI x), .int (iI y)]) (rest := [.ref (b 0)]) ⟨hx, hb, hml, hown, hts⟩ (c_X3_isPlace l dC dI (s.heap).size b cB w h cd wn mn kn ik so ks rs lf K x y hw hh (by omega) (by omega)) (cwV 2 hts g_X3_51 rfl rfl rfl (by decide +kernel) ⟨Nat.le_of_ble_eq_true rfl, Nat.le_of_ble_eq_true rfl⟩) (zP_V (ci := 3) (q0 := 0) rfl rfl hP hK hD hS hFc hZ) rfl rfl hl.1 rfl (lv_room (Nat.le_of_ble_eq_true rfl)) dX3_lift_4 ⟨Nat.le_of_ble_eq_true rfl, Nat.le_of_ble_eq_true rfl⟩) hS hFc (fun H locs _ hP hD hS _ => ?_)
  have hP : va_P (dC, dI) vwCl (mdW b cB w h cd wn mn kn ik so ks rs lf K) H := hP
  have hD : va_D A (mdW b cB w h cd wn mn kn ik so ks rs lf K) := hD
  refine z_joinH (D := (dC, dI)) (cl := vwCl) (A := A) (ws := mdW b cB w h cd wn mn kn ik so ks rs lf K) (g0 := F0 m 24 ls [.int (iI (cod1a (plB w h x y) (isW t 0 3))), .ref (b 0)]) (fun H locs hP hD hS => ?_) (fun J24 => ?_)
  · refine va_put (D := (dC, dI)) (ci := 3) (v := .int (iI (cod1a (plB w h x y) (isW t 0 3)))) (ty := .int) (C := RX3) (T := TX3) (N := 18) hx hb hts inX3 tyX3 tyX3_ok nmX3 hown hK hP hD hS 0 rfl rfl 0 (by decide) (hts _ wm_403) (fun _ h9 => h9) rfl (by decide +kernel) rfl rfl (Nat.le_of_ble_eq_true rfl) dX3_lift_24 (fun H locs hP hD hS => ?_)
    have hP : va_P (dC, dI) vwCl (mdW b cB w h (cod1a (plB w h x y) (isW t 0 3)) wn mn kn ik so ks rs lf K) H := hP
    have hD : va_D A (mdW b cB w h (cod1a (plB w h x y) (isW t 0 3)) wn mn kn ik so ks rs lf K) := hD
    refine lv_aload_n hx hb dX3_lift_27 rfl (lv_at hl 0 rfl) ?_
    refine va_get (D := (dC, dI)) (ci := 3) (v := .int (iI (cod1a (plB w h x y) (isW t 0 3)))) (C := RX3) (T := TX3) (N := 18) hx hb hts inX3 hown hK hP 0 rfl rfl 0 (by decide) (hts _ wm_403) (fun _ h9 => h9) rfl dX3_lift_28 ?_
    have hcr := cod1a_rg (plB w h x y) (isW t 0 3)
    refine z_if_le (tgt := 38) hx hb dX3_lift_31 (by decide) (by omega) (fun c31 => ?_) (fun c31 => ?_)
    · have hok := cod1a_ok c31
      have hpl := plB_t.mp hok.1
      have ht3 := isW_t.mp hok.2
      have hj : t.toNat < 4 := by omega
      have hks := hks _ hj
      have hrs := hrs _ hj
      refine lv_aload_n hx hb dX3_lift_38 rfl (lv_at hl 0 rfl) ?_
      refine lv_iload_n hx hb dX3_lift_39 rfl (lv_at hl 1 rfl) ?_
      refine lv_iload_n hx hb dX3_lift_40 rfl (lv_at hl 2 rfl) ?_
      refine lv_iload_n hx hb dX3_lift_41 rfl (lv_at hl 3 rfl) ?_
      have hFc := z_freeR (wc := mdW b cB w h (cod1a (plB w h x y) (isW t 0 3)) wn mn kn ik so ks rs lf K) (fun _ h => h) hD hS hA
      refine z_wcalli (va_runV (As := [.int (iI x), .int (iI y), .int (iI t)]) (rest := []) ⟨hx, hb, hml, hown, hts⟩ (c_X3_liftOf l dC dI (H).size b cB w h (cod1a (plB w h x y) (isW t 0 3)) wn mn kn ik so ks rs lf K x y t hw hh hwn (by omega) (by omega) ht3 hks hrs) (cwV 3 hts g_X3_67 rfl rfl rfl (by decide +kernel) ⟨Nat.le_of_ble_eq_true rfl, Nat.le_of_ble_eq_true rfl⟩) (zP_V (ci := 3) (q0 := 0) rfl rfl hP hK hD hS hFc hZ) rfl rfl hl.1 rfl (lv_room (Nat.le_of_ble_eq_true rfl)) dX3_lift_42 ⟨Nat.le_of_ble_eq_true rfl, Nat.le_of_ble_eq_true rfl⟩) hS hFc (fun H locs _ hP hD hS _ => ?_)
      have hP : va_P (dC, dI) vwCl (mdW b cB w h (cod1a (plB w h x y) (isW t 0 3)) wn mn kn ik so ks rs lf K) H := hP
      have hD : va_D A (mdW b cB w h (cod1a (plB w h x y) (isW t 0 3)) wn mn kn ik so ks rs lf K) := hD
      subst hAe
      refine z_top (b := if cod1a (plB w h x y) (isW t 0 3) ≤ 0 then lmF w wn (ks t.toNat) (rs t.toNat) x y (nB h (rs t.toNat) y) else 0) (by first | rw [if_pos (by omega)] | rw [if_neg (by omega)]) ?_
      exact z_iret hx hb hr hlocks hP hK hD hS (trivial) dX3_lift_45
    · refine lv_iconst (v := iI 0) hx hb dX3_lift_34 rfl ?_
      refine lv_goto (tgt := 45) hx hb dX3_lift_35 (by decide) ?_
      subst hAe
      refine z_top (b := if cod1a (plB w h x y) (isW t 0 3) ≤ 0 then lmF w wn (ks t.toNat) (rs t.toNat) x y (nB h (rs t.toNat) y) else 0) (by first | rw [if_pos (by omega)] | rw [if_neg (by omega)]) ?_
      exact z_iret hx hb hr hlocks hP hK hD hS (trivial) dX3_lift_45
  · refine z_if_eq (tgt := 23) hx hb dX3_lift_7 (by decide) (plB_rg _ _ _ _) (fun c7 => ?_) (fun c7 => ?_)
    · refine lv_iconst (v := iI 1) hx hb dX3_lift_23 rfl ?_
      exact z_top (b := cod1a (plB w h x y) (isW t 0 3)) (by unfold cod1a; (repeat' split) <;> omega) (J24 _ _ hP hD hS)
    · refine lv_iload_n hx hb dX3_lift_10 rfl (lv_at hl 3 rfl) ?_
      refine lv_iconst (v := iI 0) hx hb dX3_lift_11 rfl ?_
      refine lv_iconst (v := iI 3) hx hb dX3_lift_12 rfl ?_
      refine z_rcalli (va_runS (As := [.int (iI t), .int (iI 0), .int (iI 3)]) (rest := [.ref (b 0)]) ⟨hx, hb, hml, hown, hts⟩ (c_X3_isIn l dC dI (H).size t 0 3 (by omega) (by omega) (by omega)) (va_cwS 3 hts g_X3_55 rfl rfl rfl (by decide +kernel) ⟨Nat.le_of_ble_eq_true rfl, Nat.le_of_ble_eq_true rfl⟩) (zP_S z_P0 (hK.sub [] rfl) z_D0 hS (z_free0 hS hA) hZ) rfl rfl hl.1 rfl (lv_room (Nat.le_of_ble_eq_true rfl)) dX3_lift_13 ⟨Nat.le_of_ble_eq_true rfl, Nat.le_of_ble_eq_true rfl⟩) hP hD hS (z_free0 hS hA) (fun _ h => by cases h) (fun H locs _ hP hD hS _ => ?_)
      refine z_if_eq (tgt := 23) hx hb dX3_lift_16 (by decide) (isW_rg _ _ _) (fun c16 => ?_) (fun c16 => ?_)
      · refine lv_iconst (v := iI 1) hx hb dX3_lift_23 rfl ?_
        exact z_top (b := cod1a (plB w h x y) (isW t 0 3)) (by unfold cod1a; (repeat' split) <;> omega) (J24 _ _ hP hD hS)
      · refine lv_iconst (v := iI 0) hx hb dX3_lift_19 rfl ?_
        refine lv_goto (tgt := 24) hx hb dX3_lift_20 (by decide) ?_
        exact z_top (b := cod1a (plB w h x y) (isW t 0 3)) (by unfold cod1a; (repeat' split) <;> omega) (J24 _ _ hP hD hS)
abbrev r_X3_noTips : Room := { frames := 0, cells := 0, slots := 0, locals := 0 }
set_option maxHeartbeats 4000000 in
set_option maxRecDepth 100000 in
theorem lp_X3_noTips_2 {p : Program} {l : Launch} {e : Env} {s : State} {m : MethodId} {args : Array Value} {below : List Frame} {meth : Method} {c : Code} {Q : State → Prop} {A : Nat → Prop} {dC : Nat → ClassId} {dI : Nat → Nat → Nat} (b : Nat → Nat) (cB : Nat → ClassId) (w h : Nat) (cd : Int) (wn mn kn : Nat → Int) (ik so : Int) (ks rs lf : Nat → Int) (K : MK) (hx : p.tables.exec = Jvm.exec) (hb : c.code = cX3_noTips) (hml : c.maxLocals = 2) (hown : s.vm.findClass RX3 = some m.cls) (hts : ∀ w ∈ wsAll, w.before args s = true) (hA : ∀ q : Nat, s.heap.size ≤ q → A q) (hZ : zZ A s s.heap) (hK : va_K (dC, dI) vwCl (mdT cB) s) (kk : ∀ (H : Heap) (locs : List Loc) (ls : Array Slot), va_P (dC, dI) vwCl (mdW b cB w h cd wn mn kn ik so ks rs lf (mkN 400 K)) H → va_D A (mdW b cB w h cd wn mn kn ik so ks rs lf (mkN 400 K)) → va_S A s.heap H locs → lv_has ls 2 [(0, .ref (b 0)), (1, .int (iI ((400 : Nat) : Int)))] → W p l e r_X3_noTips s m args below meth c H locs 0 0 Q (F0 m 22 ls [])) : ∀ (n i : Nat), i + n = 400 → ∀ (H : Heap) (locs : List Loc) (ls : Array Slot), va_P (dC, dI) vwCl (mdW b cB w h cd wn mn kn ik so ks rs lf (mkN i K)) H → va_D A (mdW b cB w h cd wn mn kn ik so ks rs lf (mkN i K)) → va_S A s.heap H locs → lv_has ls 2 [(0, .ref (b 0)), (1, .int (iI ((i : Nat) : Int)))] → W p l e r_X3_noTips s m args below meth c H locs 0 0 Q (F0 m 2 ls []) := by
  intro n
  induction n with
  | zero =>
    intro i hi H locs ls hP hD hS hl
    have hi9 : 400 = i := by omega
    subst hi9
    refine lv_iload_n hx hb dX3_noTips_2 rfl (lv_at hl 1 rfl) ?_
    refine lv_sipush (v := iI 400) hx hb dX3_noTips_3 (by decide) ?_
    refine z_icmp_ge (tgt := 22) hx hb dX3_noTips_6 (by decide) (by omega) (by omega) (fun c6 => ?_) (fun c6 => by exfalso; omega)
    exact kk _ _ _ hP hD hS (lv_sub hl [0, 1] rfl)
  | succ n ih =>
    intro i hi H locs ls hP hD hS hl
    refine lv_iload_n hx hb dX3_noTips_2 rfl (lv_at hl 1 rfl) ?_
    refine lv_sipush (v := iI 400) hx hb dX3_noTips_3 (by decide) ?_
    refine z_icmp_ge (tgt := 22) hx hb dX3_noTips_6 (by decide) (by omega) (by omega) (fun c6 => by exfalso; omega) (fun c6 => ?_)
    refine lv_aload_n hx hb dX3_noTips_9 rfl (lv_at hl 0 rfl) ?_
    refine va_get (D := (dC, dI)) (ci := 3) (v := .ref (b 6)) (C := RX3) (T := TX3) (N := 18) hx hb hts inX3 hown hK hP 0 rfl rfl 10 (by decide) (hts _ wm_413) (fun _ h9 => h9) rfl dX3_noTips_10 ?_
    refine lv_iload_n hx hb dX3_noTips_13 rfl (lv_at hl 1 rfl) ?_
    refine lv_iconst (v := iI (-1)) hx hb dX3_noTips_14 rfl ?_
    refine z_iast (f := (mkN i K).1) (i := ((i : Nat) : Int)) (x := (-1)) hx hb hK hP hD hS 6 5 rfl rfl (by omega) (by decide) dX3_noTips_15 (fun H locs hP hD hS => ?_)
    have hP : va_P (dC, dI) vwCl (mdW b cB w h cd wn mn kn ik so ks rs lf (uI ((mkN i K).1) (((i : Nat) : Int)).toNat (-1), (mkN i K).2.1, (mkN i K).2.2.1, (mkN i K).2.2.2.1, (mkN i K).2.2.2.2.1, (mkN i K).2.2.2.2.2.1, (mkN i K).2.2.2.2.2.2)) H := hP
    have hD : va_D A (mdW b cB w h cd wn mn kn ik so ks rs lf (uI ((mkN i K).1) (((i : Nat) : Int)).toNat (-1), (mkN i K).2.1, (mkN i K).2.2.1, (mkN i K).2.2.2.1, (mkN i K).2.2.2.2.1, (mkN i K).2.2.2.2.2.1, (mkN i K).2.2.2.2.2.2)) := hD
    refine lv_iinc (v := iI (((i + 1) : Nat) : Int)) (lv' := [(1, .int (iI (((i + 1) : Nat) : Int))), (0, .ref (b 0))]) hx hb dX3_noTips_16 hl (k := 1) rfl ((iI_add _ _).trans (congrArg iI (by omega))) (by decide) rfl (fun ls hl => ?_)
    refine lv_goto (tgt := 2) hx hb dX3_noTips_19 (by decide) ?_
    exact ih (i + 1) (by omega) _ _ _ hP hD hS (lv_sub hl [1, 0] rfl)
set_option maxHeartbeats 4000000 in
set_option maxRecDepth 100000 in
theorem c_X3_noTips (l : Launch) (dC : Nat → ClassId) (dI : Nat → Nat → Nat) (sz : Nat) (b : Nat → Nat) (cB : Nat → ClassId) (w h : Nat) (cd : Int) (wn mn kn : Nat → Int) (ik so : Int) (ks rs lf : Nat → Int) (K : MK) : Met l yX3_noTips wsX3_noTips r_X3_noTips (zP (dC, dI) vwCl (mdT cB) (mdW b cB w h cd wn mn kn ik so ks rs lf K) sz [.ref (b 0)]) (zQv (dC, dI) vwCl (mdT cB) (mdW b cB w h cd wn mn kn ik so ks rs lf K) sz (True) (mdW b cB w h cd wn mn kn ik so ks rs lf (mkN 400 K))) 0 0 (va_A (mdW b cB w h cd wn mn kn ik so ks rs lf K) sz) := by
  refine Met.ofW (cc := cX3_noTips) (maxL := 2) (ret := none) (by decide) rfl ?_
  intro p e s m args below meth c s₁ B hml hv
  obtain ⟨rfl, hsz, hP, hK, hD0, hZ⟩ := hv
  have hx := B.exec
  have hb := B.bytes
  have hr := B.returns
  have hts0 := atoms_spec (ws := wsX3_noTips) B.pre
  have hts : ∀ w ∈ wsAll, w.before _ s = true := fun w h => hts0 w (List.mem_cons_of_mem _ h)
  have hown : s.vm.findClass RX3 = some m.cls := findClass_of_methodNamed B.named
  have hlocks := B.notSynchronized
  subst hsz
  have hD := hD0.self (sz := s.heap.size)
  obtain ⟨A, hAe⟩ : ∃ A, A = va_A (mdW b cB w h cd wn mn kn ik so ks rs lf K) s.heap.size := ⟨_, rfl⟩
  rw [← hAe] at hD hZ
  have hA : ∀ q : Nat, s.heap.size ≤ q → A q := fun q h => by rw [hAe]; exact Or.inr h
  have hS : va_S A s.heap s.heap [] := va_S.rf
  have hP : va_P (dC, dI) vwCl (mdW b cB w h cd wn mn kn ik so ks rs lf K) s.heap := hP
  have hl := lv_entry ([.ref (b 0)]) (n := 2) (Nat.le_of_ble_eq_true rfl)
  rw [lg_entry_eq]
  generalize (lg_sl ([.ref (b 0)]) ++ List.replicate (2 - (lg_sl ([.ref (b 0)])).length) Slot.unset).toArray = ls at hl ⊢
  have hl : lv_has ls 2 [(0, .ref (b 0))] := hl
  refine lv_iconst (v := iI 0) hx hb dX3_noTips_0 rfl ?_
  refine lv_istore_n (lv' := [(1, .int (iI 0)), (0, .ref (b 0))]) hx hb dX3_noTips_1 rfl hl (by decide) rfl (fun ls hl => ?_)
  refine lp_X3_noTips_2 b cB w h cd wn mn kn ik so ks rs lf K hx hb hml hown hts hA hZ hK  (fun H locs ls hP hD hS hl => ?_)  400 0 (by omega) _ _ _ hP hD hS (lv_sub hl [1, 0] rfl)
  have hP : va_P (dC, dI) vwCl (mdW b cB w h cd wn mn kn ik so ks rs lf (mkN 400 K)) H := hP
  have hD : va_D A (mdW b cB w h cd wn mn kn ik so ks rs lf (mkN 400 K)) := hD
  have hl : lv_has ls 2 [(0, .ref (b 0)), (1, .int (iI ((400 : Nat) : Int)))] := hl
  subst hAe
  exact z_vret hx hb hr hlocks hP hK hD hS (trivial) dX3_noTips_22
theorem g_X3_80 : GoodIn wsAll (va_wsS RX3 80 yX3_size wsX3_size) := z_good (show ∀ w ∈ (Cond.methodLink RX3 80 yX3_size :: Cond.static yX3_size :: Cond.initialized RX3 :: Cond.code yX3_size prog_5_method_14_code 1 (some .int) :: wsAll), w ∈ wsAll from List.forall_mem_cons.mpr ⟨wm_509, List.forall_mem_cons.mpr ⟨wm_510, List.forall_mem_cons.mpr ⟨wm_114, List.forall_mem_cons.mpr ⟨wm_511, fun _ h => h⟩⟩⟩⟩)
abbrev r_X3_move3 : Room := { frames := 1, cells := 0, slots := 0, locals := 20 }
set_option maxHeartbeats 4000000 in
set_option maxRecDepth 100000 in
theorem c_X3_move3 (l : Launch) (dC : Nat → ClassId) (dI : Nat → Nat → Nat) (sz : Nat) (b : Nat → Nat) (cB : Nat → ClassId) (w h : Nat) (cd : Int) (wn mn kn : Nat → Int) (ik so : Int) (ks rs lf : Nat → Int) (K : MK) (x y z M : Int) (hK0 : mkOK K M) (hM : 0 ≤ M ∧ M ≤ 2147483000) (h4 : 0 ≤ x ∧ x < 20) (h5 : 0 ≤ y ∧ y < 20) (h6 : 0 ≤ z ∧ z ≤ 1000) : Met l yX3_move3 wsX3_move3 r_X3_move3 (zP (dC, dI) vwCl (mdT cB) (mdW b cB w h cd wn mn kn ik so ks rs lf K) sz [.ref (b 0), .int (iI x), .int (iI y), .int (iI z)]) (zQv (dC, dI) vwCl (mdT cB) (mdW b cB w h cd wn mn kn ik so ks rs lf K) sz (True) (mdW b cB w h cd wn mn kn ik so ks rs lf (mkA x y z K))) 0 0 (va_A (mdW b cB w h cd wn mn kn ik so ks rs lf K) sz) := by
  refine Met.ofW (cc := cX3_move3) (maxL := 4) (ret := none) (by decide) rfl ?_
  intro p e s m args below meth c s₁ B hml hv
  obtain ⟨rfl, hsz, hP, hK, hD0, hZ⟩ := hv
  have hx := B.exec
  have hb := B.bytes
  have hr := B.returns
  have hts0 := atoms_spec (ws := wsX3_move3) B.pre
  have hts : ∀ w ∈ wsAll, w.before _ s = true := fun w h => hts0 w (List.mem_cons_of_mem _ h)
  have hown : s.vm.findClass RX3 = some m.cls := findClass_of_methodNamed B.named
  have hlocks := B.notSynchronized
  subst hsz
  have hD := hD0.self (sz := s.heap.size)
  obtain ⟨A, hAe⟩ : ∃ A, A = va_A (mdW b cB w h cd wn mn kn ik so ks rs lf K) s.heap.size := ⟨_, rfl⟩
  rw [← hAe] at hD hZ
  have hA : ∀ q : Nat, s.heap.size ≤ q → A q := fun q h => by rw [hAe]; exact Or.inr h
  have hS : va_S A s.heap s.heap [] := va_S.rf
  have hP : va_P (dC, dI) vwCl (mdW b cB w h cd wn mn kn ik so ks rs lf K) s.heap := hP
  have hl := lv_entry ([.ref (b 0), .int (iI x), .int (iI y), .int (iI z)]) (n := 4) (Nat.le_of_ble_eq_true rfl)
  rw [lg_entry_eq]
  generalize (lg_sl ([.ref (b 0), .int (iI x), .int (iI y), .int (iI z)]) ++ List.replicate (4 - (lg_sl ([.ref (b 0), .int (iI x), .int (iI y), .int (iI z)])).length) Slot.unset).toArray = ls at hl ⊢
  have hl : lv_has ls 4 [(0, .ref (b 0)), (1, .int (iI x)), (2, .int (iI y)), (3, .int (iI z))] := hl
  obtain ⟨hk1, hk2, hk3, hk4, hk5⟩ := hK0
  refine lv_aload_n hx hb dX3_move3_0 rfl (lv_at hl 0 rfl) ?_
  refine va_get (D := (dC, dI)) (ci := 3) (v := .ref (b 6)) (C := RX3) (T := TX3) (N := 18) hx hb hts inX3 hown hK hP 0 rfl rfl 10 (by decide) (hts _ wm_413) (fun _ h9 => h9) rfl dX3_move3_1 ?_
  refine lv_bipush (v := iI 20) hx hb dX3_move3_4 (by decide) ?_
  refine lv_iload_n hx hb dX3_move3_6 rfl (lv_at hl 2 rfl) ?_
  refine z_mul hx hb dX3_move3_7 ?_
  refine lv_iload_n hx hb dX3_move3_8 rfl (lv_at hl 1 rfl) ?_
  refine z_add hx hb dX3_move3_9 ?_
  refine lv_iload_n hx hb dX3_move3_10 rfl (lv_at hl 3 rfl) ?_
  refine z_iast (f := K.1) (i := (20 * y) + x) (x := z) hx hb hK hP hD hS 6 5 rfl rfl (by omega) (by decide) dX3_move3_11 (fun H locs hP hD hS => ?_)
  have hP : va_P (dC, dI) vwCl (mdW b cB w h cd wn mn kn ik so ks rs lf (uI K.1 ((20 * y) + x).toNat z, K.2.1, K.2.2.1, K.2.2.2.1, K.2.2.2.2.1, K.2.2.2.2.2.1, K.2.2.2.2.2.2)) H := hP
  have hD : va_D A (mdW b cB w h cd wn mn kn ik so ks rs lf (uI K.1 ((20 * y) + x).toNat z, K.2.1, K.2.2.1, K.2.2.2.1, K.2.2.2.2.1, K.2.2.2.2.2.1, K.2.2.2.2.2.2)) := hD
  refine lv_aload_n hx hb dX3_move3_12 rfl (lv_at hl 0 rfl) ?_
  refine va_get (D := (dC, dI)) (ci := 3) (v := .int (iI K.2.2.1)) (C := RX3) (T := TX3) (N := 18) hx hb hts inX3 hown hK hP 0 rfl rfl 12 (by decide) (hts _ wm_415) (fun _ h9 => h9) rfl dX3_move3_13 ?_
  refine z_if_le (tgt := 58) hx hb dX3_move3_16 (by decide) (by omega) (fun c16 => ?_) (fun c16 => ?_)
  · refine lv_aload_n hx hb dX3_move3_58 rfl (lv_at hl 0 rfl) ?_
    refine va_get (D := (dC, dI)) (ci := 3) (v := .int (iI K.2.2.1)) (C := RX3) (T := TX3) (N := 18) hx hb hts inX3 hown hK hP 0 rfl rfl 12 (by decide) (hts _ wm_415) (fun _ h9 => h9) rfl dX3_move3_59 ?_
    refine lv_sipush (v := iI 2000) hx hb dX3_move3_62 (by decide) ?_
    refine z_icmp_ge (tgt := 108) hx hb dX3_move3_65 (by decide) (by omega) (by omega) (fun c65 => ?_) (fun c65 => ?_)
    · refine lv_aload_n hx hb dX3_move3_108 rfl (lv_at hl 0 rfl) ?_
      refine lv_dup hx hb dX3_move3_109 rfl ?_
      refine va_get (D := (dC, dI)) (ci := 3) (v := .int (iI K.2.2.1)) (C := RX3) (T := TX3) (N := 18) hx hb hts inX3 hown hK hP 0 rfl rfl 12 (by decide) (hts _ wm_415) (fun _ h9 => h9) rfl dX3_move3_110 ?_
      refine lv_iconst (v := iI 1) hx hb dX3_move3_113 rfl ?_
      refine z_add hx hb dX3_move3_114 ?_
      refine va_put (D := (dC, dI)) (ci := 3) (v := .int (iI (K.2.2.1 + 1))) (ty := .int) (C := RX3) (T := TX3) (N := 18) hx hb hts inX3 tyX3 tyX3_ok nmX3 hown hK hP hD hS 0 rfl rfl 12 (by decide) (hts _ wm_415) (fun _ h9 => h9) rfl (by decide +kernel) rfl rfl (Nat.le_of_ble_eq_true rfl) dX3_move3_115 (fun H locs hP hD hS => ?_)
      have hP : va_P (dC, dI) vwCl (mdW b cB w h cd wn mn kn ik so ks rs lf (uI K.1 ((20 * y) + x).toNat z, K.2.1, K.2.2.1 + 1, K.2.2.2.1, K.2.2.2.2.1, K.2.2.2.2.2.1, K.2.2.2.2.2.2)) H := hP
      have hD : va_D A (mdW b cB w h cd wn mn kn ik so ks rs lf (uI K.1 ((20 * y) + x).toNat z, K.2.1, K.2.2.1 + 1, K.2.2.2.1, K.2.2.2.2.1, K.2.2.2.2.2.1, K.2.2.2.2.2.2)) := hD
      refine lv_aload_n hx hb dX3_move3_118 rfl (lv_at hl 0 rfl) ?_
      refine lv_iload_n hx hb dX3_move3_119 rfl (lv_at hl 1 rfl) ?_
      refine va_put (D := (dC, dI)) (ci := 3) (v := .int (iI x)) (ty := .int) (C := RX3) (T := TX3) (N := 18) hx hb hts inX3 tyX3 tyX3_ok nmX3 hown hK hP hD hS 0 rfl rfl 15 (by decide) (hts _ wm_418) (fun _ h9 => h9) rfl (by decide +kernel) rfl rfl (Nat.le_of_ble_eq_true rfl) dX3_move3_120 (fun H locs hP hD hS => ?_)
      have hP : va_P (dC, dI) vwCl (mdW b cB w h cd wn mn kn ik so ks rs lf (uI K.1 ((20 * y) + x).toNat z, K.2.1, K.2.2.1 + 1, K.2.2.2.1, x, K.2.2.2.2.2.1, K.2.2.2.2.2.2)) H := hP
      have hD : va_D A (mdW b cB w h cd wn mn kn ik so ks rs lf (uI K.1 ((20 * y) + x).toNat z, K.2.1, K.2.2.1 + 1, K.2.2.2.1, x, K.2.2.2.2.2.1, K.2.2.2.2.2.2)) := hD
      refine lv_aload_n hx hb dX3_move3_123 rfl (lv_at hl 0 rfl) ?_
      refine lv_iload_n hx hb dX3_move3_124 rfl (lv_at hl 2 rfl) ?_
      refine va_put (D := (dC, dI)) (ci := 3) (v := .int (iI y)) (ty := .int) (C := RX3) (T := TX3) (N := 18) hx hb hts inX3 tyX3 tyX3_ok nmX3 hown hK hP hD hS 0 rfl rfl 16 (by decide) (hts _ wm_419) (fun _ h9 => h9) rfl (by decide +kernel) rfl rfl (Nat.le_of_ble_eq_true rfl) dX3_move3_125 (fun H locs hP hD hS => ?_)
      have hP : va_P (dC, dI) vwCl (mdW b cB w h cd wn mn kn ik so ks rs lf (uI K.1 ((20 * y) + x).toNat z, K.2.1, K.2.2.1 + 1, K.2.2.2.1, x, y, K.2.2.2.2.2.2)) H := hP
      have hD : va_D A (mdW b cB w h cd wn mn kn ik so ks rs lf (uI K.1 ((20 * y) + x).toNat z, K.2.1, K.2.2.1 + 1, K.2.2.2.1, x, y, K.2.2.2.2.2.2)) := hD
      refine lv_aload_n hx hb dX3_move3_128 rfl (lv_at hl 0 rfl) ?_
      refine lv_iload_n hx hb dX3_move3_129 rfl (lv_at hl 3 rfl) ?_
      refine va_put (D := (dC, dI)) (ci := 3) (v := .int (iI z)) (ty := .int) (C := RX3) (T := TX3) (N := 18) hx hb hts inX3 tyX3 tyX3_ok nmX3 hown hK hP hD hS 0 rfl rfl 17 (by decide) (hts _ wm_420) (fun _ h9 => h9) rfl (by decide +kernel) rfl rfl (Nat.le_of_ble_eq_true rfl) dX3_move3_130 (fun H locs hP hD hS => ?_)
      have hP : va_P (dC, dI) vwCl (mdW b cB w h cd wn mn kn ik so ks rs lf (uI K.1 ((20 * y) + x).toNat z, K.2.1, K.2.2.1 + 1, K.2.2.2.1, x, y, z)) H := hP
      have hD : va_D A (mdW b cB w h cd wn mn kn ik so ks rs lf (uI K.1 ((20 * y) + x).toNat z, K.2.1, K.2.2.1 + 1, K.2.2.2.1, x, y, z)) := hD
      subst hAe
      rw [show mkA x y z K = (uI K.1 ((20 * y) + x).toNat z, K.2.1, K.2.2.1 + 1, K.2.2.2.1, x, y, z) from by first | (exfalso; omega) | (unfold mkA; rw [if_pos (show K.2.2.1 < 2000 by omega), if_pos (show 0 < K.2.2.1 by omega)]) | (unfold mkA; rw [if_pos (show K.2.2.1 < 2000 by omega), if_neg (show ¬ 0 < K.2.2.1 by omega)]) | (unfold mkA; rw [if_neg (show ¬ K.2.2.1 < 2000 by omega), if_pos (show 0 < K.2.2.1 by omega)]) | (unfold mkA; rw [if_neg (show ¬ K.2.2.1 < 2000 by omega), if_neg (show ¬ 0 < K.2.2.1 by omega)])]
      exact z_vret hx hb hr hlocks hP hK hD hS (trivial) dX3_move3_133
    · refine lv_aload_n hx hb dX3_move3_68 rfl (lv_at hl 0 rfl) ?_
      refine va_get (D := (dC, dI)) (ci := 3) (v := .ref (b 8)) (C := RX3) (T := TX3) (N := 18) hx hb hts inX3 hown hK hP 0 rfl rfl 13 (by decide) (hts _ wm_416) (fun _ h9 => h9) rfl dX3_move3_69 ?_
      refine lv_iconst (v := iI 3) hx hb dX3_move3_72 rfl ?_
      refine lv_aload_n hx hb dX3_move3_73 rfl (lv_at hl 0 rfl) ?_
      refine va_get (D := (dC, dI)) (ci := 3) (v := .int (iI K.2.2.1)) (C := RX3) (T := TX3) (N := 18) hx hb hts inX3 hown hK hP 0 rfl rfl 12 (by decide) (hts _ wm_415) (fun _ h9 => h9) rfl dX3_move3_74 ?_
      refine z_mul hx hb dX3_move3_77 ?_
      refine lv_iload_n hx hb dX3_move3_78 rfl (lv_at hl 1 rfl) ?_
      refine z_iast (f := K.2.1) (i := 3 * K.2.2.1) (x := x) hx hb hK hP hD hS 8 7 rfl rfl (by omega) (by decide) dX3_move3_79 (fun H locs hP hD hS => ?_)
      have hP : va_P (dC, dI) vwCl (mdW b cB w h cd wn mn kn ik so ks rs lf (uI K.1 ((20 * y) + x).toNat z, uI K.2.1 (3 * K.2.2.1).toNat x, K.2.2.1, K.2.2.2.1, K.2.2.2.2.1, K.2.2.2.2.2.1, K.2.2.2.2.2.2)) H := hP
      have hD : va_D A (mdW b cB w h cd wn mn kn ik so ks rs lf (uI K.1 ((20 * y) + x).toNat z, uI K.2.1 (3 * K.2.2.1).toNat x, K.2.2.1, K.2.2.2.1, K.2.2.2.2.1, K.2.2.2.2.2.1, K.2.2.2.2.2.2)) := hD
      refine lv_aload_n hx hb dX3_move3_80 rfl (lv_at hl 0 rfl) ?_
      refine va_get (D := (dC, dI)) (ci := 3) (v := .ref (b 8)) (C := RX3) (T := TX3) (N := 18) hx hb hts inX3 hown hK hP 0 rfl rfl 13 (by decide) (hts _ wm_416) (fun _ h9 => h9) rfl dX3_move3_81 ?_
      refine lv_iconst (v := iI 3) hx hb dX3_move3_84 rfl ?_
      refine lv_aload_n hx hb dX3_move3_85 rfl (lv_at hl 0 rfl) ?_
      refine va_get (D := (dC, dI)) (ci := 3) (v := .int (iI K.2.2.1)) (C := RX3) (T := TX3) (N := 18) hx hb hts inX3 hown hK hP 0 rfl rfl 12 (by decide) (hts _ wm_415) (fun _ h9 => h9) rfl dX3_move3_86 ?_
      refine z_mul hx hb dX3_move3_89 ?_
      refine lv_iconst (v := iI 1) hx hb dX3_move3_90 rfl ?_
      refine z_add hx hb dX3_move3_91 ?_
      refine lv_iload_n hx hb dX3_move3_92 rfl (lv_at hl 2 rfl) ?_
      refine z_iast (f := uI K.2.1 (3 * K.2.2.1).toNat x) (i := (3 * K.2.2.1) + 1) (x := y) hx hb hK hP hD hS 8 7 rfl rfl (by omega) (by decide) dX3_move3_93 (fun H locs hP hD hS => ?_)
      have hP : va_P (dC, dI) vwCl (mdW b cB w h cd wn mn kn ik so ks rs lf (uI K.1 ((20 * y) + x).toNat z, uI (uI K.2.1 (3 * K.2.2.1).toNat x) ((3 * K.2.2.1) + 1).toNat y, K.2.2.1, K.2.2.2.1, K.2.2.2.2.1, K.2.2.2.2.2.1, K.2.2.2.2.2.2)) H := hP
      have hD : va_D A (mdW b cB w h cd wn mn kn ik so ks rs lf (uI K.1 ((20 * y) + x).toNat z, uI (uI K.2.1 (3 * K.2.2.1).toNat x) ((3 * K.2.2.1) + 1).toNat y, K.2.2.1, K.2.2.2.1, K.2.2.2.2.1, K.2.2.2.2.2.1, K.2.2.2.2.2.2)) := hD
      refine lv_aload_n hx hb dX3_move3_94 rfl (lv_at hl 0 rfl) ?_
      refine va_get (D := (dC, dI)) (ci := 3) (v := .ref (b 8)) (C := RX3) (T := TX3) (N := 18) hx hb hts inX3 hown hK hP 0 rfl rfl 13 (by decide) (hts _ wm_416) (fun _ h9 => h9) rfl dX3_move3_95 ?_
      refine lv_iconst (v := iI 3) hx hb dX3_move3_98 rfl ?_
      refine lv_aload_n hx hb dX3_move3_99 rfl (lv_at hl 0 rfl) ?_
      refine va_get (D := (dC, dI)) (ci := 3) (v := .int (iI K.2.2.1)) (C := RX3) (T := TX3) (N := 18) hx hb hts inX3 hown hK hP 0 rfl rfl 12 (by decide) (hts _ wm_415) (fun _ h9 => h9) rfl dX3_move3_100 ?_
      refine z_mul hx hb dX3_move3_103 ?_
      refine lv_iconst (v := iI 2) hx hb dX3_move3_104 rfl ?_
      refine z_add hx hb dX3_move3_105 ?_
      refine lv_iload_n hx hb dX3_move3_106 rfl (lv_at hl 3 rfl) ?_
      refine z_iast (f := uI (uI K.2.1 (3 * K.2.2.1).toNat x) ((3 * K.2.2.1) + 1).toNat y) (i := (3 * K.2.2.1) + 2) (x := z) hx hb hK hP hD hS 8 7 rfl rfl (by omega) (by decide) dX3_move3_107 (fun H locs hP hD hS => ?_)
      have hP : va_P (dC, dI) vwCl (mdW b cB w h cd wn mn kn ik so ks rs lf (uI K.1 ((20 * y) + x).toNat z, uI (uI (uI K.2.1 (3 * K.2.2.1).toNat x) ((3 * K.2.2.1) + 1).toNat y) ((3 * K.2.2.1) + 2).toNat z, K.2.2.1, K.2.2.2.1, K.2.2.2.2.1, K.2.2.2.2.2.1, K.2.2.2.2.2.2)) H := hP
      have hD : va_D A (mdW b cB w h cd wn mn kn ik so ks rs lf (uI K.1 ((20 * y) + x).toNat z, uI (uI (uI K.2.1 (3 * K.2.2.1).toNat x) ((3 * K.2.2.1) + 1).toNat y) ((3 * K.2.2.1) + 2).toNat z, K.2.2.1, K.2.2.2.1, K.2.2.2.2.1, K.2.2.2.2.2.1, K.2.2.2.2.2.2)) := hD
      refine lv_aload_n hx hb dX3_move3_108 rfl (lv_at hl 0 rfl) ?_
      refine lv_dup hx hb dX3_move3_109 rfl ?_
      refine va_get (D := (dC, dI)) (ci := 3) (v := .int (iI K.2.2.1)) (C := RX3) (T := TX3) (N := 18) hx hb hts inX3 hown hK hP 0 rfl rfl 12 (by decide) (hts _ wm_415) (fun _ h9 => h9) rfl dX3_move3_110 ?_
      refine lv_iconst (v := iI 1) hx hb dX3_move3_113 rfl ?_
      refine z_add hx hb dX3_move3_114 ?_
      refine va_put (D := (dC, dI)) (ci := 3) (v := .int (iI (K.2.2.1 + 1))) (ty := .int) (C := RX3) (T := TX3) (N := 18) hx hb hts inX3 tyX3 tyX3_ok nmX3 hown hK hP hD hS 0 rfl rfl 12 (by decide) (hts _ wm_415) (fun _ h9 => h9) rfl (by decide +kernel) rfl rfl (Nat.le_of_ble_eq_true rfl) dX3_move3_115 (fun H locs hP hD hS => ?_)
      have hP : va_P (dC, dI) vwCl (mdW b cB w h cd wn mn kn ik so ks rs lf (uI K.1 ((20 * y) + x).toNat z, uI (uI (uI K.2.1 (3 * K.2.2.1).toNat x) ((3 * K.2.2.1) + 1).toNat y) ((3 * K.2.2.1) + 2).toNat z, K.2.2.1 + 1, K.2.2.2.1, K.2.2.2.2.1, K.2.2.2.2.2.1, K.2.2.2.2.2.2)) H := hP
      have hD : va_D A (mdW b cB w h cd wn mn kn ik so ks rs lf (uI K.1 ((20 * y) + x).toNat z, uI (uI (uI K.2.1 (3 * K.2.2.1).toNat x) ((3 * K.2.2.1) + 1).toNat y) ((3 * K.2.2.1) + 2).toNat z, K.2.2.1 + 1, K.2.2.2.1, K.2.2.2.2.1, K.2.2.2.2.2.1, K.2.2.2.2.2.2)) := hD
      refine lv_aload_n hx hb dX3_move3_118 rfl (lv_at hl 0 rfl) ?_
      refine lv_iload_n hx hb dX3_move3_119 rfl (lv_at hl 1 rfl) ?_
      refine va_put (D := (dC, dI)) (ci := 3) (v := .int (iI x)) (ty := .int) (C := RX3) (T := TX3) (N := 18) hx hb hts inX3 tyX3 tyX3_ok nmX3 hown hK hP hD hS 0 rfl rfl 15 (by decide) (hts _ wm_418) (fun _ h9 => h9) rfl (by decide +kernel) rfl rfl (Nat.le_of_ble_eq_true rfl) dX3_move3_120 (fun H locs hP hD hS => ?_)
      have hP : va_P (dC, dI) vwCl (mdW b cB w h cd wn mn kn ik so ks rs lf (uI K.1 ((20 * y) + x).toNat z, uI (uI (uI K.2.1 (3 * K.2.2.1).toNat x) ((3 * K.2.2.1) + 1).toNat y) ((3 * K.2.2.1) + 2).toNat z, K.2.2.1 + 1, K.2.2.2.1, x, K.2.2.2.2.2.1, K.2.2.2.2.2.2)) H := hP
      have hD : va_D A (mdW b cB w h cd wn mn kn ik so ks rs lf (uI K.1 ((20 * y) + x).toNat z, uI (uI (uI K.2.1 (3 * K.2.2.1).toNat x) ((3 * K.2.2.1) + 1).toNat y) ((3 * K.2.2.1) + 2).toNat z, K.2.2.1 + 1, K.2.2.2.1, x, K.2.2.2.2.2.1, K.2.2.2.2.2.2)) := hD
      refine lv_aload_n hx hb dX3_move3_123 rfl (lv_at hl 0 rfl) ?_
      refine lv_iload_n hx hb dX3_move3_124 rfl (lv_at hl 2 rfl) ?_
      refine va_put (D := (dC, dI)) (ci := 3) (v := .int (iI y)) (ty := .int) (C := RX3) (T := TX3) (N := 18) hx hb hts inX3 tyX3 tyX3_ok nmX3 hown hK hP hD hS 0 rfl rfl 16 (by decide) (hts _ wm_419) (fun _ h9 => h9) rfl (by decide +kernel) rfl rfl (Nat.le_of_ble_eq_true rfl) dX3_move3_125 (fun H locs hP hD hS => ?_)
      have hP : va_P (dC, dI) vwCl (mdW b cB w h cd wn mn kn ik so ks rs lf (uI K.1 ((20 * y) + x).toNat z, uI (uI (uI K.2.1 (3 * K.2.2.1).toNat x) ((3 * K.2.2.1) + 1).toNat y) ((3 * K.2.2.1) + 2).toNat z, K.2.2.1 + 1, K.2.2.2.1, x, y, K.2.2.2.2.2.2)) H := hP
      have hD : va_D A (mdW b cB w h cd wn mn kn ik so ks rs lf (uI K.1 ((20 * y) + x).toNat z, uI (uI (uI K.2.1 (3 * K.2.2.1).toNat x) ((3 * K.2.2.1) + 1).toNat y) ((3 * K.2.2.1) + 2).toNat z, K.2.2.1 + 1, K.2.2.2.1, x, y, K.2.2.2.2.2.2)) := hD
      refine lv_aload_n hx hb dX3_move3_128 rfl (lv_at hl 0 rfl) ?_
      refine lv_iload_n hx hb dX3_move3_129 rfl (lv_at hl 3 rfl) ?_
      refine va_put (D := (dC, dI)) (ci := 3) (v := .int (iI z)) (ty := .int) (C := RX3) (T := TX3) (N := 18) hx hb hts inX3 tyX3 tyX3_ok nmX3 hown hK hP hD hS 0 rfl rfl 17 (by decide) (hts _ wm_420) (fun _ h9 => h9) rfl (by decide +kernel) rfl rfl (Nat.le_of_ble_eq_true rfl) dX3_move3_130 (fun H locs hP hD hS => ?_)
      have hP : va_P (dC, dI) vwCl (mdW b cB w h cd wn mn kn ik so ks rs lf (uI K.1 ((20 * y) + x).toNat z, uI (uI (uI K.2.1 (3 * K.2.2.1).toNat x) ((3 * K.2.2.1) + 1).toNat y) ((3 * K.2.2.1) + 2).toNat z, K.2.2.1 + 1, K.2.2.2.1, x, y, z)) H := hP
      have hD : va_D A (mdW b cB w h cd wn mn kn ik so ks rs lf (uI K.1 ((20 * y) + x).toNat z, uI (uI (uI K.2.1 (3 * K.2.2.1).toNat x) ((3 * K.2.2.1) + 1).toNat y) ((3 * K.2.2.1) + 2).toNat z, K.2.2.1 + 1, K.2.2.2.1, x, y, z)) := hD
      subst hAe
      rw [show mkA x y z K = (uI K.1 ((20 * y) + x).toNat z, uI (uI (uI K.2.1 (3 * K.2.2.1).toNat x) ((3 * K.2.2.1) + 1).toNat y) ((3 * K.2.2.1) + 2).toNat z, K.2.2.1 + 1, K.2.2.2.1, x, y, z) from by first | (exfalso; omega) | (unfold mkA; rw [if_pos (show K.2.2.1 < 2000 by omega), if_pos (show 0 < K.2.2.1 by omega)]) | (unfold mkA; rw [if_pos (show K.2.2.1 < 2000 by omega), if_neg (show ¬ 0 < K.2.2.1 by omega)]) | (unfold mkA; rw [if_neg (show ¬ K.2.2.1 < 2000 by omega), if_pos (show 0 < K.2.2.1 by omega)]) | (unfold mkA; rw [if_neg (show ¬ K.2.2.1 < 2000 by omega), if_neg (show ¬ 0 < K.2.2.1 by omega)])]
      exact z_vret hx hb hr hlocks hP hK hD hS (trivial) dX3_move3_133
  · refine lv_aload_n hx hb dX3_move3_19 rfl (lv_at hl 0 rfl) ?_
    refine lv_dup hx hb dX3_move3_20 rfl ?_
    refine va_get (D := (dC, dI)) (ci := 3) (v := .long (lI K.2.2.2.1)) (C := RX3) (T := TX3) (N := 18) hx hb hts inX3 hown hK hP 0 rfl rfl 14 (by decide) (hts _ wm_417) (fun _ h9 => h9) rfl dX3_move3_21 ?_
    refine lv_iload_n hx hb dX3_move3_24 rfl (lv_at hl 1 rfl) ?_
    refine lv_aload_n hx hb dX3_move3_25 rfl (lv_at hl 0 rfl) ?_
    refine va_get (D := (dC, dI)) (ci := 3) (v := .int (iI K.2.2.2.2.1)) (C := RX3) (T := TX3) (N := 18) hx hb hts inX3 hown hK hP 0 rfl rfl 15 (by decide) (hts _ wm_418) (fun _ h9 => h9) rfl dX3_move3_26 ?_
    refine z_sub hx hb dX3_move3_29 ?_
    refine z_rcalli (va_runS (As := [.int (iI (x - K.2.2.2.2.1))]) (rest := [.long (lI K.2.2.2.1), .ref (b 0)]) ⟨hx, hb, hml, hown, hts⟩ (c_X3_size l dC dI (H).size (x - K.2.2.2.2.1) (by omega)) (va_cwS 1 hts g_X3_80 rfl rfl rfl (by decide +kernel) ⟨Nat.le_of_ble_eq_true rfl, Nat.le_of_ble_eq_true rfl⟩) (zP_S z_P0 (hK.sub [] rfl) z_D0 hS (z_free0 hS hA) hZ) rfl rfl hl.1 rfl (lv_room (Nat.le_of_ble_eq_true rfl)) dX3_move3_30 ⟨Nat.le_of_ble_eq_true rfl, Nat.le_of_ble_eq_true rfl⟩) hP hD hS (z_free0 hS hA) (fun _ h => by cases h) (fun H locs _ hP hD hS _ => ?_)
    refine lv_iload_n hx hb dX3_move3_33 rfl (lv_at hl 2 rfl) ?_
    refine lv_aload_n hx hb dX3_move3_34 rfl (lv_at hl 0 rfl) ?_
    refine va_get (D := (dC, dI)) (ci := 3) (v := .int (iI K.2.2.2.2.2.1)) (C := RX3) (T := TX3) (N := 18) hx hb hts inX3 hown hK hP 0 rfl rfl 16 (by decide) (hts _ wm_419) (fun _ h9 => h9) rfl dX3_move3_35 ?_
    refine z_sub hx hb dX3_move3_38 ?_
    refine z_rcalli (va_runS (As := [.int (iI (y - K.2.2.2.2.2.1))]) (rest := [.int (iI (zab (x - K.2.2.2.2.1))), .long (lI K.2.2.2.1), .ref (b 0)]) ⟨hx, hb, hml, hown, hts⟩ (c_X3_size l dC dI (H).size (y - K.2.2.2.2.2.1) (by omega)) (va_cwS 1 hts g_X3_80 rfl rfl rfl (by decide +kernel) ⟨Nat.le_of_ble_eq_true rfl, Nat.le_of_ble_eq_true rfl⟩) (zP_S z_P0 (hK.sub [] rfl) z_D0 hS (z_free0 hS hA) hZ) rfl rfl hl.1 rfl (lv_room (Nat.le_of_ble_eq_true rfl)) dX3_move3_39 ⟨Nat.le_of_ble_eq_true rfl, Nat.le_of_ble_eq_true rfl⟩) hP hD hS (z_free0 hS hA) (fun _ h => by cases h) (fun H locs _ hP hD hS _ => ?_)
    refine z_add hx hb dX3_move3_42 ?_
    refine lv_iload_n hx hb dX3_move3_43 rfl (lv_at hl 3 rfl) ?_
    refine lv_aload_n hx hb dX3_move3_44 rfl (lv_at hl 0 rfl) ?_
    refine va_get (D := (dC, dI)) (ci := 3) (v := .int (iI K.2.2.2.2.2.2)) (C := RX3) (T := TX3) (N := 18) hx hb hts inX3 hown hK hP 0 rfl rfl 17 (by decide) (hts _ wm_420) (fun _ h9 => h9) rfl dX3_move3_45 ?_
    refine z_sub hx hb dX3_move3_48 ?_
    refine z_rcalli (va_runS (As := [.int (iI (z - K.2.2.2.2.2.2))]) (rest := [.int (iI ((zab (x - K.2.2.2.2.1)) + (zab (y - K.2.2.2.2.2.1)))), .long (lI K.2.2.2.1), .ref (b 0)]) ⟨hx, hb, hml, hown, hts⟩ (c_X3_size l dC dI (H).size (z - K.2.2.2.2.2.2) (by omega)) (va_cwS 1 hts g_X3_80 rfl rfl rfl (by decide +kernel) ⟨Nat.le_of_ble_eq_true rfl, Nat.le_of_ble_eq_true rfl⟩) (zP_S z_P0 (hK.sub [] rfl) z_D0 hS (z_free0 hS hA) hZ) rfl rfl hl.1 rfl (lv_room (Nat.le_of_ble_eq_true rfl)) dX3_move3_49 ⟨Nat.le_of_ble_eq_true rfl, Nat.le_of_ble_eq_true rfl⟩) hP hD hS (z_free0 hS hA) (fun _ h => by cases h) (fun H locs _ hP hD hS _ => ?_)
    refine z_add hx hb dX3_move3_52 ?_
    refine z_i2l hx hb dX3_move3_53 (by
      have e1 := zab_le (a := x - K.2.2.2.2.1) (b := 20) (by omega) (by omega)
      have e2 := zab_le (a := y - K.2.2.2.2.2.1) (b := 20) (by omega) (by omega)
      have e3 := zab_le (a := z - K.2.2.2.2.2.2) (b := 1000) (by omega) (by omega)
      omega) ?_
    refine z_ladd hx hb dX3_move3_54 ?_
    refine va_put (D := (dC, dI)) (ci := 3) (v := .long (lI (K.2.2.2.1 + (((zab (x - K.2.2.2.2.1)) + (zab (y - K.2.2.2.2.2.1))) + (zab (z - K.2.2.2.2.2.2)))))) (ty := .long) (C := RX3) (T := TX3) (N := 18) hx hb hts inX3 tyX3 tyX3_ok nmX3 hown hK hP hD hS 0 rfl rfl 14 (by decide) (hts _ wm_417) (fun _ h9 => h9) rfl (by decide +kernel) rfl rfl (Nat.le_of_ble_eq_true rfl) dX3_move3_55 (fun H locs hP hD hS => ?_)
    have hP : va_P (dC, dI) vwCl (mdW b cB w h cd wn mn kn ik so ks rs lf (uI K.1 ((20 * y) + x).toNat z, K.2.1, K.2.2.1, K.2.2.2.1 + (((zab (x - K.2.2.2.2.1)) + (zab (y - K.2.2.2.2.2.1))) + (zab (z - K.2.2.2.2.2.2))), K.2.2.2.2.1, K.2.2.2.2.2.1, K.2.2.2.2.2.2)) H := hP
    have hD : va_D A (mdW b cB w h cd wn mn kn ik so ks rs lf (uI K.1 ((20 * y) + x).toNat z, K.2.1, K.2.2.1, K.2.2.2.1 + (((zab (x - K.2.2.2.2.1)) + (zab (y - K.2.2.2.2.2.1))) + (zab (z - K.2.2.2.2.2.2))), K.2.2.2.2.1, K.2.2.2.2.2.1, K.2.2.2.2.2.2)) := hD
    refine lv_aload_n hx hb dX3_move3_58 rfl (lv_at hl 0 rfl) ?_
    refine va_get (D := (dC, dI)) (ci := 3) (v := .int (iI K.2.2.1)) (C := RX3) (T := TX3) (N := 18) hx hb hts inX3 hown hK hP 0 rfl rfl 12 (by decide) (hts _ wm_415) (fun _ h9 => h9) rfl dX3_move3_59 ?_
    refine lv_sipush (v := iI 2000) hx hb dX3_move3_62 (by decide) ?_
    refine z_icmp_ge (tgt := 108) hx hb dX3_move3_65 (by decide) (by omega) (by omega) (fun c65 => ?_) (fun c65 => ?_)
    · refine lv_aload_n hx hb dX3_move3_108 rfl (lv_at hl 0 rfl) ?_
      refine lv_dup hx hb dX3_move3_109 rfl ?_
      refine va_get (D := (dC, dI)) (ci := 3) (v := .int (iI K.2.2.1)) (C := RX3) (T := TX3) (N := 18) hx hb hts inX3 hown hK hP 0 rfl rfl 12 (by decide) (hts _ wm_415) (fun _ h9 => h9) rfl dX3_move3_110 ?_
      refine lv_iconst (v := iI 1) hx hb dX3_move3_113 rfl ?_
      refine z_add hx hb dX3_move3_114 ?_
      refine va_put (D := (dC, dI)) (ci := 3) (v := .int (iI (K.2.2.1 + 1))) (ty := .int) (C := RX3) (T := TX3) (N := 18) hx hb hts inX3 tyX3 tyX3_ok nmX3 hown hK hP hD hS 0 rfl rfl 12 (by decide) (hts _ wm_415) (fun _ h9 => h9) rfl (by decide +kernel) rfl rfl (Nat.le_of_ble_eq_true rfl) dX3_move3_115 (fun H locs hP hD hS => ?_)
      have hP : va_P (dC, dI) vwCl (mdW b cB w h cd wn mn kn ik so ks rs lf (uI K.1 ((20 * y) + x).toNat z, K.2.1, K.2.2.1 + 1, K.2.2.2.1 + (((zab (x - K.2.2.2.2.1)) + (zab (y - K.2.2.2.2.2.1))) + (zab (z - K.2.2.2.2.2.2))), K.2.2.2.2.1, K.2.2.2.2.2.1, K.2.2.2.2.2.2)) H := hP
      have hD : va_D A (mdW b cB w h cd wn mn kn ik so ks rs lf (uI K.1 ((20 * y) + x).toNat z, K.2.1, K.2.2.1 + 1, K.2.2.2.1 + (((zab (x - K.2.2.2.2.1)) + (zab (y - K.2.2.2.2.2.1))) + (zab (z - K.2.2.2.2.2.2))), K.2.2.2.2.1, K.2.2.2.2.2.1, K.2.2.2.2.2.2)) := hD
      refine lv_aload_n hx hb dX3_move3_118 rfl (lv_at hl 0 rfl) ?_
      refine lv_iload_n hx hb dX3_move3_119 rfl (lv_at hl 1 rfl) ?_
      refine va_put (D := (dC, dI)) (ci := 3) (v := .int (iI x)) (ty := .int) (C := RX3) (T := TX3) (N := 18) hx hb hts inX3 tyX3 tyX3_ok nmX3 hown hK hP hD hS 0 rfl rfl 15 (by decide) (hts _ wm_418) (fun _ h9 => h9) rfl (by decide +kernel) rfl rfl (Nat.le_of_ble_eq_true rfl) dX3_move3_120 (fun H locs hP hD hS => ?_)
      have hP : va_P (dC, dI) vwCl (mdW b cB w h cd wn mn kn ik so ks rs lf (uI K.1 ((20 * y) + x).toNat z, K.2.1, K.2.2.1 + 1, K.2.2.2.1 + (((zab (x - K.2.2.2.2.1)) + (zab (y - K.2.2.2.2.2.1))) + (zab (z - K.2.2.2.2.2.2))), x, K.2.2.2.2.2.1, K.2.2.2.2.2.2)) H := hP
      have hD : va_D A (mdW b cB w h cd wn mn kn ik so ks rs lf (uI K.1 ((20 * y) + x).toNat z, K.2.1, K.2.2.1 + 1, K.2.2.2.1 + (((zab (x - K.2.2.2.2.1)) + (zab (y - K.2.2.2.2.2.1))) + (zab (z - K.2.2.2.2.2.2))), x, K.2.2.2.2.2.1, K.2.2.2.2.2.2)) := hD
      refine lv_aload_n hx hb dX3_move3_123 rfl (lv_at hl 0 rfl) ?_
      refine lv_iload_n hx hb dX3_move3_124 rfl (lv_at hl 2 rfl) ?_
      refine va_put (D := (dC, dI)) (ci := 3) (v := .int (iI y)) (ty := .int) (C := RX3) (T := TX3) (N := 18) hx hb hts inX3 tyX3 tyX3_ok nmX3 hown hK hP hD hS 0 rfl rfl 16 (by decide) (hts _ wm_419) (fun _ h9 => h9) rfl (by decide +kernel) rfl rfl (Nat.le_of_ble_eq_true rfl) dX3_move3_125 (fun H locs hP hD hS => ?_)
      have hP : va_P (dC, dI) vwCl (mdW b cB w h cd wn mn kn ik so ks rs lf (uI K.1 ((20 * y) + x).toNat z, K.2.1, K.2.2.1 + 1, K.2.2.2.1 + (((zab (x - K.2.2.2.2.1)) + (zab (y - K.2.2.2.2.2.1))) + (zab (z - K.2.2.2.2.2.2))), x, y, K.2.2.2.2.2.2)) H := hP
      have hD : va_D A (mdW b cB w h cd wn mn kn ik so ks rs lf (uI K.1 ((20 * y) + x).toNat z, K.2.1, K.2.2.1 + 1, K.2.2.2.1 + (((zab (x - K.2.2.2.2.1)) + (zab (y - K.2.2.2.2.2.1))) + (zab (z - K.2.2.2.2.2.2))), x, y, K.2.2.2.2.2.2)) := hD
      refine lv_aload_n hx hb dX3_move3_128 rfl (lv_at hl 0 rfl) ?_
      refine lv_iload_n hx hb dX3_move3_129 rfl (lv_at hl 3 rfl) ?_
      refine va_put (D := (dC, dI)) (ci := 3) (v := .int (iI z)) (ty := .int) (C := RX3) (T := TX3) (N := 18) hx hb hts inX3 tyX3 tyX3_ok nmX3 hown hK hP hD hS 0 rfl rfl 17 (by decide) (hts _ wm_420) (fun _ h9 => h9) rfl (by decide +kernel) rfl rfl (Nat.le_of_ble_eq_true rfl) dX3_move3_130 (fun H locs hP hD hS => ?_)
      have hP : va_P (dC, dI) vwCl (mdW b cB w h cd wn mn kn ik so ks rs lf (uI K.1 ((20 * y) + x).toNat z, K.2.1, K.2.2.1 + 1, K.2.2.2.1 + (((zab (x - K.2.2.2.2.1)) + (zab (y - K.2.2.2.2.2.1))) + (zab (z - K.2.2.2.2.2.2))), x, y, z)) H := hP
      have hD : va_D A (mdW b cB w h cd wn mn kn ik so ks rs lf (uI K.1 ((20 * y) + x).toNat z, K.2.1, K.2.2.1 + 1, K.2.2.2.1 + (((zab (x - K.2.2.2.2.1)) + (zab (y - K.2.2.2.2.2.1))) + (zab (z - K.2.2.2.2.2.2))), x, y, z)) := hD
      subst hAe
      rw [show mkA x y z K = (uI K.1 ((20 * y) + x).toNat z, K.2.1, K.2.2.1 + 1, K.2.2.2.1 + (((zab (x - K.2.2.2.2.1)) + (zab (y - K.2.2.2.2.2.1))) + (zab (z - K.2.2.2.2.2.2))), x, y, z) from by first | (exfalso; omega) | (unfold mkA; rw [if_pos (show K.2.2.1 < 2000 by omega), if_pos (show 0 < K.2.2.1 by omega)]) | (unfold mkA; rw [if_pos (show K.2.2.1 < 2000 by omega), if_neg (show ¬ 0 < K.2.2.1 by omega)]) | (unfold mkA; rw [if_neg (show ¬ K.2.2.1 < 2000 by omega), if_pos (show 0 < K.2.2.1 by omega)]) | (unfold mkA; rw [if_neg (show ¬ K.2.2.1 < 2000 by omega), if_neg (show ¬ 0 < K.2.2.1 by omega)])]
      exact z_vret hx hb hr hlocks hP hK hD hS (trivial) dX3_move3_133
    · refine lv_aload_n hx hb dX3_move3_68 rfl (lv_at hl 0 rfl) ?_
      refine va_get (D := (dC, dI)) (ci := 3) (v := .ref (b 8)) (C := RX3) (T := TX3) (N := 18) hx hb hts inX3 hown hK hP 0 rfl rfl 13 (by decide) (hts _ wm_416) (fun _ h9 => h9) rfl dX3_move3_69 ?_
      refine lv_iconst (v := iI 3) hx hb dX3_move3_72 rfl ?_
      refine lv_aload_n hx hb dX3_move3_73 rfl (lv_at hl 0 rfl) ?_
      refine va_get (D := (dC, dI)) (ci := 3) (v := .int (iI K.2.2.1)) (C := RX3) (T := TX3) (N := 18) hx hb hts inX3 hown hK hP 0 rfl rfl 12 (by decide) (hts _ wm_415) (fun _ h9 => h9) rfl dX3_move3_74 ?_
      refine z_mul hx hb dX3_move3_77 ?_
      refine lv_iload_n hx hb dX3_move3_78 rfl (lv_at hl 1 rfl) ?_
      refine z_iast (f := K.2.1) (i := 3 * K.2.2.1) (x := x) hx hb hK hP hD hS 8 7 rfl rfl (by omega) (by decide) dX3_move3_79 (fun H locs hP hD hS => ?_)
      have hP : va_P (dC, dI) vwCl (mdW b cB w h cd wn mn kn ik so ks rs lf (uI K.1 ((20 * y) + x).toNat z, uI K.2.1 (3 * K.2.2.1).toNat x, K.2.2.1, K.2.2.2.1 + (((zab (x - K.2.2.2.2.1)) + (zab (y - K.2.2.2.2.2.1))) + (zab (z - K.2.2.2.2.2.2))), K.2.2.2.2.1, K.2.2.2.2.2.1, K.2.2.2.2.2.2)) H := hP
      have hD : va_D A (mdW b cB w h cd wn mn kn ik so ks rs lf (uI K.1 ((20 * y) + x).toNat z, uI K.2.1 (3 * K.2.2.1).toNat x, K.2.2.1, K.2.2.2.1 + (((zab (x - K.2.2.2.2.1)) + (zab (y - K.2.2.2.2.2.1))) + (zab (z - K.2.2.2.2.2.2))), K.2.2.2.2.1, K.2.2.2.2.2.1, K.2.2.2.2.2.2)) := hD
      refine lv_aload_n hx hb dX3_move3_80 rfl (lv_at hl 0 rfl) ?_
      refine va_get (D := (dC, dI)) (ci := 3) (v := .ref (b 8)) (C := RX3) (T := TX3) (N := 18) hx hb hts inX3 hown hK hP 0 rfl rfl 13 (by decide) (hts _ wm_416) (fun _ h9 => h9) rfl dX3_move3_81 ?_
      refine lv_iconst (v := iI 3) hx hb dX3_move3_84 rfl ?_
      refine lv_aload_n hx hb dX3_move3_85 rfl (lv_at hl 0 rfl) ?_
      refine va_get (D := (dC, dI)) (ci := 3) (v := .int (iI K.2.2.1)) (C := RX3) (T := TX3) (N := 18) hx hb hts inX3 hown hK hP 0 rfl rfl 12 (by decide) (hts _ wm_415) (fun _ h9 => h9) rfl dX3_move3_86 ?_
      refine z_mul hx hb dX3_move3_89 ?_
      refine lv_iconst (v := iI 1) hx hb dX3_move3_90 rfl ?_
      refine z_add hx hb dX3_move3_91 ?_
      refine lv_iload_n hx hb dX3_move3_92 rfl (lv_at hl 2 rfl) ?_
      refine z_iast (f := uI K.2.1 (3 * K.2.2.1).toNat x) (i := (3 * K.2.2.1) + 1) (x := y) hx hb hK hP hD hS 8 7 rfl rfl (by omega) (by decide) dX3_move3_93 (fun H locs hP hD hS => ?_)
      have hP : va_P (dC, dI) vwCl (mdW b cB w h cd wn mn kn ik so ks rs lf (uI K.1 ((20 * y) + x).toNat z, uI (uI K.2.1 (3 * K.2.2.1).toNat x) ((3 * K.2.2.1) + 1).toNat y, K.2.2.1, K.2.2.2.1 + (((zab (x - K.2.2.2.2.1)) + (zab (y - K.2.2.2.2.2.1))) + (zab (z - K.2.2.2.2.2.2))), K.2.2.2.2.1, K.2.2.2.2.2.1, K.2.2.2.2.2.2)) H := hP
      have hD : va_D A (mdW b cB w h cd wn mn kn ik so ks rs lf (uI K.1 ((20 * y) + x).toNat z, uI (uI K.2.1 (3 * K.2.2.1).toNat x) ((3 * K.2.2.1) + 1).toNat y, K.2.2.1, K.2.2.2.1 + (((zab (x - K.2.2.2.2.1)) + (zab (y - K.2.2.2.2.2.1))) + (zab (z - K.2.2.2.2.2.2))), K.2.2.2.2.1, K.2.2.2.2.2.1, K.2.2.2.2.2.2)) := hD
      refine lv_aload_n hx hb dX3_move3_94 rfl (lv_at hl 0 rfl) ?_
      refine va_get (D := (dC, dI)) (ci := 3) (v := .ref (b 8)) (C := RX3) (T := TX3) (N := 18) hx hb hts inX3 hown hK hP 0 rfl rfl 13 (by decide) (hts _ wm_416) (fun _ h9 => h9) rfl dX3_move3_95 ?_
      refine lv_iconst (v := iI 3) hx hb dX3_move3_98 rfl ?_
      refine lv_aload_n hx hb dX3_move3_99 rfl (lv_at hl 0 rfl) ?_
      refine va_get (D := (dC, dI)) (ci := 3) (v := .int (iI K.2.2.1)) (C := RX3) (T := TX3) (N := 18) hx hb hts inX3 hown hK hP 0 rfl rfl 12 (by decide) (hts _ wm_415) (fun _ h9 => h9) rfl dX3_move3_100 ?_
      refine z_mul hx hb dX3_move3_103 ?_
      refine lv_iconst (v := iI 2) hx hb dX3_move3_104 rfl ?_
      refine z_add hx hb dX3_move3_105 ?_
      refine lv_iload_n hx hb dX3_move3_106 rfl (lv_at hl 3 rfl) ?_
      refine z_iast (f := uI (uI K.2.1 (3 * K.2.2.1).toNat x) ((3 * K.2.2.1) + 1).toNat y) (i := (3 * K.2.2.1) + 2) (x := z) hx hb hK hP hD hS 8 7 rfl rfl (by omega) (by decide) dX3_move3_107 (fun H locs hP hD hS => ?_)
      have hP : va_P (dC, dI) vwCl (mdW b cB w h cd wn mn kn ik so ks rs lf (uI K.1 ((20 * y) + x).toNat z, uI (uI (uI K.2.1 (3 * K.2.2.1).toNat x) ((3 * K.2.2.1) + 1).toNat y) ((3 * K.2.2.1) + 2).toNat z, K.2.2.1, K.2.2.2.1 + (((zab (x - K.2.2.2.2.1)) + (zab (y - K.2.2.2.2.2.1))) + (zab (z - K.2.2.2.2.2.2))), K.2.2.2.2.1, K.2.2.2.2.2.1, K.2.2.2.2.2.2)) H := hP
      have hD : va_D A (mdW b cB w h cd wn mn kn ik so ks rs lf (uI K.1 ((20 * y) + x).toNat z, uI (uI (uI K.2.1 (3 * K.2.2.1).toNat x) ((3 * K.2.2.1) + 1).toNat y) ((3 * K.2.2.1) + 2).toNat z, K.2.2.1, K.2.2.2.1 + (((zab (x - K.2.2.2.2.1)) + (zab (y - K.2.2.2.2.2.1))) + (zab (z - K.2.2.2.2.2.2))), K.2.2.2.2.1, K.2.2.2.2.2.1, K.2.2.2.2.2.2)) := hD
      refine lv_aload_n hx hb dX3_move3_108 rfl (lv_at hl 0 rfl) ?_
      refine lv_dup hx hb dX3_move3_109 rfl ?_
      refine va_get (D := (dC, dI)) (ci := 3) (v := .int (iI K.2.2.1)) (C := RX3) (T := TX3) (N := 18) hx hb hts inX3 hown hK hP 0 rfl rfl 12 (by decide) (hts _ wm_415) (fun _ h9 => h9) rfl dX3_move3_110 ?_
      refine lv_iconst (v := iI 1) hx hb dX3_move3_113 rfl ?_
      refine z_add hx hb dX3_move3_114 ?_
      refine va_put (D := (dC, dI)) (ci := 3) (v := .int (iI (K.2.2.1 + 1))) (ty := .int) (C := RX3) (T := TX3) (N := 18) hx hb hts inX3 tyX3 tyX3_ok nmX3 hown hK hP hD hS 0 rfl rfl 12 (by decide) (hts _ wm_415) (fun _ h9 => h9) rfl (by decide +kernel) rfl rfl (Nat.le_of_ble_eq_true rfl) dX3_move3_115 (fun H locs hP hD hS => ?_)
      have hP : va_P (dC, dI) vwCl (mdW b cB w h cd wn mn kn ik so ks rs lf (uI K.1 ((20 * y) + x).toNat z, uI (uI (uI K.2.1 (3 * K.2.2.1).toNat x) ((3 * K.2.2.1) + 1).toNat y) ((3 * K.2.2.1) + 2).toNat z, K.2.2.1 + 1, K.2.2.2.1 + (((zab (x - K.2.2.2.2.1)) + (zab (y - K.2.2.2.2.2.1))) + (zab (z - K.2.2.2.2.2.2))), K.2.2.2.2.1, K.2.2.2.2.2.1, K.2.2.2.2.2.2)) H := hP
      have hD : va_D A (mdW b cB w h cd wn mn kn ik so ks rs lf (uI K.1 ((20 * y) + x).toNat z, uI (uI (uI K.2.1 (3 * K.2.2.1).toNat x) ((3 * K.2.2.1) + 1).toNat y) ((3 * K.2.2.1) + 2).toNat z, K.2.2.1 + 1, K.2.2.2.1 + (((zab (x - K.2.2.2.2.1)) + (zab (y - K.2.2.2.2.2.1))) + (zab (z - K.2.2.2.2.2.2))), K.2.2.2.2.1, K.2.2.2.2.2.1, K.2.2.2.2.2.2)) := hD
      refine lv_aload_n hx hb dX3_move3_118 rfl (lv_at hl 0 rfl) ?_
      refine lv_iload_n hx hb dX3_move3_119 rfl (lv_at hl 1 rfl) ?_
      refine va_put (D := (dC, dI)) (ci := 3) (v := .int (iI x)) (ty := .int) (C := RX3) (T := TX3) (N := 18) hx hb hts inX3 tyX3 tyX3_ok nmX3 hown hK hP hD hS 0 rfl rfl 15 (by decide) (hts _ wm_418) (fun _ h9 => h9) rfl (by decide +kernel) rfl rfl (Nat.le_of_ble_eq_true rfl) dX3_move3_120 (fun H locs hP hD hS => ?_)
      have hP : va_P (dC, dI) vwCl (mdW b cB w h cd wn mn kn ik so ks rs lf (uI K.1 ((20 * y) + x).toNat z, uI (uI (uI K.2.1 (3 * K.2.2.1).toNat x) ((3 * K.2.2.1) + 1).toNat y) ((3 * K.2.2.1) + 2).toNat z, K.2.2.1 + 1, K.2.2.2.1 + (((zab (x - K.2.2.2.2.1)) + (zab (y - K.2.2.2.2.2.1))) + (zab (z - K.2.2.2.2.2.2))), x, K.2.2.2.2.2.1, K.2.2.2.2.2.2)) H := hP
      have hD : va_D A (mdW b cB w h cd wn mn kn ik so ks rs lf (uI K.1 ((20 * y) + x).toNat z, uI (uI (uI K.2.1 (3 * K.2.2.1).toNat x) ((3 * K.2.2.1) + 1).toNat y) ((3 * K.2.2.1) + 2).toNat z, K.2.2.1 + 1, K.2.2.2.1 + (((zab (x - K.2.2.2.2.1)) + (zab (y - K.2.2.2.2.2.1))) + (zab (z - K.2.2.2.2.2.2))), x, K.2.2.2.2.2.1, K.2.2.2.2.2.2)) := hD
      refine lv_aload_n hx hb dX3_move3_123 rfl (lv_at hl 0 rfl) ?_
      refine lv_iload_n hx hb dX3_move3_124 rfl (lv_at hl 2 rfl) ?_
      refine va_put (D := (dC, dI)) (ci := 3) (v := .int (iI y)) (ty := .int) (C := RX3) (T := TX3) (N := 18) hx hb hts inX3 tyX3 tyX3_ok nmX3 hown hK hP hD hS 0 rfl rfl 16 (by decide) (hts _ wm_419) (fun _ h9 => h9) rfl (by decide +kernel) rfl rfl (Nat.le_of_ble_eq_true rfl) dX3_move3_125 (fun H locs hP hD hS => ?_)
      have hP : va_P (dC, dI) vwCl (mdW b cB w h cd wn mn kn ik so ks rs lf (uI K.1 ((20 * y) + x).toNat z, uI (uI (uI K.2.1 (3 * K.2.2.1).toNat x) ((3 * K.2.2.1) + 1).toNat y) ((3 * K.2.2.1) + 2).toNat z, K.2.2.1 + 1, K.2.2.2.1 + (((zab (x - K.2.2.2.2.1)) + (zab (y - K.2.2.2.2.2.1))) + (zab (z - K.2.2.2.2.2.2))), x, y, K.2.2.2.2.2.2)) H := hP
      have hD : va_D A (mdW b cB w h cd wn mn kn ik so ks rs lf (uI K.1 ((20 * y) + x).toNat z, uI (uI (uI K.2.1 (3 * K.2.2.1).toNat x) ((3 * K.2.2.1) + 1).toNat y) ((3 * K.2.2.1) + 2).toNat z, K.2.2.1 + 1, K.2.2.2.1 + (((zab (x - K.2.2.2.2.1)) + (zab (y - K.2.2.2.2.2.1))) + (zab (z - K.2.2.2.2.2.2))), x, y, K.2.2.2.2.2.2)) := hD
      refine lv_aload_n hx hb dX3_move3_128 rfl (lv_at hl 0 rfl) ?_
      refine lv_iload_n hx hb dX3_move3_129 rfl (lv_at hl 3 rfl) ?_
      refine va_put (D := (dC, dI)) (ci := 3) (v := .int (iI z)) (ty := .int) (C := RX3) (T := TX3) (N := 18) hx hb hts inX3 tyX3 tyX3_ok nmX3 hown hK hP hD hS 0 rfl rfl 17 (by decide) (hts _ wm_420) (fun _ h9 => h9) rfl (by decide +kernel) rfl rfl (Nat.le_of_ble_eq_true rfl) dX3_move3_130 (fun H locs hP hD hS => ?_)
      have hP : va_P (dC, dI) vwCl (mdW b cB w h cd wn mn kn ik so ks rs lf (uI K.1 ((20 * y) + x).toNat z, uI (uI (uI K.2.1 (3 * K.2.2.1).toNat x) ((3 * K.2.2.1) + 1).toNat y) ((3 * K.2.2.1) + 2).toNat z, K.2.2.1 + 1, K.2.2.2.1 + (((zab (x - K.2.2.2.2.1)) + (zab (y - K.2.2.2.2.2.1))) + (zab (z - K.2.2.2.2.2.2))), x, y, z)) H := hP
      have hD : va_D A (mdW b cB w h cd wn mn kn ik so ks rs lf (uI K.1 ((20 * y) + x).toNat z, uI (uI (uI K.2.1 (3 * K.2.2.1).toNat x) ((3 * K.2.2.1) + 1).toNat y) ((3 * K.2.2.1) + 2).toNat z, K.2.2.1 + 1, K.2.2.2.1 + (((zab (x - K.2.2.2.2.1)) + (zab (y - K.2.2.2.2.2.1))) + (zab (z - K.2.2.2.2.2.2))), x, y, z)) := hD
      subst hAe
      rw [show mkA x y z K = (uI K.1 ((20 * y) + x).toNat z, uI (uI (uI K.2.1 (3 * K.2.2.1).toNat x) ((3 * K.2.2.1) + 1).toNat y) ((3 * K.2.2.1) + 2).toNat z, K.2.2.1 + 1, K.2.2.2.1 + (((zab (x - K.2.2.2.2.1)) + (zab (y - K.2.2.2.2.2.1))) + (zab (z - K.2.2.2.2.2.2))), x, y, z) from by first | (exfalso; omega) | (unfold mkA; rw [if_pos (show K.2.2.1 < 2000 by omega), if_pos (show 0 < K.2.2.1 by omega)]) | (unfold mkA; rw [if_pos (show K.2.2.1 < 2000 by omega), if_neg (show ¬ 0 < K.2.2.1 by omega)]) | (unfold mkA; rw [if_neg (show ¬ K.2.2.1 < 2000 by omega), if_pos (show 0 < K.2.2.1 by omega)]) | (unfold mkA; rw [if_neg (show ¬ K.2.2.1 < 2000 by omega), if_neg (show ¬ 0 < K.2.2.1 by omega)])]
      exact z_vret hx hb hr hlocks hP hK hD hS (trivial) dX3_move3_133
