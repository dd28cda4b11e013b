abbrev r_X2_placeAt : Room := { frames := 0, cells := 0, slots := 0, locals := 0 }
set_option maxHeartbeats 4000000 in
set_option maxRecDepth 100000 in
theorem c_X2_placeAt (l : Launch) (dC : Nat → ClassId) (dI : Nat → Nat → Nat) (sz : Nat) (a : Nat → Nat) (cA : Nat → ClassId) (w h : Nat) (wa ma ka li : Nat → Int) (hk sh : Int) (T : TK) (kd rd : Nat → Int) (dp : Nat → Nat → Int) (x y : Int) : Met l yX2_placeAt wsX2_placeAt r_X2_placeAt (zP (dC, dI) vwCl (rpT cA) (rpW a cA w h wa ma ka li hk sh T kd rd dp) sz [.ref (a 0), .int (iI x), .int (iI y)]) (zQi (dC, dI) vwCl (rpT cA) (rpW a cA w h wa ma ka li hk sh T kd rd dp) sz (True) (y * (w : Int) + x) (rpW a cA w h wa ma ka li hk sh T kd rd dp)) 0 0 (va_A (rpW a cA w h wa ma ka li hk sh T kd rd dp) sz) := by
  refine Met.ofW (cc := cX2_placeAt) (maxL := 3) (ret := (some .int)) (by decide) rfl ?_
  intro p e s m args below meth c s₁ B hml hv
  obtain ⟨rfl, hsz, hP, hK, hD0, hZ⟩ := hv
  have hx := B.exec
  have hb := B.bytes
  have hr := B.returns
  have hts0 := atoms_spec (ws := wsX2_placeAt) B.pre
  have hts : ∀ w ∈ wsAll, w.before _ s = true := fun w h => hts0 w (List.mem_cons_of_mem _ h)
  have hown : s.vm.findClass RX2 = some m.cls := findClass_of_methodNamed B.named
  have hlocks := B.notSynchronized
  subst hsz
  have hD := hD0.self (sz := s.heap.size)
  obtain ⟨A, hAe⟩ : ∃ A, A = va_A (rpW a cA w h wa ma ka li hk sh T kd rd dp) s.heap.size := ⟨_, rfl⟩
  rw [← hAe] at hD hZ
  have hA : ∀ q : Nat, s.heap.size ≤ q → A q := fun q h => by rw [hAe]; exact Or.inr h
  have hS : va_S A s.heap s.heap [] := va_S.rf
  have hP : va_P (dC, dI) vwCl (rpW a cA w h wa ma ka li hk sh T kd rd dp) s.heap := hP
  have hl := lv_entry ([.ref (a 0), .int (iI x), .int (iI y)]) (n := 3) (Nat.le_of_ble_eq_true rfl)
  rw [lg_entry_eq]
  generalize (lg_sl ([.ref (a 0), .int (iI x), .int (iI y)]) ++ List.replicate (3 - (lg_sl ([.ref (a 0), .int (iI x), .int (iI y)])).length) Slot.unset).toArray = ls at hl ⊢
  have hl : lv_has ls 3 [(0, .ref (a 0)), (1, .int (iI x)), (2, .int (iI y))] := hl
  refine lv_iload_n hx hb dX2_placeAt_0 rfl (lv_at hl 2 rfl) ?_
  refine lv_aload_n hx hb dX2_placeAt_1 rfl (lv_at hl 0 rfl) ?_
  refine va_get (D := (dC, dI)) (ci := 2) (v := .int (iI (w : Int))) (C := RX2) (T := TX2) (N := 10) hx hb hts inX2 hown hK hP 0 rfl rfl 0 (by decide) (hts _ wm_171) (fun _ h9 => h9) rfl dX2_placeAt_2 ?_
  refine z_mul hx hb dX2_placeAt_5 ?_
  refine lv_iload_n hx hb dX2_placeAt_6 rfl (lv_at hl 1 rfl) ?_
  refine z_add hx hb dX2_placeAt_7 ?_
  subst hAe
  refine z_top (b := y * (w : Int) + x) (rfl) ?_
  exact z_iret hx hb hr hlocks hP hK hD hS (trivial) dX2_placeAt_8
abbrev r_X2_leftAt : Room := { frames := 0, cells := 0, slots := 0, locals := 0 }
set_option maxHeartbeats 4000000 in
set_option maxRecDepth 100000 in
theorem c_X2_leftAt (l : Launch) (dC : Nat → ClassId) (dI : Nat → Nat → Nat) (sz : Nat) (a : Nat → Nat) (cA : Nat → ClassId) (w h : Nat) (wa ma ka li : Nat → Int) (hk sh : Int) (T : TK) (kd rd : Nat → Int) (dp : Nat → Nat → Int) (k : Int) (hw : 1 ≤ w ∧ w ≤ 20) (hh : 1 ≤ h ∧ h ≤ 20) (hk0 : 0 ≤ k ∧ k < ((w * h : Nat) : Int)) : Met l yX2_leftAt wsX2_leftAt r_X2_leftAt (zP (dC, dI) vwCl (rpT cA) (rpW a cA w h wa ma ka li hk sh T kd rd dp) sz [.ref (a 0), .int (iI k)]) (zQi (dC, dI) vwCl (rpT cA) (rpW a cA w h wa ma ka li hk sh T kd rd dp) sz (True) (ma k.toNat - wa k.toNat) (rpW a cA w h wa ma ka li hk sh T kd rd dp)) 0 0 (va_A (rpW a cA w h wa ma ka li hk sh T kd rd dp) sz) := by
  refine Met.ofW (cc := cX2_leftAt) (maxL := 2) (ret := (some .int)) (by decide) rfl ?_
  intro p e s m args below meth c s₁ B hml hv
  obtain ⟨rfl, hsz, hP, hK, hD0, hZ⟩ := hv
  have hx := B.exec
  have hb := B.bytes
  have hr := B.returns
  have hts0 := atoms_spec (ws := wsX2_leftAt) B.pre
  have hts : ∀ w ∈ wsAll, w.before _ s = true := fun w h => hts0 w (List.mem_cons_of_mem _ h)
  have hown : s.vm.findClass RX2 = some m.cls := findClass_of_methodNamed B.named
  have hlocks := B.notSynchronized
  subst hsz
  have hD := hD0.self (sz := s.heap.size)
  obtain ⟨A, hAe⟩ : ∃ A, A = va_A (rpW a cA w h wa ma ka li hk sh T kd rd dp) s.heap.size := ⟨_, rfl⟩
  rw [← hAe] at hD hZ
  have hA : ∀ q : Nat, s.heap.size ≤ q → A q := fun q h => by rw [hAe]; exact Or.inr h
  have hS : va_S A s.heap s.heap [] := va_S.rf
  have hP : va_P (dC, dI) vwCl (rpW a cA w h wa ma ka li hk sh T kd rd dp) s.heap := hP
  have hl := lv_entry ([.ref (a 0), .int (iI k)]) (n := 2) (Nat.le_of_ble_eq_true rfl)
  rw [lg_entry_eq]
  generalize (lg_sl ([.ref (a 0), .int (iI k)]) ++ List.replicate (2 - (lg_sl ([.ref (a 0), .int (iI k)])).length) Slot.unset).toArray = ls at hl ⊢
  have hl : lv_has ls 2 [(0, .ref (a 0)), (1, .int (iI k))] := hl
  have hwh := z_wh hw.2 hh.2
  refine lv_aload_n hx hb dX2_leftAt_0 rfl (lv_at hl 0 rfl) ?_
  refine va_get (D := (dC, dI)) (ci := 2) (v := .ref (a 2)) (C := RX2) (T := TX2) (N := 10) hx hb hts inX2 hown hK hP 0 rfl rfl 3 (by decide) (hts _ wm_174) (fun _ h9 => h9) rfl dX2_leftAt_1 ?_
  refine lv_iload_n hx hb dX2_leftAt_4 rfl (lv_at hl 1 rfl) ?_
  refine z_iald (f := ma) (i := k) hx hb hK hP 2 1 rfl rfl (hk0) (by omega) dX2_leftAt_5 ?_
  refine lv_aload_n hx hb dX2_leftAt_6 rfl (lv_at hl 0 rfl) ?_
  refine va_get (D := (dC, dI)) (ci := 2) (v := .ref (a 1)) (C := RX2) (T := TX2) (N := 10) hx hb hts inX2 hown hK hP 0 rfl rfl 2 (by decide) (hts _ wm_173) (fun _ h9 => h9) rfl dX2_leftAt_7 ?_
  refine lv_iload_n hx hb dX2_leftAt_10 rfl (lv_at hl 1 rfl) ?_
  refine z_iald (f := wa) (i := k) hx hb hK hP 1 0 rfl rfl (hk0) (by omega) dX2_leftAt_11 ?_
  refine z_sub hx hb dX2_leftAt_12 ?_
  subst hAe
  refine z_top (b := ma k.toNat - wa k.toNat) (rfl) ?_
  exact z_iret hx hb hr hlocks hP hK hD hS (trivial) dX2_leftAt_13
abbrev r_X2_setWanted : Room := { frames := 0, cells := 0, slots := 0, locals := 0 }
set_option maxHeartbeats 4000000 in
set_option maxRecDepth 100000 in
theorem c_X2_setWanted (l : Launch) (dC : Nat → ClassId) (dI : Nat → Nat → Nat) (sz : Nat) (a : Nat → Nat) (cA : Nat → ClassId) (w h : Nat) (wa ma ka li : Nat → Int) (hk sh : Int) (T : TK) (kd rd : Nat → Int) (dp : Nat → Nat → Int) (k v : Int) (hw : 1 ≤ w ∧ w ≤ 20) (hh : 1 ≤ h ∧ h ≤ 20) (hk0 : 0 ≤ k ∧ k < ((w * h : Nat) : Int)) (hv : rg v) (hwa : rg (wa k.toNat)) : Met l yX2_setWanted wsX2_setWanted r_X2_setWanted (zP (dC, dI) vwCl (rpT cA) (rpW a cA w h wa ma ka li hk sh T kd rd dp) sz [.ref (a 0), .int (iI k), .int (iI v)]) (zQi (dC, dI) vwCl (rpT cA) (rpW a cA w h wa ma ka li hk sh T kd rd dp) sz (True) (if wa k.toNat = v then 0 else 1) (rpW a cA w h (uI wa k.toNat v) ma ka li hk sh T kd rd dp)) 0 0 (va_A (rpW a cA w h wa ma ka li hk sh T kd rd dp) sz) := by
  refine Met.ofW (cc := cX2_setWanted) (maxL := 4) (ret := (some .boolean)) (by decide) rfl ?_
  intro p e s m args below meth c s₁ B hml hv
  obtain ⟨rfl, hsz, hP, hK, hD0, hZ⟩ := hv
  have hx := B.exec
  have hb := B.bytes
  have hr := B.returns
  have hts0 := atoms_spec (ws := wsX2_setWanted) B.pre
  have hts : ∀ w ∈ wsAll, w.before _ s = true := fun w h => hts0 w (List.mem_cons_of_mem _ h)
  have hown : s.vm.findClass RX2 = some m.cls := findClass_of_methodNamed B.named
  have hlocks := B.notSynchronized
  subst hsz
  have hD := hD0.self (sz := s.heap.size)
  obtain ⟨A, hAe⟩ : ∃ A, A = va_A (rpW a cA w h wa ma ka li hk sh T kd rd dp) s.heap.size := ⟨_, rfl⟩
  rw [← hAe] at hD hZ
  have hA : ∀ q : Nat, s.heap.size ≤ q → A q := fun q h => by rw [hAe]; exact Or.inr h
  have hS : va_S A s.heap s.heap [] := va_S.rf
  have hP : va_P (dC, dI) vwCl (rpW a cA w h wa ma ka li hk sh T kd rd dp) s.heap := hP
  have hl := lv_entry ([.ref (a 0), .int (iI k), .int (iI v)]) (n := 4) (Nat.le_of_ble_eq_true rfl)
  rw [lg_entry_eq]
  generalize (lg_sl ([.ref (a 0), .int (iI k), .int (iI v)]) ++ List.replicate (4 - (lg_sl ([.ref (a 0), .int (iI k), .int (iI v)])).length) Slot.unset).toArray = ls at hl ⊢
  have hl : lv_has ls 4 [(0, .ref (a 0)), (1, .int (iI k)), (2, .int (iI v))] := hl
  have hwh := z_wh hw.2 hh.2
  refine lv_aload_n hx hb dX2_setWanted_0 rfl (lv_at hl 0 rfl) ?_
  refine va_get (D := (dC, dI)) (ci := 2) (v := .ref (a 1)) (C := RX2) (T := TX2) (N := 10) hx hb hts inX2 hown hK hP 0 rfl rfl 2 (by decide) (hts _ wm_173) (fun _ h9 => h9) rfl dX2_setWanted_1 ?_
  refine lv_iload_n hx hb dX2_setWanted_4 rfl (lv_at hl 1 rfl) ?_
  refine z_iald (f := wa) (i := k) hx hb hK hP 1 0 rfl rfl (hk0) (by omega) dX2_setWanted_5 ?_
  refine lv_iload_n hx hb dX2_setWanted_6 rfl (lv_at hl 2 rfl) ?_
  refine z_join (g0 := F0 m 15 ls [.int (iI (if wa k.toNat = v then 0 else 1))]) ?_ (fun J15 => ?_)
  · refine lv_istore_n (lv' := [(3, .int (iI (if wa k.toNat = v then 0 else 1))), (0, .ref (a 0)), (1, .int (iI k)), (2, .int (iI v))]) hx hb dX2_setWanted_15 rfl hl (by decide) rfl (fun ls hl => ?_)
    refine lv_aload_n hx hb dX2_setWanted_16 rfl (lv_at hl 1 rfl) ?_
    refine va_get (D := (dC, dI)) (ci := 2) (v := .ref (a 1)) (C := RX2) (T := TX2) (N := 10) hx hb hts inX2 hown hK hP 0 rfl rfl 2 (by decide) (hts _ wm_173) (fun _ h9 => h9) rfl dX2_setWanted_17 ?_
    refine lv_iload_n hx hb dX2_setWanted_20 rfl (lv_at hl 2 rfl) ?_
    refine lv_iload_n hx hb dX2_setWanted_21 rfl (lv_at hl 3 rfl) ?_
    refine z_iast (f := wa) (i := k) (x := v) hx hb hK hP hD hS 1 0 rfl rfl (hk0) (by omega) dX2_setWanted_22 (fun H locs hP hD hS => ?_)
    have hP : va_P (dC, dI) vwCl (rpW a cA w h (uI wa (k).toNat v) ma ka li hk sh T kd rd dp) H := hP
    have hD : va_D A (rpW a cA w h (uI wa (k).toNat v) ma ka li hk sh T kd rd dp) := hD
    refine lv_iload_n hx hb dX2_setWanted_23 rfl (lv_at hl 0 rfl) ?_
    subst hAe
    exact z_zret hx hb hr hlocks (by split <;> omega) hP hK hD hS (trivial) dX2_setWanted_24
  · refine z_icmp_eq (tgt := 14) hx hb dX2_setWanted_7 (by decide) (by omega) (by omega) (fun c7 => ?_) (fun c7 => ?_)
    · refine lv_iconst (v := iI 0) hx hb dX2_setWanted_14 rfl ?_
      exact z_top (b := if wa k.toNat = v then 0 else 1) (by (repeat' split) <;> omega) J15
    · refine lv_iconst (v := iI 1) hx hb dX2_setWanted_10 rfl ?_
      refine lv_goto (tgt := 15) hx hb dX2_setWanted_11 (by decide) ?_
      exact z_top (b := if wa k.toNat = v then 0 else 1) (by (repeat' split) <;> omega) J15
theorem g_X2_9 : GoodIn wsAll (va_wsS RX2 9 yX2_nearest wsX2_nearest) := z_good (show ∀ w ∈ (Cond.methodLink RX2 9 yX2_nearest :: Cond.static yX2_nearest :: Cond.initialized RX2 :: Cond.code yX2_nearest prog_1_method_22_code 3 (some .int) :: wsAll), w ∈ wsAll from List.forall_mem_cons.mpr ⟨wm_121, List.forall_mem_cons.mpr ⟨wm_122, List.forall_mem_cons.mpr ⟨wm_109, List.forall_mem_cons.mpr ⟨wm_123, fun _ h => h⟩⟩⟩⟩)
abbrev r_X2_merged : Room := { frames := 2, cells := 0, slots := 0, locals := 46 }
set_option maxHeartbeats 4000000 in
set_option maxRecDepth 100000 in
theorem c_X2_merged (l : Launch) (dC : Nat → ClassId) (dI : Nat → Nat → Nat) (sz : Nat) (u b d v : Int) (h1 : rg u) (h2 : 0 ≤ b ∧ b ≤ 1000) (h3 : 0 ≤ d ∧ d ≤ 1000) (h4 : 0 ≤ v ∧ v ≤ 1000) : Met l yX2_merged wsX2_merged r_X2_merged (zP (dC, dI) vwCl ([]) ([]) sz [.int (iI u), .int (iI b), .int (iI d), .int (iI v)]) (zQi (dC, dI) vwCl ([]) ([]) sz (True) (mgF u b d v) ([])) 0 0 (va_A ([]) sz) := by
  refine Met.ofW (cc := cX2_merged) (maxL := 4) (ret := (some .int)) (by decide) rfl ?_
  intro p e s m args below meth c s₁ B hml hv
  obtain ⟨rfl, hsz, hP, hK, hD0, hZ⟩ := hv
  have hx := B.exec
  have hb := B.bytes
  have hr := B.returns
  have hts0 := atoms_spec (ws := wsX2_merged) B.pre
  have hts : ∀ w ∈ wsAll, w.before _ s = true := fun w h => hts0 w (List.mem_cons_of_mem _ h)
  have hown : s.vm.findClass RX2 = some m.cls := findClass_of_methodNamed B.named
  have hlocks := B.notSynchronized
  subst hsz
  have hD := hD0.self (sz := s.heap.size)
  obtain ⟨A, hAe⟩ : ∃ A, A = va_A ([]) s.heap.size := ⟨_, rfl⟩
  rw [← hAe] at hD hZ
  have hA : ∀ q : Nat, s.heap.size ≤ q → A q := fun q h => by rw [hAe]; exact Or.inr h
  have hS : va_S A s.heap s.heap [] := va_S.rf
  have hP : va_P (dC, dI) vwCl ([]) s.heap := hP
  have hl := lv_entry ([.int (iI u), .int (iI b), .int (iI d), .int (iI v)]) (n := 4) (Nat.le_of_ble_eq_true rfl)
  rw [lg_entry_eq]
  generalize (lg_sl ([.int (iI u), .int (iI b), .int (iI d), .int (iI v)]) ++ List.replicate (4 - (lg_sl ([.int (iI u), .int (iI b), .int (iI d), .int (iI v)])).length) Slot.unset).toArray = ls at hl ⊢
  have hl : lv_has ls 4 [(0, .int (iI u)), (1, .int (iI b)), (2, .int (iI d)), (3, .int (iI v))] := hl
  refine lv_iload_n hx hb dX2_merged_0 rfl (lv_at hl 0 rfl) ?_
  refine z_look2 (t1 := 28) (t2 := 34) (t3 := 40) hx hb dX2_merged_1 (by decide) (by omega) (by decide) (by decide) (by decide) (fun e1 => ?_) (fun e1 => ?_) (fun e1 f1 => ?_)
  · refine lv_iload_n hx hb dX2_merged_28 rfl (lv_at hl 1 rfl) ?_
    refine lv_iload_n hx hb dX2_merged_29 rfl (lv_at hl 2 rfl) ?_
    refine z_max hx hb (hml.trans hl.1.symm) hown (hts _ wm_127) (hts _ wm_128) (hts _ wm_110) (hts _ wm_129) (Nat.le_of_ble_eq_true rfl) (Nat.le_of_ble_eq_true rfl) (Nat.le_of_ble_eq_true rfl) (Nat.le_of_ble_eq_true rfl) dX2_merged_30 (by omega) (by omega) ?_
    subst hAe
    refine z_top (b := mgF u b d v) (by unfold mgF; (repeat' split) <;> first | rfl | (exfalso; omega)) ?_
    exact z_iret hx hb hr hlocks hP hK hD hS (trivial) dX2_merged_33
  · refine lv_iload_n hx hb dX2_merged_34 rfl (lv_at hl 1 rfl) ?_
    refine lv_iload_n hx hb dX2_merged_35 rfl (lv_at hl 2 rfl) ?_
    refine z_min hx hb (hml.trans hl.1.symm) hown (hts _ wm_124) (hts _ wm_125) (hts _ wm_110) (hts _ wm_126) (Nat.le_of_ble_eq_true rfl) (Nat.le_of_ble_eq_true rfl) (Nat.le_of_ble_eq_true rfl) (Nat.le_of_ble_eq_true rfl) dX2_merged_36 (by omega) (by omega) ?_
    subst hAe
    refine z_top (b := mgF u b d v) (by unfold mgF; (repeat' split) <;> first | rfl | (exfalso; omega)) ?_
    exact z_iret hx hb hr hlocks hP hK hD hS (trivial) dX2_merged_39
  · refine lv_iload_n hx hb dX2_merged_40 rfl (lv_at hl 1 rfl) ?_
    refine lv_iload_n hx hb dX2_merged_41 rfl (lv_at hl 2 rfl) ?_
    refine z_add hx hb dX2_merged_42 ?_
    refine lv_iload_n hx hb dX2_merged_43 rfl (lv_at hl 3 rfl) ?_
    refine z_sub hx hb dX2_merged_44 ?_
    refine lv_iconst (v := iI 0) hx hb dX2_merged_45 rfl ?_
    refine lv_sipush (v := iI 1000) hx hb dX2_merged_46 (by decide) ?_
    refine z_rcalli (va_runS (As := [.int (iI ((b + d) - v)), .int (iI 0), .int (iI 1000)]) (rest := []) ⟨hx, hb, hml, hown, hts⟩ (c_X2_nearest l dC dI (s.heap).size ((b + d) - v) 0 1000 (by omega) (by omega) (by omega)) (va_cwS 3 hts g_X2_9 rfl rfl rfl (by decide +kernel) ⟨Nat.le_of_ble_eq_true rfl, Nat.le_of_ble_eq_true rfl⟩) (zP_S z_P0 (hK.sub [] rfl) z_D0 hS (z_free0 hS hA) hZ) rfl rfl hl.1 rfl (lv_room (Nat.le_of_ble_eq_true rfl)) dX2_merged_49 ⟨Nat.le_of_ble_eq_true rfl, Nat.le_of_ble_eq_true rfl⟩) hP hD hS (z_free0 hS hA) (fun _ h => by cases h) (fun H locs _ hP hD hS _ => ?_)
    subst hAe
    refine z_top (b := mgF u b d v) (by unfold mgF; (repeat' split) <;> first | rfl | (exfalso; omega)) ?_
    exact z_iret hx hb hr hlocks hP hK hD hS (trivial) dX2_merged_52
