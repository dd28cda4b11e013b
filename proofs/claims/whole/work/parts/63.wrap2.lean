theorem g_L_36 : GoodIn wsAll (wsV RL 36 RX2 yX2_fine wsX2_fine) := z_good (show ∀ w ∈ (Cond.methodLink RL 36 yX2_fine :: Cond.instanceMethod yX2_fine :: Cond.selects RX2 yX2_fine yX2_fine :: Cond.initialized RX2 :: Cond.code yX2_fine prog_1_method_8_code 5 (some .int) :: wsAll), w ∈ wsAll from List.forall_mem_cons.mpr ⟨wm_333, List.forall_mem_cons.mpr ⟨wm_334, List.forall_mem_cons.mpr ⟨wm_335, List.forall_mem_cons.mpr ⟨wm_109, List.forall_mem_cons.mpr ⟨wm_336, fun _ h => h⟩⟩⟩⟩⟩)
abbrev r_L_fine : Room := { frames := 8, cells := 2, slots := 12, locals := 137 }
set_option maxHeartbeats 4000000 in
set_option maxRecDepth 100000 in
theorem c_L_fine (l : Launch) (hl9 : l.stackTraces = false) (dC : Nat → ClassId) (dI : Nat → Nat → Nat) (sz : Nat) (a : Nat → Nat) (cA : Nat → ClassId) (o : Nat) (co : ClassId) (w h : Nat) (wa ma ka li : Nat → Int) (hk sh : Int) (T : TK) (kd rd : Nat → Int) (dp : Nat → Nat → Int) (f : Nat → Int) (t st : Int) (hw : 1 ≤ w ∧ w ≤ 20) (hh : 1 ≤ h ∧ h ≤ 20) (hrd : ∀ j, j < 4 → 0 ≤ rd j ∧ rd j ≤ 5) (hdp : ∀ j, j < 4 → bd (dp j) (-1) 5) (hwa : bd wa 0 1000) (hma : bd ma 0 1000) (hT0 : tkOK T 1000000) (h1 : rg t) (h2 : rg st) : vx_Met l yL_fine wsL_fine r_L_fine (zP (dC, dI) vwCl (rpOT cA co) (rpO a cA o co w h wa ma ka li hk sh T kd rd dp f) sz [.ref (a 0), .int (iI t), .int (iI st), .ref o]) (zQi (dC, dI) vwCl (rpOT cA co) (rpO a cA o co w h wa ma ka li hk sh T kd rd dp f) sz (True) (cod2 (isW t 0 3) (isW st 1 20)) (rpO a cA o co w h wa (if cod2 (isW t 0 3) (isW st 1 20) ≤ 0 then (fnW w h wa (dp t.toNat) (rd t.toNat) st (tkC T, ma)).2 else ma) ka li hk sh (if cod2 (isW t 0 3) (isW st 1 20) ≤ 0 then (fnW w h wa (dp t.toNat) (rd t.toNat) st (tkC T, ma)).1 else T) kd rd dp (if cod2 (isW t 0 3) (isW st 1 20) ≤ 0 then uI f 0 (zt (fnR h st)) else f))) (zX (dC, dI) vwCl (rpOT cA co) (rpO a cA o co w h wa ma ka li hk sh T kd rd dp f) sz (fun _ => False)) 2 12 (va_A (rpO a cA o co w h wa ma ka li hk sh T kd rd dp f) sz) := by
  refine vx_ofWH (cc := cL_fine) (maxL := 5) (ret := (some .int)) (hh := [(0, 10, 13, 13), (0, 10, 17, 15)]) (by decide) rfl ?_
  intro p e s m args below meth c s₁ B hml hv
  obtain ⟨rfl, hsz, hP, hK, hD0, hZ⟩ := hv
  have hx := B.exec
  have hb := B.bytes
  have hr := B.returns
  have hts0 := atoms_spec (ws := wsL_fine) B.pre
  have hts : ∀ w ∈ wsAll, w.before _ s = true := fun w h => hts0 w (List.mem_cons_of_mem _ h)
  have hown : s.vm.findClass RL = some m.cls := findClass_of_methodNamed B.named
  have hlocks := B.notSynchronized
  have htab := vx_table (x := yL_fine) B (hts0 _ List.mem_cons_self)
  subst hsz
  have hD := hD0.self (sz := s.heap.size)
  obtain ⟨A, hAe⟩ : ∃ A, A = va_A (rpO a cA o co w h wa ma ka li hk sh T kd rd dp f) s.heap.size := ⟨_, rfl⟩
  rw [← hAe] at hD hZ
  have hA : ∀ q : Nat, s.heap.size ≤ q → A q := fun q h => by rw [hAe]; exact Or.inr h
  have hS : va_S A s.heap s.heap [] := va_S.rf
  have hP : va_P (dC, dI) vwCl (rpO a cA o co w h wa ma ka li hk sh T kd rd dp f) s.heap := hP
  have hl := lv_entry ([.ref (a 0), .int (iI t), .int (iI st), .ref o]) (n := 5) (Nat.le_of_ble_eq_true rfl)
  rw [lg_entry_eq]
  generalize (lg_sl ([.ref (a 0), .int (iI t), .int (iI st), .ref o]) ++ List.replicate (5 - (lg_sl ([.ref (a 0), .int (iI t), .int (iI st), .ref o])).length) Slot.unset).toArray = ls at hl ⊢
  have hl : lv_has ls 5 [(0, .ref (a 0)), (1, .int (iI t)), (2, .int (iI st)), (3, .ref o)] := hl
  refine lv_aload_n hx hb dL_fine_0 rfl (lv_at hl 3 rfl) ?_
  refine lv_iconst (v := iI 0) hx hb dL_fine_1 rfl ?_
  refine lv_aload_n hx hb dL_fine_2 rfl (lv_at hl 0 rfl) ?_
  refine lv_iload_n hx hb dL_fine_3 rfl (lv_at hl 1 rfl) ?_
  refine lv_iload_n hx hb dL_fine_4 rfl (lv_at hl 2 rfl) ?_
  have hPc := hP.sub (ws' := rpW a cA w h wa ma ka li hk sh T kd rd dp) [0, 1, 2, 3, 4, 5, 6, 7, 8, 9, 10, 11, 12, 13, 14, 15] rfl
  have hDc := hD.sub (ws' := rpW a cA w h wa ma ka li hk sh T kd rd dp) [0, 1, 2, 3, 4, 5, 6, 7, 8, 9, 10, 11, 12, 13, 14, 15] (by decide) rfl
  have hKc := hK.sub (tys' := rpT cA) [0, 1, 2, 3, 4, 5, 6, 7, 8, 9] rfl
  have hFc := va_free (wc := rpW a cA w h wa ma ka li hk sh T kd rd dp) hD hS hA [0, 1, 2, 3, 4, 5, 6, 7, 8, 9, 10, 11, 12, 13, 14, 15] rfl
  refine z_xcalli (ws' := rpO a cA o co w h wa ((fnW w h wa (dp t.toNat) (rd t.toNat) st (tkC T, ma)).2) ka li hk sh ((fnW w h wa (dp t.toNat) (rd t.toNat) st (tkC T, ma)).1) kd rd dp f) (wr := [16].filterMap (fun z9 => (rpO a cA o co w h wa ma ka li hk sh T kd rd dp f)[z9]?)) (vx_runV (As := [.int (iI t), .int (iI st)]) (rest := [.int (iI 0), .ref o]) ⟨hx, hb, hml, hown, hts⟩ (c_X2_fine l hl9 dC dI (s.heap).size a cA w h wa ma ka li hk sh T kd rd dp t st hw hh hrd hdp hwa hma hT0 h1 h2) (cwV 2 hts g_L_36 rfl rfl rfl (by decide +kernel) ⟨Nat.le_of_ble_eq_true rfl, Nat.le_of_ble_eq_true rfl⟩) (zP_V (ci := 2) (q0 := 0) rfl rfl hPc hKc hDc hS hFc hZ) rfl rfl hl.1 rfl (lv_room (Nat.le_of_ble_eq_true rfl)) dL_fine_5 ⟨Nat.le_of_ble_eq_true rfl, Nat.le_of_ble_eq_true rfl⟩) hP hD hS hFc (z_subOf [0, 1, 2, 3, 4, 5, 6, 7, 8, 9, 10, 11, 12, 13, 14, 15] rfl) [0, 1, 2, 3, 4, 5, 6, 7, 8, 9, 10, 11, 12, 13, 14, 15] [16] [1, 2, 3, 4, 5, 6, 7, 8, 9, 10, 11, 12, 13, 14, 15, 16, 0] rfl rfl (by decide) (by decide) rfl (by decide) (fun E ce q9 H locs hE hP hS _ h7 h8 h9 => ?_) (fun H locs hok hP hD hS _ => ?_)
  · rcases hE with hE | hE
    · have hc9 : cod2 (isW t 0 3) (isW st 1 20) = 1 := cod2_1 (isW_f.mpr hE.2)
      obtain ⟨rfl, -⟩ := hE
      refine vx_catch (own := RL) (name := "java/lang/IndexOutOfBoundsException") hown [] (⟨0, 10, 13, 13⟩ : ExceptionTableEntry) [(⟨0, 10, 17, 15⟩ : ExceptionTableEntry)] (by rw [htab]; rfl) (fun z hz => by cases hz) (by decide) (by decide) (hts _ wm_14) (va_Nw.use rfl (hZ.1 (.castable "java/lang/IndexOutOfBoundsException" "java/lang/IndexOutOfBoundsException") (by decide +kernel))) h7 h8 h9 ?_
      refine W.eq (g2 := F0 m 13 ls [.ref q9]) rfl ?_
      refine lv_astore (lv' := [(4, .ref q9), (0, .ref (a 0)), (1, .int (iI t)), (2, .int (iI st)), (3, .ref o)]) hx hb dL_fine_13 hl (by decide) rfl (fun ls hl => ?_)
      refine lv_iconst (v := iI 1) hx hb dL_fine_15 rfl ?_
      refine vx_ret ?_
      subst hAe
      rw [show (if cod2 (isW t 0 3) (isW st 1 20) ≤ 0 then (fnW w h wa (dp t.toNat) (rd t.toNat) st (tkC T, ma)).2 else ma) = ma from if_neg (by omega), show (if cod2 (isW t 0 3) (isW st 1 20) ≤ 0 then (fnW w h wa (dp t.toNat) (rd t.toNat) st (tkC T, ma)).1 else T) = T from if_neg (by omega), show (if cod2 (isW t 0 3) (isW st 1 20) ≤ 0 then uI f 0 (zt (fnR h st)) else f) = f from if_neg (by omega)]
      refine z_top (b := cod2 (isW t 0 3) (isW st 1 20)) (hc9.symm) ?_
      exact z_iret hx hb hr hlocks hP hK hD hS (trivial) dL_fine_16
    · have hc9 : cod2 (isW t 0 3) (isW st 1 20) = 2 := cod2_2 (isW_t.mpr hE.2.1) (isW_f.mpr hE.2.2)
      obtain ⟨rfl, -⟩ := hE
      refine vx_catch (own := RL) (name := "java/lang/IllegalArgumentException") hown [(⟨0, 10, 13, 13⟩ : ExceptionTableEntry)] (⟨0, 10, 17, 15⟩ : ExceptionTableEntry) [] (by rw [htab]; rfl) (fun z hz => by cases List.mem_singleton.mp hz; exact Or.inr ⟨by decide, "java/lang/IndexOutOfBoundsException", (hts _ wm_14), hZ.2.2.1 ("java/lang/IllegalArgumentException", "java/lang/IndexOutOfBoundsException") (by decide +kernel)⟩) (by decide) (by decide) (hts _ wm_15) (va_Nw.use rfl (hZ.1 (.castable "java/lang/IllegalArgumentException" "java/lang/IllegalArgumentException") (by decide +kernel))) h7 h8 h9 ?_
      refine W.eq (g2 := F0 m 17 ls [.ref q9]) rfl ?_
      refine lv_astore (lv' := [(4, .ref q9), (0, .ref (a 0)), (1, .int (iI t)), (2, .int (iI st)), (3, .ref o)]) hx hb dL_fine_17 hl (by decide) rfl (fun ls hl => ?_)
      refine lv_iconst (v := iI 2) hx hb dL_fine_19 rfl ?_
      refine vx_ret ?_
      subst hAe
      rw [show (if cod2 (isW t 0 3) (isW st 1 20) ≤ 0 then (fnW w h wa (dp t.toNat) (rd t.toNat) st (tkC T, ma)).2 else ma) = ma from if_neg (by omega), show (if cod2 (isW t 0 3) (isW st 1 20) ≤ 0 then (fnW w h wa (dp t.toNat) (rd t.toNat) st (tkC T, ma)).1 else T) = T from if_neg (by omega), show (if cod2 (isW t 0 3) (isW st 1 20) ≤ 0 then uI f 0 (zt (fnR h st)) else f) = f from if_neg (by omega)]
      refine z_top (b := cod2 (isW t 0 3) (isW st 1 20)) (hc9.symm) ?_
      exact z_iret hx hb hr hlocks hP hK hD hS (trivial) dL_fine_20
  · have hc9 : cod2 (isW t 0 3) (isW st 1 20) = 0 := cod2_0 (isW_t.mpr hok.1) (isW_t.mpr hok.2)
    have hP : va_P (dC, dI) vwCl (rpO a cA o co w h wa ((fnW w h wa (dp t.toNat) (rd t.toNat) st (tkC T, ma)).2) ka li hk sh ((fnW w h wa (dp t.toNat) (rd t.toNat) st (tkC T, ma)).1) kd rd dp f) H := hP
    have hD : va_D A (rpO a cA o co w h wa ((fnW w h wa (dp t.toNat) (rd t.toNat) st (tkC T, ma)).2) ka li hk sh ((fnW w h wa (dp t.toNat) (rd t.toNat) st (tkC T, ma)).1) kd rd dp f) := hD
    refine z_i2lt hx hb dL_fine_8 ?_
    refine z_last (f := f) (i := 0) (x := zt (fnR h st)) hx hb hK hP hD hS 16 10 rfl rfl (by decide) (by decide) dL_fine_9 (fun H locs hP hD hS => ?_)
    have hP : va_P (dC, dI) vwCl (rpO a cA o co w h wa ((fnW w h wa (dp t.toNat) (rd t.toNat) st (tkC T, ma)).2) ka li hk sh ((fnW w h wa (dp t.toNat) (rd t.toNat) st (tkC T, ma)).1) kd rd dp (uI f 0 (zt (fnR h st)))) H := hP
    have hD : va_D A (rpO a cA o co w h wa ((fnW w h wa (dp t.toNat) (rd t.toNat) st (tkC T, ma)).2) ka li hk sh ((fnW w h wa (dp t.toNat) (rd t.toNat) st (tkC T, ma)).1) kd rd dp (uI f 0 (zt (fnR h st)))) := hD
    refine lv_goto (tgt := 21) hx hb dL_fine_10 (by decide) ?_
    refine lv_iconst (v := iI 0) hx hb dL_fine_21 rfl ?_
    refine vx_ret ?_
    subst hAe
    rw [show (if cod2 (isW t 0 3) (isW st 1 20) ≤ 0 then (fnW w h wa (dp t.toNat) (rd t.toNat) st (tkC T, ma)).2 else ma) = (fnW w h wa (dp t.toNat) (rd t.toNat) st (tkC T, ma)).2 from if_pos (by omega), show (if cod2 (isW t 0 3) (isW st 1 20) ≤ 0 then (fnW w h wa (dp t.toNat) (rd t.toNat) st (tkC T, ma)).1 else T) = (fnW w h wa (dp t.toNat) (rd t.toNat) st (tkC T, ma)).1 from if_pos (by omega), show (if cod2 (isW t 0 3) (isW st 1 20) ≤ 0 then uI f 0 (zt (fnR h st)) else f) = uI f 0 (zt (fnR h st)) from if_pos (by omega)]
    refine z_top (b := cod2 (isW t 0 3) (isW st 1 20)) (hc9.symm) ?_
    exact z_iret hx hb hr hlocks hP hK hD hS (trivial) dL_fine_22
theorem g_L_40 : GoodIn wsAll (wsV RL 40 RX2 yX2_made wsX2_made) := z_good (show ∀ w ∈ (Cond.methodLink RL 40 yX2_made :: Cond.instanceMethod yX2_made :: Cond.selects RX2 yX2_made yX2_made :: Cond.initialized RX2 :: Cond.code yX2_made prog_1_method_9_code 3 (some .int) :: wsAll), w ∈ wsAll from List.forall_mem_cons.mpr ⟨wm_343, List.forall_mem_cons.mpr ⟨wm_344, List.forall_mem_cons.mpr ⟨wm_345, List.forall_mem_cons.mpr ⟨wm_109, List.forall_mem_cons.mpr ⟨wm_346, fun _ h => h⟩⟩⟩⟩⟩)
abbrev r_L_made : Room := { frames := 8, cells := 1, slots := 6, locals := 135 }
set_option maxHeartbeats 4000000 in
set_option maxRecDepth 100000 in
theorem c_L_made (l : Launch) (hl9 : l.stackTraces = false) (dC : Nat → ClassId) (dI : Nat → Nat → Nat) (sz : Nat) (a : Nat → Nat) (cA : Nat → ClassId) (o : Nat) (co : ClassId) (w h : Nat) (wa ma ka li : Nat → Int) (hk sh : Int) (T : TK) (kd rd : Nat → Int) (dp : Nat → Nat → Int) (f : Nat → Int) (x y : Int) (hw : 1 ≤ w ∧ w ≤ 20) (hh : 1 ≤ h ∧ h ≤ 20) (h1 : rg x) (h2 : rg y) : vx_Met l yL_made wsL_made r_L_made (zP (dC, dI) vwCl (rpOT cA co) (rpO a cA o co w h wa ma ka li hk sh T kd rd dp f) sz [.ref (a 0), .int (iI x), .int (iI y), .ref o]) (zQi (dC, dI) vwCl (rpOT cA co) (rpO a cA o co w h wa ma ka li hk sh T kd rd dp f) sz (True) (cod1 (plB w h x y)) (rpO a cA o co w h wa ma ka li hk sh T kd rd dp (if cod1 (plB w h x y) ≤ 0 then uI f 0 (zt (ma (y * (w : Int) + x).toNat)) else f))) (zX (dC, dI) vwCl (rpOT cA co) (rpO a cA o co w h wa ma ka li hk sh T kd rd dp f) sz (fun _ => False)) 1 6 (va_A (rpO a cA o co w h wa ma ka li hk sh T kd rd dp f) sz) := by
  refine vx_ofWH (cc := cL_made) (maxL := 5) (ret := (some .int)) (hh := [(0, 10, 13, 13)]) (by decide) rfl ?_
  intro p e s m args below meth c s₁ B hml hv
  obtain ⟨rfl, hsz, hP, hK, hD0, hZ⟩ := hv
  have hx := B.exec
  have hb := B.bytes
  have hr := B.returns
  have hts0 := atoms_spec (ws := wsL_made) B.pre
  have hts : ∀ w ∈ wsAll, w.before _ s = true := fun w h => hts0 w (List.mem_cons_of_mem _ h)
  have hown : s.vm.findClass RL = some m.cls := findClass_of_methodNamed B.named
  have hlocks := B.notSynchronized
  have htab := vx_table (x := yL_made) B (hts0 _ List.mem_cons_self)
  subst hsz
  have hD := hD0.self (sz := s.heap.size)
  obtain ⟨A, hAe⟩ : ∃ A, A = va_A (rpO a cA o co w h wa ma ka li hk sh T kd rd dp f) s.heap.size := ⟨_, rfl⟩
  rw [← hAe] at hD hZ
  have hA : ∀ q : Nat, s.heap.size ≤ q → A q := fun q h => by rw [hAe]; exact Or.inr h
  have hS : va_S A s.heap s.heap [] := va_S.rf
  have hP : va_P (dC, dI) vwCl (rpO a cA o co w h wa ma ka li hk sh T kd rd dp f) s.heap := hP
  have hl := lv_entry ([.ref (a 0), .int (iI x), .int (iI y), .ref o]) (n := 5) (Nat.le_of_ble_eq_true rfl)
  rw [lg_entry_eq]
  generalize (lg_sl ([.ref (a 0), .int (iI x), .int (iI y), .ref o]) ++ List.replicate (5 - (lg_sl ([.ref (a 0), .int (iI x), .int (iI y), .ref o])).length) Slot.unset).toArray = ls at hl ⊢
  have hl : lv_has ls 5 [(0, .ref (a 0)), (1, .int (iI x)), (2, .int (iI y)), (3, .ref o)] := hl
  refine lv_aload_n hx hb dL_made_0 rfl (lv_at hl 3 rfl) ?_
  refine lv_iconst (v := iI 0) hx hb dL_made_1 rfl ?_
  refine lv_aload_n hx hb dL_made_2 rfl (lv_at hl 0 rfl) ?_
  refine lv_iload_n hx hb dL_made_3 rfl (lv_at hl 1 rfl) ?_
  refine lv_iload_n hx hb dL_made_4 rfl (lv_at hl 2 rfl) ?_
  have hPc := hP.sub (ws' := rpW a cA w h wa ma ka li hk sh T kd rd dp) [0, 1, 2, 3, 4, 5, 6, 7, 8, 9, 10, 11, 12, 13, 14, 15] rfl
  have hDc := hD.sub (ws' := rpW a cA w h wa ma ka li hk sh T kd rd dp) [0, 1, 2, 3, 4, 5, 6, 7, 8, 9, 10, 11, 12, 13, 14, 15] (by decide) rfl
  have hKc := hK.sub (tys' := rpT cA) [0, 1, 2, 3, 4, 5, 6, 7, 8, 9] rfl
  have hFc := va_free (wc := rpW a cA w h wa ma ka li hk sh T kd rd dp) hD hS hA [0, 1, 2, 3, 4, 5, 6, 7, 8, 9, 10, 11, 12, 13, 14, 15] rfl
  refine z_xrcalli (vx_runV (As := [.int (iI x), .int (iI y)]) (rest := [.int (iI 0), .ref o]) ⟨hx, hb, hml, hown, hts⟩ (c_X2_made l hl9 dC dI (s.heap).size a cA w h wa ma ka li hk sh T kd rd dp x y hw hh h1 h2) (cwV 2 hts g_L_40 rfl rfl rfl (by decide +kernel) ⟨Nat.le_of_ble_eq_true rfl, Nat.le_of_ble_eq_true rfl⟩) (zP_V (ci := 2) (q0 := 0) rfl rfl hPc hKc hDc hS hFc hZ) rfl rfl hl.1 rfl (lv_room (Nat.le_of_ble_eq_true rfl)) dL_made_5 ⟨Nat.le_of_ble_eq_true rfl, Nat.le_of_ble_eq_true rfl⟩) hP hD hS hFc (z_subOf [0, 1, 2, 3, 4, 5, 6, 7, 8, 9, 10, 11, 12, 13, 14, 15] rfl) (fun E ce q9 H locs hE hP hS _ h7 h8 h9 => ?_) (fun H locs hok hP hD hS _ => ?_)
  · have hc9 : cod1 (plB w h x y) = 1 := cod1_1 (plB_f.mpr hE.2)
    obtain ⟨rfl, -⟩ := hE
    refine vx_catch (own := RL) (name := "java/lang/IndexOutOfBoundsException") hown [] (⟨0, 10, 13, 13⟩ : ExceptionTableEntry) [] (by rw [htab]; rfl) (fun z hz => by cases hz) (by decide) (by decide) (hts _ wm_14) (va_Nw.use rfl (hZ.1 (.castable "java/lang/IndexOutOfBoundsException" "java/lang/IndexOutOfBoundsException") (by decide +kernel))) h7 h8 h9 ?_
    refine W.eq (g2 := F0 m 13 ls [.ref q9]) rfl ?_
    refine lv_astore (lv' := [(4, .ref q9), (0, .ref (a 0)), (1, .int (iI x)), (2, .int (iI y)), (3, .ref o)]) hx hb dL_made_13 hl (by decide) rfl (fun ls hl => ?_)
    refine lv_iconst (v := iI 1) hx hb dL_made_15 rfl ?_
    refine vx_ret ?_
    subst hAe
    rw [show (if cod1 (plB w h x y) ≤ 0 then uI f 0 (zt (ma (y * (w : Int) + x).toNat)) else f) = f from if_neg (by omega)]
    refine z_top (b := cod1 (plB w h x y)) (hc9.symm) ?_
    exact z_iret hx hb hr hlocks hP hK hD hS (trivial) dL_made_16
  · have hc9 : cod1 (plB w h x y) = 0 := cod1_0 (plB_t.mpr hok)
    have hP : va_P (dC, dI) vwCl (rpO a cA o co w h wa ma ka li hk sh T kd rd dp f) H := hP
    have hD : va_D A (rpO a cA o co w h wa ma ka li hk sh T kd rd dp f) := hD
    refine z_i2lt hx hb dL_made_8 ?_
    refine z_last (f := f) (i := 0) (x := zt (ma (y * (w : Int) + x).toNat)) hx hb hK hP hD hS 16 10 rfl rfl (by decide) (by decide) dL_made_9 (fun H locs hP hD hS => ?_)
    have hP : va_P (dC, dI) vwCl (rpO a cA o co w h wa ma ka li hk sh T kd rd dp (uI f 0 (zt (ma (y * (w : Int) + x).toNat)))) H := hP
    have hD : va_D A (rpO a cA o co w h wa ma ka li hk sh T kd rd dp (uI f 0 (zt (ma (y * (w : Int) + x).toNat)))) := hD
    refine lv_goto (tgt := 17) hx hb dL_made_10 (by decide) ?_
    refine lv_iconst (v := iI 0) hx hb dL_made_17 rfl ?_
    refine vx_ret ?_
    subst hAe
    rw [show (if cod1 (plB w h x y) ≤ 0 then uI f 0 (zt (ma (y * (w : Int) + x).toNat)) else f) = uI f 0 (zt (ma (y * (w : Int) + x).toNat)) from if_pos (by omega)]
    refine z_top (b := cod1 (plB w h x y)) (hc9.symm) ?_
    exact z_iret hx hb hr hlocks hP hK hD hS (trivial) dL_made_18
theorem g_L_43 : GoodIn wsAll (wsV RL 43 RX2 yX2_rest wsX2_rest) := z_good (show ∀ w ∈ (Cond.methodLink RL 43 yX2_rest :: Cond.instanceMethod yX2_rest :: Cond.selects RX2 yX2_rest yX2_rest :: Cond.initialized RX2 :: Cond.code yX2_rest prog_1_method_11_code 6 (some .int) :: wsAll), w ∈ wsAll from List.forall_mem_cons.mpr ⟨wm_350, List.forall_mem_cons.mpr ⟨wm_351, List.forall_mem_cons.mpr ⟨wm_352, List.forall_mem_cons.mpr ⟨wm_109, List.forall_mem_cons.mpr ⟨wm_353, fun _ h => h⟩⟩⟩⟩⟩)
abbrev r_L_rest : Room := { frames := 8, cells := 2, slots := 12, locals := 138 }
set_option maxHeartbeats 4000000 in
set_option maxRecDepth 100000 in
theorem c_L_rest (l : Launch) (hl9 : l.stackTraces = false) (dC : Nat → ClassId) (dI : Nat → Nat → Nat) (sz : Nat) (a : Nat → Nat) (cA : Nat → ClassId) (o : Nat) (co : ClassId) (w h : Nat) (wa ma ka li : Nat → Int) (hk sh : Int) (T : TK) (kd rd : Nat → Int) (dp : Nat → Nat → Int) (f : Nat → Int) (v k : Int) (hw : 1 ≤ w ∧ w ≤ 20) (hh : 1 ≤ h ∧ h ≤ 20) (hwa : bd wa 0 1000) (hma : bd ma 0 1000) (h1 : rg v) (hk1 : rg k) : vx_Met l yL_rest wsL_rest r_L_rest (zP (dC, dI) vwCl (rpOT cA co) (rpO a cA o co w h wa ma ka li hk sh T kd rd dp f) sz [.ref (a 0), .int (iI v), .int (iI k), .ref o]) (zQi (dC, dI) vwCl (rpOT cA co) (rpO a cA o co w h wa ma ka li hk sh T kd rd dp f) sz (True) (cod1a (isW v 0 1000) (if -1 ≤ k then 1 else 0)) (rpO a cA o co w h wa ma ka li hk sh T kd rd dp (if cod1a (isW v 0 1000) (if -1 ≤ k then 1 else 0) ≤ 0 then uI f 0 (zt (rsE k (rsF w ma wa v k h (0, -2)))) else f))) (zX (dC, dI) vwCl (rpOT cA co) (rpO a cA o co w h wa ma ka li hk sh T kd rd dp f) sz (fun _ => False)) 2 12 (va_A (rpO a cA o co w h wa ma ka li hk sh T kd rd dp f) sz) := by
  refine vx_ofWH (cc := cL_rest) (maxL := 5) (ret := (some .int)) (hh := [(0, 10, 13, 15)]) (by decide) rfl ?_
  intro p e s m args below meth c s₁ B hml hv
  obtain ⟨rfl, hsz, hP, hK, hD0, hZ⟩ := hv
  have hx := B.exec
  have hb := B.bytes
  have hr := B.returns
  have hts0 := atoms_spec (ws := wsL_rest) B.pre
  have hts : ∀ w ∈ wsAll, w.before _ s = true := fun w h => hts0 w (List.mem_cons_of_mem _ h)
  have hown : s.vm.findClass RL = some m.cls := findClass_of_methodNamed B.named
  have hlocks := B.notSynchronized
  have htab := vx_table (x := yL_rest) B (hts0 _ List.mem_cons_self)
  subst hsz
  have hD := hD0.self (sz := s.heap.size)
  obtain ⟨A, hAe⟩ : ∃ A, A = va_A (rpO a cA o co w h wa ma ka li hk sh T kd rd dp f) s.heap.size := ⟨_, rfl⟩
  rw [← hAe] at hD hZ
  have hA : ∀ q : Nat, s.heap.size ≤ q → A q := fun q h => by rw [hAe]; exact Or.inr h
  have hS : va_S A s.heap s.heap [] := va_S.rf
  have hP : va_P (dC, dI) vwCl (rpO a cA o co w h wa ma ka li hk sh T kd rd dp f) s.heap := hP
  have hl := lv_entry ([.ref (a 0), .int (iI v), .int (iI k), .ref o]) (n := 5) (Nat.le_of_ble_eq_true rfl)
  rw [lg_entry_eq]
  generalize (lg_sl ([.ref (a 0), .int (iI v), .int (iI k), .ref o]) ++ List.replicate (5 - (lg_sl ([.ref (a 0), .int (iI v), .int (iI k), .ref o])).length) Slot.unset).toArray = ls at hl ⊢
  have hl : lv_has ls 5 [(0, .ref (a 0)), (1, .int (iI v)), (2, .int (iI k)), (3, .ref o)] := hl
  refine lv_aload_n hx hb dL_rest_0 rfl (lv_at hl 3 rfl) ?_
  refine lv_iconst (v := iI 0) hx hb dL_rest_1 rfl ?_
  refine lv_aload_n hx hb dL_rest_2 rfl (lv_at hl 0 rfl) ?_
  refine lv_iload_n hx hb dL_rest_3 rfl (lv_at hl 1 rfl) ?_
  refine lv_iload_n hx hb dL_rest_4 rfl (lv_at hl 2 rfl) ?_
  have hPc := hP.sub (ws' := rpW a cA w h wa ma ka li hk sh T kd rd dp) [0, 1, 2, 3, 4, 5, 6, 7, 8, 9, 10, 11, 12, 13, 14, 15] rfl
  have hDc := hD.sub (ws' := rpW a cA w h wa ma ka li hk sh T kd rd dp) [0, 1, 2, 3, 4, 5, 6, 7, 8, 9, 10, 11, 12, 13, 14, 15] (by decide) rfl
  have hKc := hK.sub (tys' := rpT cA) [0, 1, 2, 3, 4, 5, 6, 7, 8, 9] rfl
  have hFc := va_free (wc := rpW a cA w h wa ma ka li hk sh T kd rd dp) hD hS hA [0, 1, 2, 3, 4, 5, 6, 7, 8, 9, 10, 11, 12, 13, 14, 15] rfl
  refine z_xrcalli (vx_runV (As := [.int (iI v), .int (iI k)]) (rest := [.int (iI 0), .ref o]) ⟨hx, hb, hml, hown, hts⟩ (c_X2_rest l hl9 dC dI (s.heap).size a cA w h wa ma ka li hk sh T kd rd dp v k hw hh hwa hma h1 hk1) (cwV 2 hts g_L_43 rfl rfl rfl (by decide +kernel) ⟨Nat.le_of_ble_eq_true rfl, Nat.le_of_ble_eq_true rfl⟩) (zP_V (ci := 2) (q0 := 0) rfl rfl hPc hKc hDc hS hFc hZ) rfl rfl hl.1 rfl (lv_room (Nat.le_of_ble_eq_true rfl)) dL_rest_5 ⟨Nat.le_of_ble_eq_true rfl, Nat.le_of_ble_eq_true rfl⟩) hP hD hS hFc (z_subOf [0, 1, 2, 3, 4, 5, 6, 7, 8, 9, 10, 11, 12, 13, 14, 15] rfl) (fun E ce q9 H locs hE hP hS _ h7 h8 h9 => ?_) (fun H locs hok hP hD hS _ => ?_)
  · have hc9 : cod1a (isW v 0 1000) (if -1 ≤ k then 1 else 0) = 1 := cod1a_1 (or_f isW_f ind_iff hE.2)
    obtain ⟨rfl, -⟩ := hE
    refine vx_catch (own := RL) (name := "java/lang/IllegalArgumentException") hown [] (⟨0, 10, 13, 15⟩ : ExceptionTableEntry) [] (by rw [htab]; rfl) (fun z hz => by cases hz) (by decide) (by decide) (hts _ wm_15) (va_Nw.use rfl (hZ.1 (.castable "java/lang/IllegalArgumentException" "java/lang/IllegalArgumentException") (by decide +kernel))) h7 h8 h9 ?_
    refine W.eq (g2 := F0 m 13 ls [.ref q9]) rfl ?_
    refine lv_astore (lv' := [(4, .ref q9), (0, .ref (a 0)), (1, .int (iI v)), (2, .int (iI k)), (3, .ref o)]) hx hb dL_rest_13 hl (by decide) rfl (fun ls hl => ?_)
    refine lv_iconst (v := iI 1) hx hb dL_rest_15 rfl ?_
    refine vx_ret ?_
    subst hAe
    rw [show (if cod1a (isW v 0 1000) (if -1 ≤ k then 1 else 0) ≤ 0 then uI f 0 (zt (rsE k (rsF w ma wa v k h (0, -2)))) else f) = f from if_neg (by omega)]
    refine z_top (b := cod1a (isW v 0 1000) (if -1 ≤ k then 1 else 0)) (hc9.symm) ?_
    exact z_iret hx hb hr hlocks hP hK hD hS (trivial) dL_rest_16
  · have hc9 : cod1a (isW v 0 1000) (if -1 ≤ k then 1 else 0) = 0 := cod1a_0 (isW_t.mpr hok.1) (ind_t hok.2)
    have hP : va_P (dC, dI) vwCl (rpO a cA o co w h wa ma ka li hk sh T kd rd dp f) H := hP
    have hD : va_D A (rpO a cA o co w h wa ma ka li hk sh T kd rd dp f) := hD
    refine z_i2lt hx hb dL_rest_8 ?_
    refine z_last (f := f) (i := 0) (x := zt (rsE k (rsF w ma wa v k h (0, -2)))) hx hb hK hP hD hS 16 10 rfl rfl (by decide) (by decide) dL_rest_9 (fun H locs hP hD hS => ?_)
    have hP : va_P (dC, dI) vwCl (rpO a cA o co w h wa ma ka li hk sh T kd rd dp (uI f 0 (zt (rsE k (rsF w ma wa v k h (0, -2)))))) H := hP
    have hD : va_D A (rpO a cA o co w h wa ma ka li hk sh T kd rd dp (uI f 0 (zt (rsE k (rsF w ma wa v k h (0, -2)))))) := hD
    refine lv_goto (tgt := 17) hx hb dL_rest_10 (by decide) ?_
    refine lv_iconst (v := iI 0) hx hb dL_rest_17 rfl ?_
    refine vx_ret ?_
    subst hAe
    rw [show (if cod1a (isW v 0 1000) (if -1 ≤ k then 1 else 0) ≤ 0 then uI f 0 (zt (rsE k (rsF w ma wa v k h (0, -2)))) else f) = uI f 0 (zt (rsE k (rsF w ma wa v k h (0, -2)))) from if_pos (by omega)]
    refine z_top (b := cod1a (isW v 0 1000) (if -1 ≤ k then 1 else 0)) (hc9.symm) ?_
    exact z_iret hx hb hr hlocks hP hK hD hS (trivial) dL_rest_18
theorem g_L_46 : GoodIn wsAll (wsV RL 46 RX2 yX2_move wsX2_move) := z_good (show ∀ w ∈ (Cond.methodLink RL 46 yX2_move :: Cond.instanceMethod yX2_move :: Cond.selects RX2 yX2_move yX2_move :: Cond.initialized RX2 :: Cond.code yX2_move prog_1_method_14_code 3 (some .int) :: wsAll), w ∈ wsAll from List.forall_mem_cons.mpr ⟨wm_358, List.forall_mem_cons.mpr ⟨wm_359, List.forall_mem_cons.mpr ⟨wm_360, List.forall_mem_cons.mpr ⟨wm_109, List.forall_mem_cons.mpr ⟨wm_361, fun _ h => h⟩⟩⟩⟩⟩)
abbrev r_L_move : Room := { frames := 8, cells := 2, slots := 12, locals := 135 }
set_option maxHeartbeats 4000000 in
set_option maxRecDepth 100000 in
theorem c_L_move (l : Launch) (hl9 : l.stackTraces = false) (dC : Nat → ClassId) (dI : Nat → Nat → Nat) (sz : Nat) (a : Nat → Nat) (cA : Nat → ClassId) (o : Nat) (co : ClassId) (w h : Nat) (wa ma ka li : Nat → Int) (hk sh : Int) (T : TK) (kd rd : Nat → Int) (dp : Nat → Nat → Int) (f : Nat → Int) (k u : Int) (hw : 1 ≤ w ∧ w ≤ 20) (hh : 1 ≤ h ∧ h ≤ 20) (hT0 : tkOK T 1000000) (h1 : rg k) (h2 : rg u) : vx_Met l yL_move wsL_move r_L_move (zP (dC, dI) vwCl (rpOT cA co) (rpO a cA o co w h wa ma ka li hk sh T kd rd dp f) sz [.ref (a 0), .int (iI k), .int (iI u), .ref o]) (zQi (dC, dI) vwCl (rpOT cA co) (rpO a cA o co w h wa ma ka li hk sh T kd rd dp f) sz (True) (cod2 (if 0 ≤ k ∧ k < T.2.1 ∧ k < 2000 then 1 else 0) (isW u 0 2)) (rpO a cA o co w h wa ma ka li hk sh T kd rd dp (if cod2 (if 0 ≤ k ∧ k < T.2.1 ∧ k < 2000 then 1 else 0) (isW u 0 2) ≤ 0 then uI f 0 (zt (mvF T k u)) else f))) (zX (dC, dI) vwCl (rpOT cA co) (rpO a cA o co w h wa ma ka li hk sh T kd rd dp f) sz (fun _ => False)) 2 12 (va_A (rpO a cA o co w h wa ma ka li hk sh T kd rd dp f) sz) := by
  refine vx_ofWH (cc := cL_move) (maxL := 5) (ret := (some .int)) (hh := [(0, 10, 13, 13), (0, 10, 17, 15)]) (by decide) rfl ?_
  intro p e s m args below meth c s₁ B hml hv
  obtain ⟨rfl, hsz, hP, hK, hD0, hZ⟩ := hv
  have hx := B.exec
  have hb := B.bytes
  have hr := B.returns
  have hts0 := atoms_spec (ws := wsL_move) B.pre
  have hts : ∀ w ∈ wsAll, w.before _ s = true := fun w h => hts0 w (List.mem_cons_of_mem _ h)
  have hown : s.vm.findClass RL = some m.cls := findClass_of_methodNamed B.named
  have hlocks := B.notSynchronized
  have htab := vx_table (x := yL_move) B (hts0 _ List.mem_cons_self)
  subst hsz
  have hD := hD0.self (sz := s.heap.size)
  obtain ⟨A, hAe⟩ : ∃ A, A = va_A (rpO a cA o co w h wa ma ka li hk sh T kd rd dp f) s.heap.size := ⟨_, rfl⟩
  rw [← hAe] at hD hZ
  have hA : ∀ q : Nat, s.heap.size ≤ q → A q := fun q h => by rw [hAe]; exact Or.inr h
  have hS : va_S A s.heap s.heap [] := va_S.rf
  have hP : va_P (dC, dI) vwCl (rpO a cA o co w h wa ma ka li hk sh T kd rd dp f) s.heap := hP
  have hl := lv_entry ([.ref (a 0), .int (iI k), .int (iI u), .ref o]) (n := 5) (Nat.le_of_ble_eq_true rfl)
  rw [lg_entry_eq]
  generalize (lg_sl ([.ref (a 0), .int (iI k), .int (iI u), .ref o]) ++ List.replicate (5 - (lg_sl ([.ref (a 0), .int (iI k), .int (iI u), .ref o])).length) Slot.unset).toArray = ls at hl ⊢
  have hl : lv_has ls 5 [(0, .ref (a 0)), (1, .int (iI k)), (2, .int (iI u)), (3, .ref o)] := hl
  refine lv_aload_n hx hb dL_move_0 rfl (lv_at hl 3 rfl) ?_
  refine lv_iconst (v := iI 0) hx hb dL_move_1 rfl ?_
  refine lv_aload_n hx hb dL_move_2 rfl (lv_at hl 0 rfl) ?_
  refine lv_iload_n hx hb dL_move_3 rfl (lv_at hl 1 rfl) ?_
  refine lv_iload_n hx hb dL_move_4 rfl (lv_at hl 2 rfl) ?_
  have hPc := hP.sub (ws' := rpW a cA w h wa ma ka li hk sh T kd rd dp) [0, 1, 2, 3, 4, 5, 6, 7, 8, 9, 10, 11, 12, 13, 14, 15] rfl
  have hDc := hD.sub (ws' := rpW a cA w h wa ma ka li hk sh T kd rd dp) [0, 1, 2, 3, 4, 5, 6, 7, 8, 9, 10, 11, 12, 13, 14, 15] (by decide) rfl
  have hKc := hK.sub (tys' := rpT cA) [0, 1, 2, 3, 4, 5, 6, 7, 8, 9] rfl
  have hFc := va_free (wc := rpW a cA w h wa ma ka li hk sh T kd rd dp) hD hS hA [0, 1, 2, 3, 4, 5, 6, 7, 8, 9, 10, 11, 12, 13, 14, 15] rfl
  refine z_xrcalli (vx_runV (As := [.int (iI k), .int (iI u)]) (rest := [.int (iI 0), .ref o]) ⟨hx, hb, hml, hown, hts⟩ (c_X2_move l hl9 dC dI (s.heap).size a cA w h wa ma ka li hk sh T kd rd dp k u hw hh hT0 h1 h2) (cwV 2 hts g_L_46 rfl rfl rfl (by decide +kernel) ⟨Nat.le_of_ble_eq_true rfl, Nat.le_of_ble_eq_true rfl⟩) (zP_V (ci := 2) (q0 := 0) rfl rfl hPc hKc hDc hS hFc hZ) rfl rfl hl.1 rfl (lv_room (Nat.le_of_ble_eq_true rfl)) dL_move_5 ⟨Nat.le_of_ble_eq_true rfl, Nat.le_of_ble_eq_true rfl⟩) hP hD hS hFc (z_subOf [0, 1, 2, 3, 4, 5, 6, 7, 8, 9, 10, 11, 12, 13, 14, 15] rfl) (fun E ce q9 H locs hE hP hS _ h7 h8 h9 => ?_) (fun H locs hok hP hD hS _ => ?_)
  · rcases hE with hE | hE
    · have hc9 : cod2 (if 0 ≤ k ∧ k < T.2.1 ∧ k < 2000 then 1 else 0) (isW u 0 2) = 1 := cod2_1 (ind_f hE.2)
      obtain ⟨rfl, -⟩ := hE
      refine vx_catch (own := RL) (name := "java/lang/IndexOutOfBoundsException") hown [] (⟨0, 10, 13, 13⟩ : ExceptionTableEntry) [(⟨0, 10, 17, 15⟩ : ExceptionTableEntry)] (by rw [htab]; rfl) (fun z hz => by cases hz) (by decide) (by decide) (hts _ wm_14) (va_Nw.use rfl (hZ.1 (.castable "java/lang/IndexOutOfBoundsException" "java/lang/IndexOutOfBoundsException") (by decide +kernel))) h7 h8 h9 ?_
      refine W.eq (g2 := F0 m 13 ls [.ref q9]) rfl ?_
      refine lv_astore (lv' := [(4, .ref q9), (0, .ref (a 0)), (1, .int (iI k)), (2, .int (iI u)), (3, .ref o)]) hx hb dL_move_13 hl (by decide) rfl (fun ls hl => ?_)
      refine lv_iconst (v := iI 1) hx hb dL_move_15 rfl ?_
      refine vx_ret ?_
      subst hAe
      rw [show (if cod2 (if 0 ≤ k ∧ k < T.2.1 ∧ k < 2000 then 1 else 0) (isW u 0 2) ≤ 0 then uI f 0 (zt (mvF T k u)) else f) = f from if_neg (by omega)]
      refine z_top (b := cod2 (if 0 ≤ k ∧ k < T.2.1 ∧ k < 2000 then 1 else 0) (isW u 0 2)) (hc9.symm) ?_
      exact z_iret hx hb hr hlocks hP hK hD hS (trivial) dL_move_16
    · have hc9 : cod2 (if 0 ≤ k ∧ k < T.2.1 ∧ k < 2000 then 1 else 0) (isW u 0 2) = 2 := cod2_2 (ind_t hE.2.1) (isW_f.mpr hE.2.2)
      obtain ⟨rfl, -⟩ := hE
      refine vx_catch (own := RL) (name := "java/lang/IllegalArgumentException") hown [(⟨0, 10, 13, 13⟩ : ExceptionTableEntry)] (⟨0, 10, 17, 15⟩ : ExceptionTableEntry) [] (by rw [htab]; rfl) (fun z hz => by cases List.mem_singleton.mp hz; exact Or.inr ⟨by decide, "java/lang/IndexOutOfBoundsException", (hts _ wm_14), hZ.2.2.1 ("java/lang/IllegalArgumentException", "java/lang/IndexOutOfBoundsException") (by decide +kernel)⟩) (by decide) (by decide) (hts _ wm_15) (va_Nw.use rfl (hZ.1 (.castable "java/lang/IllegalArgumentException" "java/lang/IllegalArgumentException") (by decide +kernel))) h7 h8 h9 ?_
      refine W.eq (g2 := F0 m 17 ls [.ref q9]) rfl ?_
      refine lv_astore (lv' := [(4, .ref q9), (0, .ref (a 0)), (1, .int (iI k)), (2, .int (iI u)), (3, .ref o)]) hx hb dL_move_17 hl (by decide) rfl (fun ls hl => ?_)
      refine lv_iconst (v := iI 2) hx hb dL_move_19 rfl ?_
      refine vx_ret ?_
      subst hAe
      rw [show (if cod2 (if 0 ≤ k ∧ k < T.2.1 ∧ k < 2000 then 1 else 0) (isW u 0 2) ≤ 0 then uI f 0 (zt (mvF T k u)) else f) = f from if_neg (by omega)]
      refine z_top (b := cod2 (if 0 ≤ k ∧ k < T.2.1 ∧ k < 2000 then 1 else 0) (isW u 0 2)) (hc9.symm) ?_
      exact z_iret hx hb hr hlocks hP hK hD hS (trivial) dL_move_20
  · have hc9 : cod2 (if 0 ≤ k ∧ k < T.2.1 ∧ k < 2000 then 1 else 0) (isW u 0 2) = 0 := cod2_0 (ind_t hok.1) (isW_t.mpr hok.2)
    have hP : va_P (dC, dI) vwCl (rpO a cA o co w h wa ma ka li hk sh T kd rd dp f) H := hP
    have hD : va_D A (rpO a cA o co w h wa ma ka li hk sh T kd rd dp f) := hD
    refine z_i2lt hx hb dL_move_8 ?_
    refine z_last (f := f) (i := 0) (x := zt (mvF T k u)) hx hb hK hP hD hS 16 10 rfl rfl (by decide) (by decide) dL_move_9 (fun H locs hP hD hS => ?_)
    have hP : va_P (dC, dI) vwCl (rpO a cA o co w h wa ma ka li hk sh T kd rd dp (uI f 0 (zt (mvF T k u)))) H := hP
    have hD : va_D A (rpO a cA o co w h wa ma ka li hk sh T kd rd dp (uI f 0 (zt (mvF T k u)))) := hD
    refine lv_goto (tgt := 21) hx hb dL_move_10 (by decide) ?_
    refine lv_iconst (v := iI 0) hx hb dL_move_21 rfl ?_
    refine vx_ret ?_
    subst hAe
    rw [show (if cod2 (if 0 ≤ k ∧ k < T.2.1 ∧ k < 2000 then 1 else 0) (isW u 0 2) ≤ 0 then uI f 0 (zt (mvF T k u)) else f) = uI f 0 (zt (mvF T k u)) from if_pos (by omega)]
    refine z_top (b := cod2 (if 0 ≤ k ∧ k < T.2.1 ∧ k < 2000 then 1 else 0) (isW u 0 2)) (hc9.symm) ?_
    exact z_iret hx hb hr hlocks hP hK hD hS (trivial) dL_move_22
theorem g_L_49 : GoodIn wsAll (wsV RL 49 RX2 yX2_repeat wsX2_repeat) := z_good (show ∀ w ∈ (Cond.methodLink RL 49 yX2_repeat :: Cond.instanceMethod yX2_repeat :: Cond.selects RX2 yX2_repeat yX2_repeat :: Cond.initialized RX2 :: Cond.code yX2_repeat prog_1_method_16_code 6 (some .int) :: wsAll), w ∈ wsAll from List.forall_mem_cons.mpr ⟨wm_381, List.forall_mem_cons.mpr ⟨wm_382, List.forall_mem_cons.mpr ⟨wm_383, List.forall_mem_cons.mpr ⟨wm_109, List.forall_mem_cons.mpr ⟨wm_384, fun _ h => h⟩⟩⟩⟩⟩)
abbrev r_L_repeat : Room := { frames := 8, cells := 2, slots := 12, locals := 138 }
set_option maxHeartbeats 4000000 in
set_option maxRecDepth 100000 in
theorem c_L_repeat (l : Launch) (hl9 : l.stackTraces = false) (dC : Nat → ClassId) (dI : Nat → Nat → Nat) (sz : Nat) (a : Nat → Nat) (cA : Nat → ClassId) (o : Nat) (co : ClassId) (w h : Nat) (wa ma ka li : Nat → Int) (hk sh : Int) (T : TK) (kd rd : Nat → Int) (dp : Nat → Nat → Int) (f : Nat → Int) (dx dy : Int) (hw : 1 ≤ w ∧ w ≤ 20) (hh : 1 ≤ h ∧ h ≤ 20) (hwa : bd wa 0 1000) (h1 : rg dx) (h2 : rg dy) : vx_Met l yL_repeat wsL_repeat r_L_repeat (zP (dC, dI) vwCl (rpOT cA co) (rpO a cA o co w h wa ma ka li hk sh T kd rd dp f) sz [.ref (a 0), .int (iI dx), .int (iI dy), .ref o]) (zQi (dC, dI) vwCl (rpOT cA co) (rpO a cA o co w h wa ma ka li hk sh T kd rd dp f) sz (True) (cod1a (isW dx 1 20) (isW dy 1 20)) (rpO a cA o co w h (if cod1a (isW dx 1 20) (isW dy 1 20) ≤ 0 then (rpF w dx dy h (wa, 0)).1 else wa) ma ka li hk sh T kd rd dp (if cod1a (isW dx 1 20) (isW dy 1 20) ≤ 0 then uI f 0 (zt ((rpF w dx dy h (wa, 0)).2)) else f))) (zX (dC, dI) vwCl (rpOT cA co) (rpO a cA o co w h wa ma ka li hk sh T kd rd dp f) sz (fun _ => False)) 2 12 (va_A (rpO a cA o co w h wa ma ka li hk sh T kd rd dp f) sz) := by
  refine vx_ofWH (cc := cL_repeat) (maxL := 5) (ret := (some .int)) (hh := [(0, 10, 13, 15)]) (by decide) rfl ?_
  intro p e s m args below meth c s₁ B hml hv
  obtain ⟨rfl, hsz, hP, hK, hD0, hZ⟩ := hv
  have hx := B.exec
  have hb := B.bytes
  have hr := B.returns
  have hts0 := atoms_spec (ws := wsL_repeat) B.pre
  have hts : ∀ w ∈ wsAll, w.before _ s = true := fun w h => hts0 w (List.mem_cons_of_mem _ h)
  have hown : s.vm.findClass RL = some m.cls := findClass_of_methodNamed B.named
  have hlocks := B.notSynchronized
  have htab := vx_table (x := yL_repeat) B (hts0 _ List.mem_cons_self)
  subst hsz
  have hD := hD0.self (sz := s.heap.size)
  obtain ⟨A, hAe⟩ : ∃ A, A = va_A (rpO a cA o co w h wa ma ka li hk sh T kd rd dp f) s.heap.size := ⟨_, rfl⟩
  rw [← hAe] at hD hZ
  have hA : ∀ q : Nat, s.heap.size ≤ q → A q := fun q h => by rw [hAe]; exact Or.inr h
  have hS : va_S A s.heap s.heap [] := va_S.rf
  have hP : va_P (dC, dI) vwCl (rpO a cA o co w h wa ma ka li hk sh T kd rd dp f) s.heap := hP
  have hl := lv_entry ([.ref (a 0), .int (iI dx), .int (iI dy), .ref o]) (n := 5) (Nat.le_of_ble_eq_true rfl)
  rw [lg_entry_eq]
  generalize (lg_sl ([.ref (a 0), .int (iI dx), .int (iI dy), .ref o]) ++ List.replicate (5 - (lg_sl ([.ref (a 0), .int (iI dx), .int (iI dy), .ref o])).length) Slot.unset).toArray = ls at hl ⊢
  have hl : lv_has ls 5 [(0, .ref (a 0)), (1, .int (iI dx)), (2, .int (iI dy)), (3, .ref o)] := hl
  refine lv_aload_n hx hb dL_repeat_0 rfl (lv_at hl 3 rfl) ?_
  refine lv_iconst (v := iI 0) hx hb dL_repeat_1 rfl ?_
  refine lv_aload_n hx hb dL_repeat_2 rfl (lv_at hl 0 rfl) ?_
  refine lv_iload_n hx hb dL_repeat_3 rfl (lv_at hl 1 rfl) ?_
  refine lv_iload_n hx hb dL_repeat_4 rfl (lv_at hl 2 rfl) ?_
  have hPc := hP.sub (ws' := rpW a cA w h wa ma ka li hk sh T kd rd dp) [0, 1, 2, 3, 4, 5, 6, 7, 8, 9, 10, 11, 12, 13, 14, 15] rfl
  have hDc := hD.sub (ws' := rpW a cA w h wa ma ka li hk sh T kd rd dp) [0, 1, 2, 3, 4, 5, 6, 7, 8, 9, 10, 11, 12, 13, 14, 15] (by decide) rfl
  have hKc := hK.sub (tys' := rpT cA) [0, 1, 2, 3, 4, 5, 6, 7, 8, 9] rfl
  have hFc := va_free (wc := rpW a cA w h wa ma ka li hk sh T kd rd dp) hD hS hA [0, 1, 2, 3, 4, 5, 6, 7, 8, 9, 10, 11, 12, 13, 14, 15] rfl
  refine z_xcalli (ws' := rpO a cA o co w h ((rpF w dx dy h (wa, 0)).1) ma ka li hk sh T kd rd dp f) (wr := [16].filterMap (fun z9 => (rpO a cA o co w h wa ma ka li hk sh T kd rd dp f)[z9]?)) (vx_runV (As := [.int (iI dx), .int (iI dy)]) (rest := [.int (iI 0), .ref o]) ⟨hx, hb, hml, hown, hts⟩ (c_X2_repeat l hl9 dC dI (s.heap).size a cA w h wa ma ka li hk sh T kd rd dp dx dy hw hh hwa h1 h2) (cwV 2 hts g_L_49 rfl rfl rfl (by decide +kernel) ⟨Nat.le_of_ble_eq_true rfl, Nat.le_of_ble_eq_true rfl⟩) (zP_V (ci := 2) (q0 := 0) rfl rfl hPc hKc hDc hS hFc hZ) rfl rfl hl.1 rfl (lv_room (Nat.le_of_ble_eq_true rfl)) dL_repeat_5 ⟨Nat.le_of_ble_eq_true rfl, Nat.le_of_ble_eq_true rfl⟩) hP hD hS hFc (z_subOf [0, 1, 2, 3, 4, 5, 6, 7, 8, 9, 10, 11, 12, 13, 14, 15] rfl) [0, 1, 2, 3, 4, 5, 6, 7, 8, 9, 10, 11, 12, 13, 14, 15] [16] [1, 2, 3, 4, 5, 6, 7, 8, 9, 10, 11, 12, 13, 14, 15, 16, 0] rfl rfl (by decide) (by decide) rfl (by decide) (fun E ce q9 H locs hE hP hS _ h7 h8 h9 => ?_) (fun H locs hok hP hD hS _ => ?_)
  · have hc9 : cod1a (isW dx 1 20) (isW dy 1 20) = 1 := cod1a_1 (or_f isW_f isW_f hE.2)
    obtain ⟨rfl, -⟩ := hE
    refine vx_catch (own := RL) (name := "java/lang/IllegalArgumentException") hown [] (⟨0, 10, 13, 15⟩ : ExceptionTableEntry) [] (by rw [htab]; rfl) (fun z hz => by cases hz) (by decide) (by decide) (hts _ wm_15) (va_Nw.use rfl (hZ.1 (.castable "java/lang/IllegalArgumentException" "java/lang/IllegalArgumentException") (by decide +kernel))) h7 h8 h9 ?_
    refine W.eq (g2 := F0 m 13 ls [.ref q9]) rfl ?_
    refine lv_astore (lv' := [(4, .ref q9), (0, .ref (a 0)), (1, .int (iI dx)), (2, .int (iI dy)), (3, .ref o)]) hx hb dL_repeat_13 hl (by decide) rfl (fun ls hl => ?_)
    refine lv_iconst (v := iI 1) hx hb dL_repeat_15 rfl ?_
    refine vx_ret ?_
    subst hAe
    rw [show (if cod1a (isW dx 1 20) (isW dy 1 20) ≤ 0 then (rpF w dx dy h (wa, 0)).1 else wa) = wa from if_neg (by omega), show (if cod1a (isW dx 1 20) (isW dy 1 20) ≤ 0 then uI f 0 (zt ((rpF w dx dy h (wa, 0)).2)) else f) = f from if_neg (by omega)]
    refine z_top (b := cod1a (isW dx 1 20) (isW dy 1 20)) (hc9.symm) ?_
    exact z_iret hx hb hr hlocks hP hK hD hS (trivial) dL_repeat_16
  · have hc9 : cod1a (isW dx 1 20) (isW dy 1 20) = 0 := cod1a_0 (isW_t.mpr hok.1) (isW_t.mpr hok.2)
    have hP : va_P (dC, dI) vwCl (rpO a cA o co w h ((rpF w dx dy h (wa, 0)).1) ma ka li hk sh T kd rd dp f) H := hP
    have hD : va_D A (rpO a cA o co w h ((rpF w dx dy h (wa, 0)).1) ma ka li hk sh T kd rd dp f) := hD
    refine z_i2lt hx hb dL_repeat_8 ?_
    refine z_last (f := f) (i := 0) (x := zt ((rpF w dx dy h (wa, 0)).2)) hx hb hK hP hD hS 16 10 rfl rfl (by decide) (by decide) dL_repeat_9 (fun H locs hP hD hS => ?_)
    have hP : va_P (dC, dI) vwCl (rpO a cA o co w h ((rpF w dx dy h (wa, 0)).1) ma ka li hk sh T kd rd dp (uI f 0 (zt ((rpF w dx dy h (wa, 0)).2)))) H := hP
    have hD : va_D A (rpO a cA o co w h ((rpF w dx dy h (wa, 0)).1) ma ka li hk sh T kd rd dp (uI f 0 (zt ((rpF w dx dy h (wa, 0)).2)))) := hD
    refine lv_goto (tgt := 17) hx hb dL_repeat_10 (by decide) ?_
    refine lv_iconst (v := iI 0) hx hb dL_repeat_17 rfl ?_
    refine vx_ret ?_
    subst hAe
    rw [show (if cod1a (isW dx 1 20) (isW dy 1 20) ≤ 0 then (rpF w dx dy h (wa, 0)).1 else wa) = (rpF w dx dy h (wa, 0)).1 from if_pos (by omega), show (if cod1a (isW dx 1 20) (isW dy 1 20) ≤ 0 then uI f 0 (zt ((rpF w dx dy h (wa, 0)).2)) else f) = uI f 0 (zt ((rpF w dx dy h (wa, 0)).2)) from if_pos (by omega)]
    refine z_top (b := cod1a (isW dx 1 20) (isW dy 1 20)) (hc9.symm) ?_
    exact z_iret hx hb hr hlocks hP hK hD hS (trivial) dL_repeat_18
theorem g_L_52 : GoodIn wsAll (wsV RL 52 RX2 yX2_merge wsX2_merge) := z_good (show ∀ w ∈ (Cond.methodLink RL 52 yX2_merge :: Cond.instanceMethod yX2_merge :: Cond.selects RX2 yX2_merge yX2_merge :: Cond.initialized RX2 :: Cond.code yX2_merge prog_1_method_17_code 5 (some .int) :: wsAll), w ∈ wsAll from List.forall_mem_cons.mpr ⟨wm_388, List.forall_mem_cons.mpr ⟨wm_389, List.forall_mem_cons.mpr ⟨wm_390, List.forall_mem_cons.mpr ⟨wm_109, List.forall_mem_cons.mpr ⟨wm_391, fun _ h => h⟩⟩⟩⟩⟩)
abbrev r_L_merge : Room := { frames := 8, cells := 3, slots := 18, locals := 137 }
set_option maxHeartbeats 4000000 in
set_option maxRecDepth 100000 in
theorem c_L_merge (l : Launch) (hl9 : l.stackTraces = false) (dC : Nat → ClassId) (dI : Nat → Nat → Nat) (sz : Nat) (a : Nat → Nat) (cA : Nat → ClassId) (o : Nat) (co : ClassId) (w h : Nat) (wa ma ka li : Nat → Int) (hk sh : Int) (T : TK) (kd rd : Nat → Int) (dp : Nat → Nat → Int) (f : Nat → Int) (u v : Int) (hw : 1 ≤ w ∧ w ≤ 20) (hh : 1 ≤ h ∧ h ≤ 20) (hwa : bd wa 0 1000) (hka : bd ka 0 1000) (hk01 : hk = 0 ∨ hk = 1) (h1 : rg u) (h2 : rg v) : vx_Met l yL_merge wsL_merge r_L_merge (zP (dC, dI) vwCl (rpOT cA co) (rpO a cA o co w h wa ma ka li hk sh T kd rd dp f) sz [.ref (a 0), .int (iI u), .int (iI v), .ref o]) (zQi (dC, dI) vwCl (rpOT cA co) (rpO a cA o co w h wa ma ka li hk sh T kd rd dp f) sz (True) (codM (isW u 0 3) (isW v 0 1000) u hk) (rpO a cA o co w h (if codM (isW u 0 3) (isW v 0 1000) u hk ≤ 0 then mwF wa ka u v (w * h) else wa) ma (if codM (isW u 0 3) (isW v 0 1000) u hk ≤ 0 then mkF wa ka u (w * h) else ka) li (if codM (isW u 0 3) (isW v 0 1000) u hk ≤ 0 then mhF u hk else hk) sh T kd rd dp (if codM (isW u 0 3) (isW v 0 1000) u hk ≤ 0 then uI f 0 (zt (mrF wa ka u v (w * h))) else f))) (zX (dC, dI) vwCl (rpOT cA co) (rpO a cA o co w h wa ma ka li hk sh T kd rd dp f) sz (fun _ => False)) 3 18 (va_A (rpO a cA o co w h wa ma ka li hk sh T kd rd dp f) sz) := by
  refine vx_ofWH (cc := cL_merge) (maxL := 5) (ret := (some .int)) (hh := [(0, 10, 13, 15), (0, 10, 17, 24)]) (by decide) rfl ?_
  intro p e s m args below meth c s₁ B hml hv
  obtain ⟨rfl, hsz, hP, hK, hD0, hZ⟩ := hv
  have hx := B.exec
  have hb := B.bytes
  have hr := B.returns
  have hts0 := atoms_spec (ws := wsL_merge) B.pre
  have hts : ∀ w ∈ wsAll, w.before _ s = true := fun w h => hts0 w (List.mem_cons_of_mem _ h)
  have hown : s.vm.findClass RL = some m.cls := findClass_of_methodNamed B.named
  have hlocks := B.notSynchronized
  have htab := vx_table (x := yL_merge) B (hts0 _ List.mem_cons_self)
  subst hsz
  have hD := hD0.self (sz := s.heap.size)
  obtain ⟨A, hAe⟩ : ∃ A, A = va_A (rpO a cA o co w h wa ma ka li hk sh T kd rd dp f) s.heap.size := ⟨_, rfl⟩
  rw [← hAe] at hD hZ
  have hA : ∀ q : Nat, s.heap.size ≤ q → A q := fun q h => by rw [hAe]; exact Or.inr h
  have hS : va_S A s.heap s.heap [] := va_S.rf
  have hP : va_P (dC, dI) vwCl (rpO a cA o co w h wa ma ka li hk sh T kd rd dp f) s.heap := hP
  have hl := lv_entry ([.ref (a 0), .int (iI u), .int (iI v), .ref o]) (n := 5) (Nat.le_of_ble_eq_true rfl)
  rw [lg_entry_eq]
  generalize (lg_sl ([.ref (a 0), .int (iI u), .int (iI v), .ref o]) ++ List.replicate (5 - (lg_sl ([.ref (a 0), .int (iI u), .int (iI v), .ref o])).length) Slot.unset).toArray = ls at hl ⊢
  have hl : lv_has ls 5 [(0, .ref (a 0)), (1, .int (iI u)), (2, .int (iI v)), (3, .ref o)] := hl
  refine lv_aload_n hx hb dL_merge_0 rfl (lv_at hl 3 rfl) ?_
  refine lv_iconst (v := iI 0) hx hb dL_merge_1 rfl ?_
  refine lv_aload_n hx hb dL_merge_2 rfl (lv_at hl 0 rfl) ?_
  refine lv_iload_n hx hb dL_merge_3 rfl (lv_at hl 1 rfl) ?_
  refine lv_iload_n hx hb dL_merge_4 rfl (lv_at hl 2 rfl) ?_
  have hPc := hP.sub (ws' := rpW a cA w h wa ma ka li hk sh T kd rd dp) [0, 1, 2, 3, 4, 5, 6, 7, 8, 9, 10, 11, 12, 13, 14, 15] rfl
  have hDc := hD.sub (ws' := rpW a cA w h wa ma ka li hk sh T kd rd dp) [0, 1, 2, 3, 4, 5, 6, 7, 8, 9, 10, 11, 12, 13, 14, 15] (by decide) rfl
  have hKc := hK.sub (tys' := rpT cA) [0, 1, 2, 3, 4, 5, 6, 7, 8, 9] rfl
  have hFc := va_free (wc := rpW a cA w h wa ma ka li hk sh T kd rd dp) hD hS hA [0, 1, 2, 3, 4, 5, 6, 7, 8, 9, 10, 11, 12, 13, 14, 15] rfl
  refine z_xcalli (ws' := rpO a cA o co w h (mwF wa ka u v (w * h)) ma (mkF wa ka u (w * h)) li (mhF u hk) sh T kd rd dp f) (wr := [16].filterMap (fun z9 => (rpO a cA o co w h wa ma ka li hk sh T kd rd dp f)[z9]?)) (vx_runV (As := [.int (iI u), .int (iI v)]) (rest := [.int (iI 0), .ref o]) ⟨hx, hb, hml, hown, hts⟩ (c_X2_merge l hl9 dC dI (s.heap).size a cA w h wa ma ka li hk sh T kd rd dp u v hw hh hwa hka hk01 h1 h2) (cwV 2 hts g_L_52 rfl rfl rfl (by decide +kernel) ⟨Nat.le_of_ble_eq_true rfl, Nat.le_of_ble_eq_true rfl⟩) (zP_V (ci := 2) (q0 := 0) rfl rfl hPc hKc hDc hS hFc hZ) rfl rfl hl.1 rfl (lv_room (Nat.le_of_ble_eq_true rfl)) dL_merge_5 ⟨Nat.le_of_ble_eq_true rfl, Nat.le_of_ble_eq_true rfl⟩) hP hD hS hFc (z_subOf [0, 1, 2, 3, 4, 5, 6, 7, 8, 9, 10, 11, 12, 13, 14, 15] rfl) [0, 1, 2, 3, 4, 5, 6, 7, 8, 9, 10, 11, 12, 13, 14, 15] [16] [1, 2, 3, 4, 5, 6, 7, 8, 9, 10, 11, 12, 13, 14, 15, 16, 0] rfl rfl (by decide) (by decide) rfl (by decide) (fun E ce q9 H locs hE hP hS _ h7 h8 h9 => ?_) (fun H locs hok hP hD hS _ => ?_)
  · rcases hE with hE | hE
    · have hc9 : codM (isW u 0 3) (isW v 0 1000) u hk = 1 := codM_1 (or_f isW_f isW_f hE.2)
      obtain ⟨rfl, -⟩ := hE
      refine vx_catch (own := RL) (name := "java/lang/IllegalArgumentException") hown [] (⟨0, 10, 13, 15⟩ : ExceptionTableEntry) [(⟨0, 10, 17, 24⟩ : ExceptionTableEntry)] (by rw [htab]; rfl) (fun z hz => by cases hz) (by decide) (by decide) (hts _ wm_15) (va_Nw.use rfl (hZ.1 (.castable "java/lang/IllegalArgumentException" "java/lang/IllegalArgumentException") (by decide +kernel))) h7 h8 h9 ?_
      refine W.eq (g2 := F0 m 13 ls [.ref q9]) rfl ?_
      refine lv_astore (lv' := [(4, .ref q9), (0, .ref (a 0)), (1, .int (iI u)), (2, .int (iI v)), (3, .ref o)]) hx hb dL_merge_13 hl (by decide) rfl (fun ls hl => ?_)
      refine lv_iconst (v := iI 1) hx hb dL_merge_15 rfl ?_
      refine vx_ret ?_
      subst hAe
      rw [show (if codM (isW u 0 3) (isW v 0 1000) u hk ≤ 0 then mwF wa ka u v (w * h) else wa) = wa from if_neg (by omega), show (if codM (isW u 0 3) (isW v 0 1000) u hk ≤ 0 then mkF wa ka u (w * h) else ka) = ka from if_neg (by omega), show (if codM (isW u 0 3) (isW v 0 1000) u hk ≤ 0 then mhF u hk else hk) = hk from if_neg (by omega), show (if codM (isW u 0 3) (isW v 0 1000) u hk ≤ 0 then uI f 0 (zt (mrF wa ka u v (w * h))) else f) = f from if_neg (by omega)]
      refine z_top (b := codM (isW u 0 3) (isW v 0 1000) u hk) (hc9.symm) ?_
      exact z_iret hx hb hr hlocks hP hK hD hS (trivial) dL_merge_16
    · have hc9 : codM (isW u 0 3) (isW v 0 1000) u hk = 2 := codM_2 (isW_t.mpr hE.2.1) (isW_t.mpr hE.2.2.1) (by have := hE.2.1; have := hE.2.2.2.1; omega) hE.2.2.2.2
      obtain ⟨rfl, -⟩ := hE
      refine vx_catch (own := RL) (name := "java/lang/IllegalStateException") hown [(⟨0, 10, 13, 15⟩ : ExceptionTableEntry)] (⟨0, 10, 17, 24⟩ : ExceptionTableEntry) [] (by rw [htab]; rfl) (fun z hz => by cases List.mem_singleton.mp hz; exact Or.inr ⟨by decide, "java/lang/IllegalArgumentException", (hts _ wm_15), hZ.2.2.1 ("java/lang/IllegalStateException", "java/lang/IllegalArgumentException") (by decide +kernel)⟩) (by decide) (by decide) (hts _ wm_86) (va_Nw.use rfl (hZ.1 (.castable "java/lang/IllegalStateException" "java/lang/IllegalStateException") (by decide +kernel))) h7 h8 h9 ?_
      refine W.eq (g2 := F0 m 17 ls [.ref q9]) rfl ?_
      refine lv_astore (lv' := [(4, .ref q9), (0, .ref (a 0)), (1, .int (iI u)), (2, .int (iI v)), (3, .ref o)]) hx hb dL_merge_17 hl (by decide) rfl (fun ls hl => ?_)
      refine lv_iconst (v := iI 2) hx hb dL_merge_19 rfl ?_
      refine vx_ret ?_
      subst hAe
      rw [show (if codM (isW u 0 3) (isW v 0 1000) u hk ≤ 0 then mwF wa ka u v (w * h) else wa) = wa from if_neg (by omega), show (if codM (isW u 0 3) (isW v 0 1000) u hk ≤ 0 then mkF wa ka u (w * h) else ka) = ka from if_neg (by omega), show (if codM (isW u 0 3) (isW v 0 1000) u hk ≤ 0 then mhF u hk else hk) = hk from if_neg (by omega), show (if codM (isW u 0 3) (isW v 0 1000) u hk ≤ 0 then uI f 0 (zt (mrF wa ka u v (w * h))) else f) = f from if_neg (by omega)]
      refine z_top (b := codM (isW u 0 3) (isW v 0 1000) u hk) (hc9.symm) ?_
      exact z_iret hx hb hr hlocks hP hK hD hS (trivial) dL_merge_20
  · have hc9 : codM (isW u 0 3) (isW v 0 1000) u hk = 0 := codM_0 (isW_t.mpr hok.1) (isW_t.mpr hok.2.1) (by have := hok.2.2; omega)
    have hP : va_P (dC, dI) vwCl (rpO a cA o co w h (mwF wa ka u v (w * h)) ma (mkF wa ka u (w * h)) li (mhF u hk) sh T kd rd dp f) H := hP
    have hD : va_D A (rpO a cA o co w h (mwF wa ka u v (w * h)) ma (mkF wa ka u (w * h)) li (mhF u hk) sh T kd rd dp f) := hD
    refine z_i2lt hx hb dL_merge_8 ?_
    refine z_last (f := f) (i := 0) (x := zt (mrF wa ka u v (w * h))) hx hb hK hP hD hS 16 10 rfl rfl (by decide) (by decide) dL_merge_9 (fun H locs hP hD hS => ?_)
    have hP : va_P (dC, dI) vwCl (rpO a cA o co w h (mwF wa ka u v (w * h)) ma (mkF wa ka u (w * h)) li (mhF u hk) sh T kd rd dp (uI f 0 (zt (mrF wa ka u v (w * h))))) H := hP
    have hD : va_D A (rpO a cA o co w h (mwF wa ka u v (w * h)) ma (mkF wa ka u (w * h)) li (mhF u hk) sh T kd rd dp (uI f 0 (zt (mrF wa ka u v (w * h))))) := hD
    refine lv_goto (tgt := 21) hx hb dL_merge_10 (by decide) ?_
    refine lv_iconst (v := iI 0) hx hb dL_merge_21 rfl ?_
    refine vx_ret ?_
    subst hAe
    rw [show (if codM (isW u 0 3) (isW v 0 1000) u hk ≤ 0 then mwF wa ka u v (w * h) else wa) = mwF wa ka u v (w * h) from if_pos (by omega), show (if codM (isW u 0 3) (isW v 0 1000) u hk ≤ 0 then mkF wa ka u (w * h) else ka) = mkF wa ka u (w * h) from if_pos (by omega), show (if codM (isW u 0 3) (isW v 0 1000) u hk ≤ 0 then mhF u hk else hk) = mhF u hk from if_pos (by omega), show (if codM (isW u 0 3) (isW v 0 1000) u hk ≤ 0 then uI f 0 (zt (mrF wa ka u v (w * h))) else f) = uI f 0 (zt (mrF wa ka u v (w * h))) from if_pos (by omega)]
    refine z_top (b := codM (isW u 0 3) (isW v 0 1000) u hk) (hc9.symm) ?_
    exact z_iret hx hb hr hlocks hP hK hD hS (trivial) dL_merge_22
