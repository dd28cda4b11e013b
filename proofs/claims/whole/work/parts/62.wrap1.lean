def rpO (a : Nat → Nat) (cA : Nat → ClassId) (o : Nat) (co : ClassId) (w h : Nat) (wa ma ka li : Nat → Int) (hk sh : Int) (T : TK) (kd rd : Nat → Int) (dp : Nat → Nat → Int) (f : Nat → Int) : va_W := [(a 0, oI 2 [.int (iI (w : Int)), .int (iI (h : Int)), .ref (a 1), .ref (a 2), .ref (a 3), .ref (a 4), .ref (a 5), .ref (a 6), .int (iI hk), .int (iI sh)]), (a 1, aI (cA 0) (w * h) wa), (a 2, aI (cA 1) (w * h) ma), (a 3, aI (cA 2) (w * h) ka), (a 4, aI (cA 3) (w * h) li), (a 5, aQ (cA 4) 4 (fun j => a (8 + j))), (a 6, oI 1 [.ref (a 7), .int (iI T.2.1), .long (lI T.2.2.1), .int (iI T.2.2.2.1), .int (iI T.2.2.2.2.1), .int (iI T.2.2.2.2.2)]), (a 7, aI (cA 5) 2000 T.1), (a 8, oI 0 [.int (iI (kd 0)), .int (iI (rd 0)), .ref (a 12)]), (a 9, oI 0 [.int (iI (kd 1)), .int (iI (rd 1)), .ref (a 13)]), (a 10, oI 0 [.int (iI (kd 2)), .int (iI (rd 2)), .ref (a 14)]), (a 11, oI 0 [.int (iI (kd 3)), .int (iI (rd 3)), .ref (a 15)]), (a 12, aI (cA 6) 121 (dp 0)), (a 13, aI (cA 7) 121 (dp 1)), (a 14, aI (cA 8) 121 (dp 2)), (a 15, aI (cA 9) 121 (dp 3)), (o, aL co 1 f)]
def rpOT (cA : Nat → ClassId) (co : ClassId) : List (ClassId × FieldType) := [(cA 0, .int), (cA 1, .int), (cA 2, .int), (cA 3, .int), (cA 4, .object "ReliefPasses$Tool"), (cA 5, .int), (cA 6, .int), (cA 7, .int), (cA 8, .int), (cA 9, .int), (co, .long)]
theorem g_L_7 : GoodIn wsAll (wsV RL 7 RX2 yX2_put wsX2_put) := z_good (show ∀ w ∈ (Cond.methodLink RL 7 yX2_put :: Cond.instanceMethod yX2_put :: Cond.selects RX2 yX2_put yX2_put :: Cond.initialized RX2 :: Cond.code yX2_put prog_1_method_2_code 4 (some .boolean) :: wsAll), w ∈ wsAll from List.forall_mem_cons.mpr ⟨wm_226, List.forall_mem_cons.mpr ⟨wm_227, List.forall_mem_cons.mpr ⟨wm_228, List.forall_mem_cons.mpr ⟨wm_109, List.forall_mem_cons.mpr ⟨wm_229, fun _ h => h⟩⟩⟩⟩⟩)
abbrev r_L_put : Room := { frames := 8, cells := 2, slots := 12, locals := 136 }
set_option maxHeartbeats 4000000 in
set_option maxRecDepth 100000 in
theorem c_L_put (l : Launch) (hl9 : l.stackTraces = false) (dC : Nat → ClassId) (dI : Nat → Nat → Nat) (sz : Nat) (a : Nat → Nat) (cA : Nat → ClassId) (o : Nat) (co : ClassId) (w h : Nat) (wa ma ka li : Nat → Int) (hk sh : Int) (T : TK) (kd rd : Nat → Int) (dp : Nat → Nat → Int) (f : Nat → Int) (x y v : Int) (hw : 1 ≤ w ∧ w ≤ 20) (hh : 1 ≤ h ∧ h ≤ 20) (h1 : rg x) (h2 : rg y) (h3 : rg v) (hwa : bd wa 0 1000) : vx_Met l yL_put wsL_put r_L_put (zP (dC, dI) vwCl (rpOT cA co) (rpO a cA o co w h wa ma ka li hk sh T kd rd dp f) sz [.ref (a 0), .int (iI x), .int (iI y), .int (iI v), .ref o]) (zQi (dC, dI) vwCl (rpOT cA co) (rpO a cA o co w h wa ma ka li hk sh T kd rd dp f) sz (True) (cod2 (plB w h x y) (isW v 0 1000)) (rpO a cA o co w h (if cod2 (plB w h x y) (isW v 0 1000) ≤ 0 then uI wa (y * (w : Int) + x).toNat v else wa) ma ka li hk sh T kd rd dp (if cod2 (plB w h x y) (isW v 0 1000) ≤ 0 then uI f 0 (if wa (y * (w : Int) + x).toNat = v then 0 else 1) else f))) (zX (dC, dI) vwCl (rpOT cA co) (rpO a cA o co w h wa ma ka li hk sh T kd rd dp f) sz (fun _ => False)) 2 12 (va_A (rpO a cA o co w h wa ma ka li hk sh T kd rd dp f) sz) := by
  refine vx_ofWH (cc := cL_put) (maxL := 6) (ret := (some .int)) (hh := [(0, 19, 22, 13), (0, 19, 26, 15)]) (by decide) rfl ?_
  intro p e s m args below meth c s₁ B hml hv
  obtain ⟨rfl, hsz, hP, hK, hD0, hZ⟩ := hv
  have hx := B.exec
  have hb := B.bytes
  have hr := B.returns
  have hts0 := atoms_spec (ws := wsL_put) B.pre
  have hts : ∀ w ∈ wsAll, w.before _ s = true := fun w h => hts0 w (List.mem_cons_of_mem _ h)
  have hown : s.vm.findClass RL = some m.cls := findClass_of_methodNamed B.named
  have hlocks := B.notSynchronized
  have htab := vx_table (x := yL_put) B (hts0 _ List.mem_cons_self)
  subst hsz
  have hD := hD0.self (sz := s.heap.size)
  obtain ⟨A, hAe⟩ : ∃ A, A = va_A (rpO a cA o co w h wa ma ka li hk sh T kd rd dp f) s.heap.size := ⟨_, rfl⟩
  rw [← hAe] at hD hZ
  have hA : ∀ q : Nat, s.heap.size ≤ q → A q := fun q h => by rw [hAe]; exact Or.inr h
  have hS : va_S A s.heap s.heap [] := va_S.rf
  have hP : va_P (dC, dI) vwCl (rpO a cA o co w h wa ma ka li hk sh T kd rd dp f) s.heap := hP
  have hl := lv_entry ([.ref (a 0), .int (iI x), .int (iI y), .int (iI v), .ref o]) (n := 6) (Nat.le_of_ble_eq_true rfl)
  rw [lg_entry_eq]
  generalize (lg_sl ([.ref (a 0), .int (iI x), .int (iI y), .int (iI v), .ref o]) ++ List.replicate (6 - (lg_sl ([.ref (a 0), .int (iI x), .int (iI y), .int (iI v), .ref o])).length) Slot.unset).toArray = ls at hl ⊢
  have hl : lv_has ls 6 [(0, .ref (a 0)), (1, .int (iI x)), (2, .int (iI y)), (3, .int (iI v)), (4, .ref o)] := hl
  refine lv_aload hx hb dL_put_0 (lv_at hl 4 rfl) ?_
  refine lv_iconst (v := iI 0) hx hb dL_put_2 rfl ?_
  refine lv_aload_n hx hb dL_put_3 rfl (lv_at hl 0 rfl) ?_
  refine lv_iload_n hx hb dL_put_4 rfl (lv_at hl 1 rfl) ?_
  refine lv_iload_n hx hb dL_put_5 rfl (lv_at hl 2 rfl) ?_
  refine lv_iload_n hx hb dL_put_6 rfl (lv_at hl 3 rfl) ?_
  have hPc := hP.sub (ws' := rpW a cA w h wa ma ka li hk sh T kd rd dp) [0, 1, 2, 3, 4, 5, 6, 7, 8, 9, 10, 11, 12, 13, 14, 15] rfl
  have hDc := hD.sub (ws' := rpW a cA w h wa ma ka li hk sh T kd rd dp) [0, 1, 2, 3, 4, 5, 6, 7, 8, 9, 10, 11, 12, 13, 14, 15] (by decide) rfl
  have hKc := hK.sub (tys' := rpT cA) [0, 1, 2, 3, 4, 5, 6, 7, 8, 9] rfl
  have hFc := va_free (wc := rpW a cA w h wa ma ka li hk sh T kd rd dp) hD hS hA [0, 1, 2, 3, 4, 5, 6, 7, 8, 9, 10, 11, 12, 13, 14, 15] rfl
  refine z_xcalli (ws' := rpO a cA o co w h (uI wa (y * (w : Int) + x).toNat v) ma ka li hk sh T kd rd dp f) (wr := [16].filterMap (fun z9 => (rpO a cA o co w h wa ma ka li hk sh T kd rd dp f)[z9]?)) (vx_runV (As := [.int (iI x), .int (iI y), .int (iI v)]) (rest := [.int (iI 0), .ref o]) ⟨hx, hb, hml, hown, hts⟩ (c_X2_put l hl9 dC dI (s.heap).size a cA w h wa ma ka li hk sh T kd rd dp x y v hw hh h1 h2 h3 hwa) (cwV 3 hts g_L_7 rfl rfl rfl (by decide +kernel) ⟨Nat.le_of_ble_eq_true rfl, Nat.le_of_ble_eq_true rfl⟩) (zP_V (ci := 2) (q0 := 0) rfl rfl hPc hKc hDc hS hFc hZ) rfl rfl hl.1 rfl (lv_room (Nat.le_of_ble_eq_true rfl)) dL_put_7 ⟨Nat.le_of_ble_eq_true rfl, Nat.le_of_ble_eq_true rfl⟩) hP hD hS hFc (z_subOf [0, 1, 2, 3, 4, 5, 6, 7, 8, 9, 10, 11, 12, 13, 14, 15] rfl) [0, 1, 2, 3, 4, 5, 6, 7, 8, 9, 10, 11, 12, 13, 14, 15] [16] [1, 2, 3, 4, 5, 6, 7, 8, 9, 10, 11, 12, 13, 14, 15, 16, 0] rfl rfl (by decide) (by decide) rfl (by decide) (fun E ce q9 H locs hE hP hS _ h7 h8 h9 => ?_) (fun H locs hok hP hD hS _ => ?_)
  · rcases hE with hE | hE
    · have hc9 : cod2 (plB w h x y) (isW v 0 1000) = 1 := cod2_1 (plB_f.mpr hE.2)
      obtain ⟨rfl, -⟩ := hE
      refine vx_catch (own := RL) (name := "java/lang/IndexOutOfBoundsException") hown [] (⟨0, 19, 22, 13⟩ : ExceptionTableEntry) [(⟨0, 19, 26, 15⟩ : ExceptionTableEntry)] (by rw [htab]; rfl) (fun z hz => by cases hz) (by decide) (by decide) (hts _ wm_14) (va_Nw.use rfl (hZ.1 (.castable "java/lang/IndexOutOfBoundsException" "java/lang/IndexOutOfBoundsException") (by decide +kernel))) h7 h8 h9 ?_
      refine W.eq (g2 := F0 m 22 ls [.ref q9]) rfl ?_
      refine lv_astore (lv' := [(5, .ref q9), (0, .ref (a 0)), (1, .int (iI x)), (2, .int (iI y)), (3, .int (iI v)), (4, .ref o)]) hx hb dL_put_22 hl (by decide) rfl (fun ls hl => ?_)
      refine lv_iconst (v := iI 1) hx hb dL_put_24 rfl ?_
      refine vx_ret ?_
      subst hAe
      rw [show (if cod2 (plB w h x y) (isW v 0 1000) ≤ 0 then uI wa (y * (w : Int) + x).toNat v else wa) = wa from if_neg (by omega), show (if cod2 (plB w h x y) (isW v 0 1000) ≤ 0 then uI f 0 (if wa (y * (w : Int) + x).toNat = v then 0 else 1) else f) = f from if_neg (by omega)]
      refine z_top (b := cod2 (plB w h x y) (isW v 0 1000)) (hc9.symm) ?_
      exact z_iret hx hb hr hlocks hP hK hD hS (trivial) dL_put_25
    · have hc9 : cod2 (plB w h x y) (isW v 0 1000) = 2 := cod2_2 (plB_t.mpr hE.2.1) (isW_f.mpr hE.2.2)
      obtain ⟨rfl, -⟩ := hE
      refine vx_catch (own := RL) (name := "java/lang/IllegalArgumentException") hown [(⟨0, 19, 22, 13⟩ : ExceptionTableEntry)] (⟨0, 19, 26, 15⟩ : ExceptionTableEntry) [] (by rw [htab]; rfl) (fun z hz => by cases List.mem_singleton.mp hz; exact Or.inr ⟨by decide, "java/lang/IndexOutOfBoundsException", (hts _ wm_14), hZ.2.2.1 ("java/lang/IllegalArgumentException", "java/lang/IndexOutOfBoundsException") (by decide +kernel)⟩) (by decide) (by decide) (hts _ wm_15) (va_Nw.use rfl (hZ.1 (.castable "java/lang/IllegalArgumentException" "java/lang/IllegalArgumentException") (by decide +kernel))) h7 h8 h9 ?_
      refine W.eq (g2 := F0 m 26 ls [.ref q9]) rfl ?_
      refine lv_astore (lv' := [(5, .ref q9), (0, .ref (a 0)), (1, .int (iI x)), (2, .int (iI y)), (3, .int (iI v)), (4, .ref o)]) hx hb dL_put_26 hl (by decide) rfl (fun ls hl => ?_)
      refine lv_iconst (v := iI 2) hx hb dL_put_28 rfl ?_
      refine vx_ret ?_
      subst hAe
      rw [show (if cod2 (plB w h x y) (isW v 0 1000) ≤ 0 then uI wa (y * (w : Int) + x).toNat v else wa) = wa from if_neg (by omega), show (if cod2 (plB w h x y) (isW v 0 1000) ≤ 0 then uI f 0 (if wa (y * (w : Int) + x).toNat = v then 0 else 1) else f) = f from if_neg (by omega)]
      refine z_top (b := cod2 (plB w h x y) (isW v 0 1000)) (hc9.symm) ?_
      exact z_iret hx hb hr hlocks hP hK hD hS (trivial) dL_put_29
  · have hc9 : cod2 (plB w h x y) (isW v 0 1000) = 0 := cod2_0 (plB_t.mpr hok.1) (isW_t.mpr hok.2)
    have hP : va_P (dC, dI) vwCl (rpO a cA o co w h (uI wa (y * (w : Int) + x).toNat v) ma ka li hk sh T kd rd dp f) H := hP
    have hD : va_D A (rpO a cA o co w h (uI wa (y * (w : Int) + x).toNat v) ma ka li hk sh T kd rd dp f) := hD
    refine z_if_eq (tgt := 17) hx hb dL_put_10 (by decide) (by split <;> omega) (fun c10 => ?_) (fun c10 => ?_)
    · refine lv_lconst (v := lI 0) hx hb dL_put_17 (by decide) ?_
      refine z_topl (b := if wa (y * (w : Int) + x).toNat = v then 0 else 1) (by revert c10; split <;> intro c10 <;> first | rfl | (exfalso; omega)) ?_
      refine z_last (f := f) (i := 0) (x := if wa (y * (w : Int) + x).toNat = v then 0 else 1) hx hb hK hP hD hS 16 10 rfl rfl (by decide) (by decide) dL_put_18 (fun H locs hP hD hS => ?_)
      have hP : va_P (dC, dI) vwCl (rpO a cA o co w h (uI wa (y * (w : Int) + x).toNat v) ma ka li hk sh T kd rd dp (uI f 0 (if wa (y * (w : Int) + x).toNat = v then 0 else 1))) H := hP
      have hD : va_D A (rpO a cA o co w h (uI wa (y * (w : Int) + x).toNat v) ma ka li hk sh T kd rd dp (uI f 0 (if wa (y * (w : Int) + x).toNat = v then 0 else 1))) := hD
      refine lv_goto (tgt := 30) hx hb dL_put_19 (by decide) ?_
      refine lv_iconst (v := iI 0) hx hb dL_put_30 rfl ?_
      refine vx_ret ?_
      subst hAe
      rw [show (if cod2 (plB w h x y) (isW v 0 1000) ≤ 0 then uI wa (y * (w : Int) + x).toNat v else wa) = uI wa (y * (w : Int) + x).toNat v from if_pos (by omega), show (if cod2 (plB w h x y) (isW v 0 1000) ≤ 0 then uI f 0 (if wa (y * (w : Int) + x).toNat = v then 0 else 1) else f) = uI f 0 (if wa (y * (w : Int) + x).toNat = v then 0 else 1) from if_pos (by omega)]
      refine z_top (b := cod2 (plB w h x y) (isW v 0 1000)) (hc9.symm) ?_
      exact z_iret hx hb hr hlocks hP hK hD hS (trivial) dL_put_31
    · refine lv_lconst (v := lI 1) hx hb dL_put_13 (by decide) ?_
      refine lv_goto (tgt := 18) hx hb dL_put_14 (by decide) ?_
      refine z_topl (b := if wa (y * (w : Int) + x).toNat = v then 0 else 1) (by revert c10; split <;> intro c10 <;> first | rfl | (exfalso; omega)) ?_
      refine z_last (f := f) (i := 0) (x := if wa (y * (w : Int) + x).toNat = v then 0 else 1) hx hb hK hP hD hS 16 10 rfl rfl (by decide) (by decide) dL_put_18 (fun H locs hP hD hS => ?_)
      have hP : va_P (dC, dI) vwCl (rpO a cA o co w h (uI wa (y * (w : Int) + x).toNat v) ma ka li hk sh T kd rd dp (uI f 0 (if wa (y * (w : Int) + x).toNat = v then 0 else 1))) H := hP
      have hD : va_D A (rpO a cA o co w h (uI wa (y * (w : Int) + x).toNat v) ma ka li hk sh T kd rd dp (uI f 0 (if wa (y * (w : Int) + x).toNat = v then 0 else 1))) := hD
      refine lv_goto (tgt := 30) hx hb dL_put_19 (by decide) ?_
      refine lv_iconst (v := iI 0) hx hb dL_put_30 rfl ?_
      refine vx_ret ?_
      subst hAe
      rw [show (if cod2 (plB w h x y) (isW v 0 1000) ≤ 0 then uI wa (y * (w : Int) + x).toNat v else wa) = uI wa (y * (w : Int) + x).toNat v from if_pos (by omega), show (if cod2 (plB w h x y) (isW v 0 1000) ≤ 0 then uI f 0 (if wa (y * (w : Int) + x).toNat = v then 0 else 1) else f) = uI f 0 (if wa (y * (w : Int) + x).toNat = v then 0 else 1) from if_pos (by omega)]
      refine z_top (b := cod2 (plB w h x y) (isW v 0 1000)) (hc9.symm) ?_
      exact z_iret hx hb hr hlocks hP hK hD hS (trivial) dL_put_31
theorem g_L_17 : GoodIn wsAll (wsV RL 17 RX2 yX2_tool wsX2_tool) := z_good (show ∀ w ∈ (Cond.methodLink RL 17 yX2_tool :: Cond.instanceMethod yX2_tool :: Cond.selects RX2 yX2_tool yX2_tool :: Cond.initialized RX2 :: Cond.code yX2_tool prog_1_method_3_code 4 (some .boolean) :: wsAll), w ∈ wsAll from List.forall_mem_cons.mpr ⟨wm_249, List.forall_mem_cons.mpr ⟨wm_250, List.forall_mem_cons.mpr ⟨wm_251, List.forall_mem_cons.mpr ⟨wm_109, List.forall_mem_cons.mpr ⟨wm_252, fun _ h => h⟩⟩⟩⟩⟩)
abbrev r_L_tool : Room := { frames := 8, cells := 3, slots := 18, locals := 136 }
set_option maxHeartbeats 4000000 in
set_option maxRecDepth 100000 in
theorem c_L_tool (l : Launch) (hl9 : l.stackTraces = false) (dC : Nat → ClassId) (dI : Nat → Nat → Nat) (sz : Nat) (a : Nat → Nat) (cA : Nat → ClassId) (o : Nat) (co : ClassId) (w h : Nat) (wa ma ka li : Nat → Int) (hk sh : Int) (T : TK) (kd rd : Nat → Int) (dp : Nat → Nat → Int) (f : Nat → Int) (t k r : Int) (hw : 1 ≤ w ∧ w ≤ 20) (hh : 1 ≤ h ∧ h ≤ 20) (hrd : ∀ j, j < 4 → 0 ≤ rd j ∧ rd j ≤ 5) (hdp : ∀ j, j < 4 → bd (dp j) (-1) 5) (hkd : ∀ j, j < 4 → 0 ≤ kd j ∧ kd j ≤ 2) (h1 : rg t) (h2 : rg k) (h3 : rg r) : vx_Met l yL_tool wsL_tool r_L_tool (zP (dC, dI) vwCl (rpOT cA co) (rpO a cA o co w h wa ma ka li hk sh T kd rd dp f) sz [.ref (a 0), .int (iI t), .int (iI k), .int (iI r), .ref o]) (zQi (dC, dI) vwCl (rpOT cA co) (rpO a cA o co w h wa ma ka li hk sh T kd rd dp f) sz (True) (cod3 (isW t 0 3) (isW k 0 2) (isW r 0 5)) (rpO a cA o co w h wa ma ka li hk sh T (if cod3 (isW t 0 3) (isW k 0 2) (isW r 0 5) ≤ 0 then uI kd t.toNat k else kd) (if cod3 (isW t 0 3) (isW k 0 2) (isW r 0 5) ≤ 0 then uI rd t.toNat r else rd) (if cod3 (isW t 0 3) (isW k 0 2) (isW r 0 5) ≤ 0 then dpU dp t.toNat (becF k r (2 * r + 1).toNat (2 * r + 1).toNat (dp t.toNat)) else dp) (if cod3 (isW t 0 3) (isW k 0 2) (isW r 0 5) ≤ 0 then uI f 0 (if kd t.toNat = k ∧ rd t.toNat = r then 0 else 1) else f))) (zX (dC, dI) vwCl (rpOT cA co) (rpO a cA o co w h wa ma ka li hk sh T kd rd dp f) sz (fun _ => False)) 3 18 (va_A (rpO a cA o co w h wa ma ka li hk sh T kd rd dp f) sz) := by
  refine vx_ofWH (cc := cL_tool) (maxL := 6) (ret := (some .int)) (hh := [(0, 19, 22, 13), (0, 19, 26, 15)]) (by decide) rfl ?_
  intro p e s m args below meth c s₁ B hml hv
  obtain ⟨rfl, hsz, hP, hK, hD0, hZ⟩ := hv
  have hx := B.exec
  have hb := B.bytes
  have hr := B.returns
  have hts0 := atoms_spec (ws := wsL_tool) B.pre
  have hts : ∀ w ∈ wsAll, w.before _ s = true := fun w h => hts0 w (List.mem_cons_of_mem _ h)
  have hown : s.vm.findClass RL = some m.cls := findClass_of_methodNamed B.named
  have hlocks := B.notSynchronized
  have htab := vx_table (x := yL_tool) B (hts0 _ List.mem_cons_self)
  subst hsz
  have hD := hD0.self (sz := s.heap.size)
  obtain ⟨A, hAe⟩ : ∃ A, A = va_A (rpO a cA o co w h wa ma ka li hk sh T kd rd dp f) s.heap.size := ⟨_, rfl⟩
  rw [← hAe] at hD hZ
  have hA : ∀ q : Nat, s.heap.size ≤ q → A q := fun q h => by rw [hAe]; exact Or.inr h
  have hS : va_S A s.heap s.heap [] := va_S.rf
  have hP : va_P (dC, dI) vwCl (rpO a cA o co w h wa ma ka li hk sh T kd rd dp f) s.heap := hP
  have hl := lv_entry ([.ref (a 0), .int (iI t), .int (iI k), .int (iI r), .ref o]) (n := 6) (Nat.le_of_ble_eq_true rfl)
  rw [lg_entry_eq]
  generalize (lg_sl ([.ref (a 0), .int (iI t), .int (iI k), .int (iI r), .ref o]) ++ List.replicate (6 - (lg_sl ([.ref (a 0), .int (iI t), .int (iI k), .int (iI r), .ref o])).length) Slot.unset).toArray = ls at hl ⊢
  have hl : lv_has ls 6 [(0, .ref (a 0)), (1, .int (iI t)), (2, .int (iI k)), (3, .int (iI r)), (4, .ref o)] := hl
  refine lv_aload hx hb dL_tool_0 (lv_at hl 4 rfl) ?_
  refine lv_iconst (v := iI 0) hx hb dL_tool_2 rfl ?_
  refine lv_aload_n hx hb dL_tool_3 rfl (lv_at hl 0 rfl) ?_
  refine lv_iload_n hx hb dL_tool_4 rfl (lv_at hl 1 rfl) ?_
  refine lv_iload_n hx hb dL_tool_5 rfl (lv_at hl 2 rfl) ?_
  refine lv_iload_n hx hb dL_tool_6 rfl (lv_at hl 3 rfl) ?_
  have hPc := hP.sub (ws' := rpW a cA w h wa ma ka li hk sh T kd rd dp) [0, 1, 2, 3, 4, 5, 6, 7, 8, 9, 10, 11, 12, 13, 14, 15] rfl
  have hDc := hD.sub (ws' := rpW a cA w h wa ma ka li hk sh T kd rd dp) [0, 1, 2, 3, 4, 5, 6, 7, 8, 9, 10, 11, 12, 13, 14, 15] (by decide) rfl
  have hKc := hK.sub (tys' := rpT cA) [0, 1, 2, 3, 4, 5, 6, 7, 8, 9] rfl
  have hFc := va_free (wc := rpW a cA w h wa ma ka li hk sh T kd rd dp) hD hS hA [0, 1, 2, 3, 4, 5, 6, 7, 8, 9, 10, 11, 12, 13, 14, 15] rfl
  refine z_xcalli (ws' := rpO a cA o co w h wa ma ka li hk sh T (uI kd t.toNat k) (uI rd t.toNat r) (dpU dp t.toNat (becF k r (2 * r + 1).toNat (2 * r + 1).toNat (dp t.toNat))) f) (wr := [16].filterMap (fun z9 => (rpO a cA o co w h wa ma ka li hk sh T kd rd dp f)[z9]?)) (vx_runV (As := [.int (iI t), .int (iI k), .int (iI r)]) (rest := [.int (iI 0), .ref o]) ⟨hx, hb, hml, hown, hts⟩ (c_X2_tool l hl9 dC dI (s.heap).size a cA w h wa ma ka li hk sh T kd rd dp t k r hw hh hrd hdp hkd h1 h2 h3) (cwV 3 hts g_L_17 rfl rfl rfl (by decide +kernel) ⟨Nat.le_of_ble_eq_true rfl, Nat.le_of_ble_eq_true rfl⟩) (zP_V (ci := 2) (q0 := 0) rfl rfl hPc hKc hDc hS hFc hZ) rfl rfl hl.1 rfl (lv_room (Nat.le_of_ble_eq_true rfl)) dL_tool_7 ⟨Nat.le_of_ble_eq_true rfl, Nat.le_of_ble_eq_true rfl⟩) hP hD hS hFc (z_subOf [0, 1, 2, 3, 4, 5, 6, 7, 8, 9, 10, 11, 12, 13, 14, 15] rfl) [0, 1, 2, 3, 4, 5, 6, 7, 8, 9, 10, 11, 12, 13, 14, 15] [16] [1, 2, 3, 4, 5, 6, 7, 8, 9, 10, 11, 12, 13, 14, 15, 16, 0] rfl rfl (by decide) (by decide) rfl (by decide) (fun E ce q9 H locs hE hP hS _ h7 h8 h9 => ?_) (fun H locs hok hP hD hS _ => ?_)
  · rcases hE with hE | hE
    · have hc9 : cod3 (isW t 0 3) (isW k 0 2) (isW r 0 5) = 1 := cod3_1 (isW_f.mpr hE.2)
      obtain ⟨rfl, -⟩ := hE
      refine vx_catch (own := RL) (name := "java/lang/IndexOutOfBoundsException") hown [] (⟨0, 19, 22, 13⟩ : ExceptionTableEntry) [(⟨0, 19, 26, 15⟩ : ExceptionTableEntry)] (by rw [htab]; rfl) (fun z hz => by cases hz) (by decide) (by decide) (hts _ wm_14) (va_Nw.use rfl (hZ.1 (.castable "java/lang/IndexOutOfBoundsException" "java/lang/IndexOutOfBoundsException") (by decide +kernel))) h7 h8 h9 ?_
      refine W.eq (g2 := F0 m 22 ls [.ref q9]) rfl ?_
      refine lv_astore (lv' := [(5, .ref q9), (0, .ref (a 0)), (1, .int (iI t)), (2, .int (iI k)), (3, .int (iI r)), (4, .ref o)]) hx hb dL_tool_22 hl (by decide) rfl (fun ls hl => ?_)
      refine lv_iconst (v := iI 1) hx hb dL_tool_24 rfl ?_
      refine vx_ret ?_
      subst hAe
      rw [show (if cod3 (isW t 0 3) (isW k 0 2) (isW r 0 5) ≤ 0 then uI kd t.toNat k else kd) = kd from if_neg (by omega), show (if cod3 (isW t 0 3) (isW k 0 2) (isW r 0 5) ≤ 0 then uI rd t.toNat r else rd) = rd from if_neg (by omega), show (if cod3 (isW t 0 3) (isW k 0 2) (isW r 0 5) ≤ 0 then dpU dp t.toNat (becF k r (2 * r + 1).toNat (2 * r + 1).toNat (dp t.toNat)) else dp) = dp from if_neg (by omega), show (if cod3 (isW t 0 3) (isW k 0 2) (isW r 0 5) ≤ 0 then uI f 0 (if kd t.toNat = k ∧ rd t.toNat = r then 0 else 1) else f) = f from if_neg (by omega)]
      refine z_top (b := cod3 (isW t 0 3) (isW k 0 2) (isW r 0 5)) (hc9.symm) ?_
      exact z_iret hx hb hr hlocks hP hK hD hS (trivial) dL_tool_25
    · have hc9 : cod3 (isW t 0 3) (isW k 0 2) (isW r 0 5) = 2 := cod3_2 (isW_t.mpr hE.2.1) (or_f isW_f isW_f hE.2.2)
      obtain ⟨rfl, -⟩ := hE
      refine vx_catch (own := RL) (name := "java/lang/IllegalArgumentException") hown [(⟨0, 19, 22, 13⟩ : ExceptionTableEntry)] (⟨0, 19, 26, 15⟩ : ExceptionTableEntry) [] (by rw [htab]; rfl) (fun z hz => by cases List.mem_singleton.mp hz; exact Or.inr ⟨by decide, "java/lang/IndexOutOfBoundsException", (hts _ wm_14), hZ.2.2.1 ("java/lang/IllegalArgumentException", "java/lang/IndexOutOfBoundsException") (by decide +kernel)⟩) (by decide) (by decide) (hts _ wm_15) (va_Nw.use rfl (hZ.1 (.castable "java/lang/IllegalArgumentException" "java/lang/IllegalArgumentException") (by decide +kernel))) h7 h8 h9 ?_
      refine W.eq (g2 := F0 m 26 ls [.ref q9]) rfl ?_
      refine lv_astore (lv' := [(5, .ref q9), (0, .ref (a 0)), (1, .int (iI t)), (2, .int (iI k)), (3, .int (iI r)), (4, .ref o)]) hx hb dL_tool_26 hl (by decide) rfl (fun ls hl => ?_)
      refine lv_iconst (v := iI 2) hx hb dL_tool_28 rfl ?_
      refine vx_ret ?_
      subst hAe
      rw [show (if cod3 (isW t 0 3) (isW k 0 2) (isW r 0 5) ≤ 0 then uI kd t.toNat k else kd) = kd from if_neg (by omega), show (if cod3 (isW t 0 3) (isW k 0 2) (isW r 0 5) ≤ 0 then uI rd t.toNat r else rd) = rd from if_neg (by omega), show (if cod3 (isW t 0 3) (isW k 0 2) (isW r 0 5) ≤ 0 then dpU dp t.toNat (becF k r (2 * r + 1).toNat (2 * r + 1).toNat (dp t.toNat)) else dp) = dp from if_neg (by omega), show (if cod3 (isW t 0 3) (isW k 0 2) (isW r 0 5) ≤ 0 then uI f 0 (if kd t.toNat = k ∧ rd t.toNat = r then 0 else 1) else f) = f from if_neg (by omega)]
      refine z_top (b := cod3 (isW t 0 3) (isW k 0 2) (isW r 0 5)) (hc9.symm) ?_
      exact z_iret hx hb hr hlocks hP hK hD hS (trivial) dL_tool_29
  · have hc9 : cod3 (isW t 0 3) (isW k 0 2) (isW r 0 5) = 0 := cod3_0 (isW_t.mpr hok.1) (isW_t.mpr hok.2.1) (isW_t.mpr hok.2.2)
    have hP : va_P (dC, dI) vwCl (rpO a cA o co w h wa ma ka li hk sh T (uI kd t.toNat k) (uI rd t.toNat r) (dpU dp t.toNat (becF k r (2 * r + 1).toNat (2 * r + 1).toNat (dp t.toNat))) f) H := hP
    have hD : va_D A (rpO a cA o co w h wa ma ka li hk sh T (uI kd t.toNat k) (uI rd t.toNat r) (dpU dp t.toNat (becF k r (2 * r + 1).toNat (2 * r + 1).toNat (dp t.toNat))) f) := hD
    refine z_if_eq (tgt := 17) hx hb dL_tool_10 (by decide) (by split <;> omega) (fun c10 => ?_) (fun c10 => ?_)
    · refine lv_lconst (v := lI 0) hx hb dL_tool_17 (by decide) ?_
      refine z_topl (b := if kd t.toNat = k ∧ rd t.toNat = r then 0 else 1) (by revert c10; split <;> intro c10 <;> first | rfl | (exfalso; omega)) ?_
      refine z_last (f := f) (i := 0) (x := if kd t.toNat = k ∧ rd t.toNat = r then 0 else 1) hx hb hK hP hD hS 16 10 rfl rfl (by decide) (by decide) dL_tool_18 (fun H locs hP hD hS => ?_)
      have hP : va_P (dC, dI) vwCl (rpO a cA o co w h wa ma ka li hk sh T (uI kd t.toNat k) (uI rd t.toNat r) (dpU dp t.toNat (becF k r (2 * r + 1).toNat (2 * r + 1).toNat (dp t.toNat))) (uI f 0 (if kd t.toNat = k ∧ rd t.toNat = r then 0 else 1))) H := hP
      have hD : va_D A (rpO a cA o co w h wa ma ka li hk sh T (uI kd t.toNat k) (uI rd t.toNat r) (dpU dp t.toNat (becF k r (2 * r + 1).toNat (2 * r + 1).toNat (dp t.toNat))) (uI f 0 (if kd t.toNat = k ∧ rd t.toNat = r then 0 else 1))) := hD
      refine lv_goto (tgt := 30) hx hb dL_tool_19 (by decide) ?_
      refine lv_iconst (v := iI 0) hx hb dL_tool_30 rfl ?_
      refine vx_ret ?_
      subst hAe
      rw [show (if cod3 (isW t 0 3) (isW k 0 2) (isW r 0 5) ≤ 0 then uI kd t.toNat k else kd) = uI kd t.toNat k from if_pos (by omega), show (if cod3 (isW t 0 3) (isW k 0 2) (isW r 0 5) ≤ 0 then uI rd t.toNat r else rd) = uI rd t.toNat r from if_pos (by omega), show (if cod3 (isW t 0 3) (isW k 0 2) (isW r 0 5) ≤ 0 then dpU dp t.toNat (becF k r (2 * r + 1).toNat (2 * r + 1).toNat (dp t.toNat)) else dp) = dpU dp t.toNat (becF k r (2 * r + 1).toNat (2 * r + 1).toNat (dp t.toNat)) from if_pos (by omega), show (if cod3 (isW t 0 3) (isW k 0 2) (isW r 0 5) ≤ 0 then uI f 0 (if kd t.toNat = k ∧ rd t.toNat = r then 0 else 1) else f) = uI f 0 (if kd t.toNat = k ∧ rd t.toNat = r then 0 else 1) from if_pos (by omega)]
      refine z_top (b := cod3 (isW t 0 3) (isW k 0 2) (isW r 0 5)) (hc9.symm) ?_
      exact z_iret hx hb hr hlocks hP hK hD hS (trivial) dL_tool_31
    · refine lv_lconst (v := lI 1) hx hb dL_tool_13 (by decide) ?_
      refine lv_goto (tgt := 18) hx hb dL_tool_14 (by decide) ?_
      refine z_topl (b := if kd t.toNat = k ∧ rd t.toNat = r then 0 else 1) (by revert c10; split <;> intro c10 <;> first | rfl | (exfalso; omega)) ?_
      refine z_last (f := f) (i := 0) (x := if kd t.toNat = k ∧ rd t.toNat = r then 0 else 1) hx hb hK hP hD hS 16 10 rfl rfl (by decide) (by decide) dL_tool_18 (fun H locs hP hD hS => ?_)
      have hP : va_P (dC, dI) vwCl (rpO a cA o co w h wa ma ka li hk sh T (uI kd t.toNat k) (uI rd t.toNat r) (dpU dp t.toNat (becF k r (2 * r + 1).toNat (2 * r + 1).toNat (dp t.toNat))) (uI f 0 (if kd t.toNat = k ∧ rd t.toNat = r then 0 else 1))) H := hP
      have hD : va_D A (rpO a cA o co w h wa ma ka li hk sh T (uI kd t.toNat k) (uI rd t.toNat r) (dpU dp t.toNat (becF k r (2 * r + 1).toNat (2 * r + 1).toNat (dp t.toNat))) (uI f 0 (if kd t.toNat = k ∧ rd t.toNat = r then 0 else 1))) := hD
      refine lv_goto (tgt := 30) hx hb dL_tool_19 (by decide) ?_
      refine lv_iconst (v := iI 0) hx hb dL_tool_30 rfl ?_
      refine vx_ret ?_
      subst hAe
      rw [show (if cod3 (isW t 0 3) (isW k 0 2) (isW r 0 5) ≤ 0 then uI kd t.toNat k else kd) = uI kd t.toNat k from if_pos (by omega), show (if cod3 (isW t 0 3) (isW k 0 2) (isW r 0 5) ≤ 0 then uI rd t.toNat r else rd) = uI rd t.toNat r from if_pos (by omega), show (if cod3 (isW t 0 3) (isW k 0 2) (isW r 0 5) ≤ 0 then dpU dp t.toNat (becF k r (2 * r + 1).toNat (2 * r + 1).toNat (dp t.toNat)) else dp) = dpU dp t.toNat (becF k r (2 * r + 1).toNat (2 * r + 1).toNat (dp t.toNat)) from if_pos (by omega), show (if cod3 (isW t 0 3) (isW k 0 2) (isW r 0 5) ≤ 0 then uI f 0 (if kd t.toNat = k ∧ rd t.toNat = r then 0 else 1) else f) = uI f 0 (if kd t.toNat = k ∧ rd t.toNat = r then 0 else 1) from if_pos (by omega)]
      refine z_top (b := cod3 (isW t 0 3) (isW k 0 2) (isW r 0 5)) (hc9.symm) ?_
      exact z_iret hx hb hr hlocks hP hK hD hS (trivial) dL_tool_31
theorem g_L_20 : GoodIn wsAll (wsV RL 20 RX2 yX2_stock wsX2_stock) := z_good (show ∀ w ∈ (Cond.methodLink RL 20 yX2_stock :: Cond.instanceMethod yX2_stock :: Cond.selects RX2 yX2_stock yX2_stock :: Cond.initialized RX2 :: Cond.code yX2_stock prog_1_method_4_code 3 (some .int) :: wsAll), w ∈ wsAll from List.forall_mem_cons.mpr ⟨wm_275, List.forall_mem_cons.mpr ⟨wm_276, List.forall_mem_cons.mpr ⟨wm_277, List.forall_mem_cons.mpr ⟨wm_109, List.forall_mem_cons.mpr ⟨wm_278, fun _ h => h⟩⟩⟩⟩⟩)
abbrev r_L_stock : Room := { frames := 8, cells := 2, slots := 12, locals := 135 }
set_option maxHeartbeats 4000000 in
set_option maxRecDepth 100000 in
theorem c_L_stock (l : Launch) (hl9 : l.stackTraces = false) (dC : Nat → ClassId) (dI : Nat → Nat → Nat) (sz : Nat) (a : Nat → Nat) (cA : Nat → ClassId) (o : Nat) (co : ClassId) (w h : Nat) (wa ma ka li : Nat → Int) (hk sh : Int) (T : TK) (kd rd : Nat → Int) (dp : Nat → Nat → Int) (f : Nat → Int) (v : Int) (hw : 1 ≤ w ∧ w ≤ 20) (hh : 1 ≤ h ∧ h ≤ 20) (hwa : bd wa 0 1000) (h1 : rg v) : vx_Met l yL_stock wsL_stock r_L_stock (zP (dC, dI) vwCl (rpOT cA co) (rpO a cA o co w h wa ma ka li hk sh T kd rd dp f) sz [.ref (a 0), .int (iI v), .ref o]) (zQi (dC, dI) vwCl (rpOT cA co) (rpO a cA o co w h wa ma ka li hk sh T kd rd dp f) sz (True) (codS (isW v 1 1000) (gwF wa (w * h)) v) (rpO a cA o co w h wa (if codS (isW v 1 1000) (gwF wa (w * h)) v ≤ 0 then flF v (w * h) ma else ma) ka li hk (if codS (isW v 1 1000) (gwF wa (w * h)) v ≤ 0 then v else sh) T kd rd dp (if codS (isW v 1 1000) (gwF wa (w * h)) v ≤ 0 then uI f 0 (zt (gwF wa (w * h))) else f))) (zX (dC, dI) vwCl (rpOT cA co) (rpO a cA o co w h wa ma ka li hk sh T kd rd dp f) sz (fun _ => False)) 2 12 (va_A (rpO a cA o co w h wa ma ka li hk sh T kd rd dp f) sz) := by
  refine vx_ofWH (cc := cL_stock) (maxL := 4) (ret := (some .int)) (hh := [(0, 9, 12, 15), (0, 9, 15, 24)]) (by decide) rfl ?_
  intro p e s m args below meth c s₁ B hml hv
  obtain ⟨rfl, hsz, hP, hK, hD0, hZ⟩ := hv
  have hx := B.exec
  have hb := B.bytes
  have hr := B.returns
  have hts0 := atoms_spec (ws := wsL_stock) B.pre
  have hts : ∀ w ∈ wsAll, w.before _ s = true := fun w h => hts0 w (List.mem_cons_of_mem _ h)
  have hown : s.vm.findClass RL = some m.cls := findClass_of_methodNamed B.named
  have hlocks := B.notSynchronized
  have htab := vx_table (x := yL_stock) B (hts0 _ List.mem_cons_self)
  subst hsz
  have hD := hD0.self (sz := s.heap.size)
  obtain ⟨A, hAe⟩ : ∃ A, A = va_A (rpO a cA o co w h wa ma ka li hk sh T kd rd dp f) s.heap.size := ⟨_, rfl⟩
  rw [← hAe] at hD hZ
  have hA : ∀ q : Nat, s.heap.size ≤ q → A q := fun q h => by rw [hAe]; exact Or.inr h
  have hS : va_S A s.heap s.heap [] := va_S.rf
  have hP : va_P (dC, dI) vwCl (rpO a cA o co w h wa ma ka li hk sh T kd rd dp f) s.heap := hP
  have hl := lv_entry ([.ref (a 0), .int (iI v), .ref o]) (n := 4) (Nat.le_of_ble_eq_true rfl)
  rw [lg_entry_eq]
  generalize (lg_sl ([.ref (a 0), .int (iI v), .ref o]) ++ List.replicate (4 - (lg_sl ([.ref (a 0), .int (iI v), .ref o])).length) Slot.unset).toArray = ls at hl ⊢
  have hl : lv_has ls 4 [(0, .ref (a 0)), (1, .int (iI v)), (2, .ref o)] := hl
  refine lv_aload_n hx hb dL_stock_0 rfl (lv_at hl 2 rfl) ?_
  refine lv_iconst (v := iI 0) hx hb dL_stock_1 rfl ?_
  refine lv_aload_n hx hb dL_stock_2 rfl (lv_at hl 0 rfl) ?_
  refine lv_iload_n hx hb dL_stock_3 rfl (lv_at hl 1 rfl) ?_
  have hPc := hP.sub (ws' := rpW a cA w h wa ma ka li hk sh T kd rd dp) [0, 1, 2, 3, 4, 5, 6, 7, 8, 9, 10, 11, 12, 13, 14, 15] rfl
  have hDc := hD.sub (ws' := rpW a cA w h wa ma ka li hk sh T kd rd dp) [0, 1, 2, 3, 4, 5, 6, 7, 8, 9, 10, 11, 12, 13, 14, 15] (by decide) rfl
  have hKc := hK.sub (tys' := rpT cA) [0, 1, 2, 3, 4, 5, 6, 7, 8, 9] rfl
  have hFc := va_free (wc := rpW a cA w h wa ma ka li hk sh T kd rd dp) hD hS hA [0, 1, 2, 3, 4, 5, 6, 7, 8, 9, 10, 11, 12, 13, 14, 15] rfl
  refine z_xcalli (ws' := rpO a cA o co w h wa (flF v (w * h) ma) ka li hk v T kd rd dp f) (wr := [16].filterMap (fun z9 => (rpO a cA o co w h wa ma ka li hk sh T kd rd dp f)[z9]?)) (vx_runV (As := [.int (iI v)]) (rest := [.int (iI 0), .ref o]) ⟨hx, hb, hml, hown, hts⟩ (c_X2_stock l hl9 dC dI (s.heap).size a cA w h wa ma ka li hk sh T kd rd dp v hw hh hwa h1) (cwV 1 hts g_L_20 rfl rfl rfl (by decide +kernel) ⟨Nat.le_of_ble_eq_true rfl, Nat.le_of_ble_eq_true rfl⟩) (zP_V (ci := 2) (q0 := 0) rfl rfl hPc hKc hDc hS hFc hZ) rfl rfl hl.1 rfl (lv_room (Nat.le_of_ble_eq_true rfl)) dL_stock_4 ⟨Nat.le_of_ble_eq_true rfl, Nat.le_of_ble_eq_true rfl⟩) hP hD hS hFc (z_subOf [0, 1, 2, 3, 4, 5, 6, 7, 8, 9, 10, 11, 12, 13, 14, 15] rfl) [0, 1, 2, 3, 4, 5, 6, 7, 8, 9, 10, 11, 12, 13, 14, 15] [16] [1, 2, 3, 4, 5, 6, 7, 8, 9, 10, 11, 12, 13, 14, 15, 16, 0] rfl rfl (by decide) (by decide) rfl (by decide) (fun E ce q9 H locs hE hP hS _ h7 h8 h9 => ?_) (fun H locs hok hP hD hS _ => ?_)
  · rcases hE with hE | hE
    · have hc9 : codS (isW v 1 1000) (gwF wa (w * h)) v = 1 := codS_1 (isW_f.mpr hE.2)
      obtain ⟨rfl, -⟩ := hE
      refine vx_catch (own := RL) (name := "java/lang/IllegalArgumentException") hown [] (⟨0, 9, 12, 15⟩ : ExceptionTableEntry) [(⟨0, 9, 15, 24⟩ : ExceptionTableEntry)] (by rw [htab]; rfl) (fun z hz => by cases hz) (by decide) (by decide) (hts _ wm_15) (va_Nw.use rfl (hZ.1 (.castable "java/lang/IllegalArgumentException" "java/lang/IllegalArgumentException") (by decide +kernel))) h7 h8 h9 ?_
      refine W.eq (g2 := F0 m 12 ls [.ref q9]) rfl ?_
      refine lv_astore_n (lv' := [(3, .ref q9), (0, .ref (a 0)), (1, .int (iI v)), (2, .ref o)]) hx hb dL_stock_12 rfl hl (by decide) rfl (fun ls hl => ?_)
      refine lv_iconst (v := iI 1) hx hb dL_stock_13 rfl ?_
      refine vx_ret ?_
      subst hAe
      rw [show (if codS (isW v 1 1000) (gwF wa (w * h)) v ≤ 0 then flF v (w * h) ma else ma) = ma from if_neg (by omega), show (if codS (isW v 1 1000) (gwF wa (w * h)) v ≤ 0 then v else sh) = sh from if_neg (by omega), show (if codS (isW v 1 1000) (gwF wa (w * h)) v ≤ 0 then uI f 0 (zt (gwF wa (w * h))) else f) = f from if_neg (by omega)]
      refine z_top (b := codS (isW v 1 1000) (gwF wa (w * h)) v) (hc9.symm) ?_
      exact z_iret hx hb hr hlocks hP hK hD hS (trivial) dL_stock_14
    · have hc9 : codS (isW v 1 1000) (gwF wa (w * h)) v = 2 := codS_2 (isW_t.mpr hE.2.1) hE.2.2
      obtain ⟨rfl, -⟩ := hE
      refine vx_catch (own := RL) (name := "java/lang/IllegalStateException") hown [(⟨0, 9, 12, 15⟩ : ExceptionTableEntry)] (⟨0, 9, 15, 24⟩ : ExceptionTableEntry) [] (by rw [htab]; rfl) (fun z hz => by cases List.mem_singleton.mp hz; exact Or.inr ⟨by decide, "java/lang/IllegalArgumentException", (hts _ wm_15), hZ.2.2.1 ("java/lang/IllegalStateException", "java/lang/IllegalArgumentException") (by decide +kernel)⟩) (by decide) (by decide) (hts _ wm_86) (va_Nw.use rfl (hZ.1 (.castable "java/lang/IllegalStateException" "java/lang/IllegalStateException") (by decide +kernel))) h7 h8 h9 ?_
      refine W.eq (g2 := F0 m 15 ls [.ref q9]) rfl ?_
      refine lv_astore_n (lv' := [(3, .ref q9), (0, .ref (a 0)), (1, .int (iI v)), (2, .ref o)]) hx hb dL_stock_15 rfl hl (by decide) rfl (fun ls hl => ?_)
      refine lv_iconst (v := iI 2) hx hb dL_stock_16 rfl ?_
      refine vx_ret ?_
      subst hAe
      rw [show (if codS (isW v 1 1000) (gwF wa (w * h)) v ≤ 0 then flF v (w * h) ma else ma) = ma from if_neg (by omega), show (if codS (isW v 1 1000) (gwF wa (w * h)) v ≤ 0 then v else sh) = sh from if_neg (by omega), show (if codS (isW v 1 1000) (gwF wa (w * h)) v ≤ 0 then uI f 0 (zt (gwF wa (w * h))) else f) = f from if_neg (by omega)]
      refine z_top (b := codS (isW v 1 1000) (gwF wa (w * h)) v) (hc9.symm) ?_
      exact z_iret hx hb hr hlocks hP hK hD hS (trivial) dL_stock_17
  · have hc9 : codS (isW v 1 1000) (gwF wa (w * h)) v = 0 := codS_0 (isW_t.mpr hok.1) hok.2
    have hP : va_P (dC, dI) vwCl (rpO a cA o co w h wa (flF v (w * h) ma) ka li hk v T kd rd dp f) H := hP
    have hD : va_D A (rpO a cA o co w h wa (flF v (w * h) ma) ka li hk v T kd rd dp f) := hD
    refine z_i2lt hx hb dL_stock_7 ?_
    refine z_last (f := f) (i := 0) (x := zt (gwF wa (w * h))) hx hb hK hP hD hS 16 10 rfl rfl (by decide) (by decide) dL_stock_8 (fun H locs hP hD hS => ?_)
    have hP : va_P (dC, dI) vwCl (rpO a cA o co w h wa (flF v (w * h) ma) ka li hk v T kd rd dp (uI f 0 (zt (gwF wa (w * h))))) H := hP
    have hD : va_D A (rpO a cA o co w h wa (flF v (w * h) ma) ka li hk v T kd rd dp (uI f 0 (zt (gwF wa (w * h))))) := hD
    refine lv_goto (tgt := 18) hx hb dL_stock_9 (by decide) ?_
    refine lv_iconst (v := iI 0) hx hb dL_stock_18 rfl ?_
    refine vx_ret ?_
    subst hAe
    rw [show (if codS (isW v 1 1000) (gwF wa (w * h)) v ≤ 0 then flF v (w * h) ma else ma) = flF v (w * h) ma from if_pos (by omega), show (if codS (isW v 1 1000) (gwF wa (w * h)) v ≤ 0 then v else sh) = v from if_pos (by omega), show (if codS (isW v 1 1000) (gwF wa (w * h)) v ≤ 0 then uI f 0 (zt (gwF wa (w * h))) else f) = uI f 0 (zt (gwF wa (w * h))) from if_pos (by omega)]
    refine z_top (b := codS (isW v 1 1000) (gwF wa (w * h)) v) (hc9.symm) ?_
    exact z_iret hx hb hr hlocks hP hK hD hS (trivial) dL_stock_19
theorem g_L_26 : GoodIn wsAll (wsV RL 26 RX2 yX2_lift wsX2_lift) := z_good (show ∀ w ∈ (Cond.methodLink RL 26 yX2_lift :: Cond.instanceMethod yX2_lift :: Cond.selects RX2 yX2_lift yX2_lift :: Cond.initialized RX2 :: Cond.code yX2_lift prog_1_method_5_code 4 (some .int) :: wsAll), w ∈ wsAll from List.forall_mem_cons.mpr ⟨wm_285, List.forall_mem_cons.mpr ⟨wm_286, List.forall_mem_cons.mpr ⟨wm_287, List.forall_mem_cons.mpr ⟨wm_109, List.forall_mem_cons.mpr ⟨wm_288, fun _ h => h⟩⟩⟩⟩⟩)
abbrev r_L_lift : Room := { frames := 8, cells := 2, slots := 12, locals := 136 }
set_option maxHeartbeats 4000000 in
set_option maxRecDepth 100000 in
theorem c_L_lift (l : Launch) (hl9 : l.stackTraces = false) (dC : Nat → ClassId) (dI : Nat → Nat → Nat) (sz : Nat) (a : Nat → Nat) (cA : Nat → ClassId) (o : Nat) (co : ClassId) (w h : Nat) (wa ma ka li : Nat → Int) (hk sh : Int) (T : TK) (kd rd : Nat → Int) (dp : Nat → Nat → Int) (f : Nat → Int) (x y t : Int) (hw : 1 ≤ w ∧ w ≤ 20) (hh : 1 ≤ h ∧ h ≤ 20) (hrd : ∀ j, j < 4 → 0 ≤ rd j ∧ rd j ≤ 5) (hdp : ∀ j, j < 4 → bd (dp j) (-1) 5) (h1 : rg x) (h2 : rg y) (h3 : rg t) (hwa : bd wa 0 1000) : vx_Met l yL_lift wsL_lift r_L_lift (zP (dC, dI) vwCl (rpOT cA co) (rpO a cA o co w h wa ma ka li hk sh T kd rd dp f) sz [.ref (a 0), .int (iI x), .int (iI y), .int (iI t), .ref o]) (zQi (dC, dI) vwCl (rpOT cA co) (rpO a cA o co w h wa ma ka li hk sh T kd rd dp f) sz (True) (cod1a (plB w h x y) (isW t 0 3)) (rpO a cA o co w h wa ma ka li hk sh T kd rd dp (if cod1a (plB w h x y) (isW t 0 3) ≤ 0 then uI f 0 (zt (lfF w h wa (dp t.toNat) (rd t.toNat) x y (nB h (rd t.toNat) y))) else f))) (zX (dC, dI) vwCl (rpOT cA co) (rpO a cA o co w h wa ma ka li hk sh T kd rd dp f) sz (fun _ => False)) 2 12 (va_A (rpO a cA o co w h wa ma ka li hk sh T kd rd dp f) sz) := by
  refine vx_ofWH (cc := cL_lift) (maxL := 6) (ret := (some .int)) (hh := [(0, 12, 15, 13)]) (by decide) rfl ?_
  intro p e s m args below meth c s₁ B hml hv
  obtain ⟨rfl, hsz, hP, hK, hD0, hZ⟩ := hv
  have hx := B.exec
  have hb := B.bytes
  have hr := B.returns
  have hts0 := atoms_spec (ws := wsL_lift) B.pre
  have hts : ∀ w ∈ wsAll, w.before _ s = true := fun w h => hts0 w (List.mem_cons_of_mem _ h)
  have hown : s.vm.findClass RL = some m.cls := findClass_of_methodNamed B.named
  have hlocks := B.notSynchronized
  have htab := vx_table (x := yL_lift) B (hts0 _ List.mem_cons_self)
  subst hsz
  have hD := hD0.self (sz := s.heap.size)
  obtain ⟨A, hAe⟩ : ∃ A, A = va_A (rpO a cA o co w h wa ma ka li hk sh T kd rd dp f) s.heap.size := ⟨_, rfl⟩
  rw [← hAe] at hD hZ
  have hA : ∀ q : Nat, s.heap.size ≤ q → A q := fun q h => by rw [hAe]; exact Or.inr h
  have hS : va_S A s.heap s.heap [] := va_S.rf
  have hP : va_P (dC, dI) vwCl (rpO a cA o co w h wa ma ka li hk sh T kd rd dp f) s.heap := hP
  have hl := lv_entry ([.ref (a 0), .int (iI x), .int (iI y), .int (iI t), .ref o]) (n := 6) (Nat.le_of_ble_eq_true rfl)
  rw [lg_entry_eq]
  generalize (lg_sl ([.ref (a 0), .int (iI x), .int (iI y), .int (iI t), .ref o]) ++ List.replicate (6 - (lg_sl ([.ref (a 0), .int (iI x), .int (iI y), .int (iI t), .ref o])).length) Slot.unset).toArray = ls at hl ⊢
  have hl : lv_has ls 6 [(0, .ref (a 0)), (1, .int (iI x)), (2, .int (iI y)), (3, .int (iI t)), (4, .ref o)] := hl
  refine lv_aload hx hb dL_lift_0 (lv_at hl 4 rfl) ?_
  refine lv_iconst (v := iI 0) hx hb dL_lift_2 rfl ?_
  refine lv_aload_n hx hb dL_lift_3 rfl (lv_at hl 0 rfl) ?_
  refine lv_iload_n hx hb dL_lift_4 rfl (lv_at hl 1 rfl) ?_
  refine lv_iload_n hx hb dL_lift_5 rfl (lv_at hl 2 rfl) ?_
  refine lv_iload_n hx hb dL_lift_6 rfl (lv_at hl 3 rfl) ?_
  have hPc := hP.sub (ws' := rpW a cA w h wa ma ka li hk sh T kd rd dp) [0, 1, 2, 3, 4, 5, 6, 7, 8, 9, 10, 11, 12, 13, 14, 15] rfl
  have hDc := hD.sub (ws' := rpW a cA w h wa ma ka li hk sh T kd rd dp) [0, 1, 2, 3, 4, 5, 6, 7, 8, 9, 10, 11, 12, 13, 14, 15] (by decide) rfl
  have hKc := hK.sub (tys' := rpT cA) [0, 1, 2, 3, 4, 5, 6, 7, 8, 9] rfl
  have hFc := va_free (wc := rpW a cA w h wa ma ka li hk sh T kd rd dp) hD hS hA [0, 1, 2, 3, 4, 5, 6, 7, 8, 9, 10, 11, 12, 13, 14, 15] rfl
  refine z_xrcalli (vx_runV (As := [.int (iI x), .int (iI y), .int (iI t)]) (rest := [.int (iI 0), .ref o]) ⟨hx, hb, hml, hown, hts⟩ (c_X2_lift l hl9 dC dI (s.heap).size a cA w h wa ma ka li hk sh T kd rd dp x y t hw hh hrd hdp h1 h2 h3 hwa) (cwV 3 hts g_L_26 rfl rfl rfl (by decide +kernel) ⟨Nat.le_of_ble_eq_true rfl, Nat.le_of_ble_eq_true rfl⟩) (zP_V (ci := 2) (q0 := 0) rfl rfl hPc hKc hDc hS hFc hZ) rfl rfl hl.1 rfl (lv_room (Nat.le_of_ble_eq_true rfl)) dL_lift_7 ⟨Nat.le_of_ble_eq_true rfl, Nat.le_of_ble_eq_true rfl⟩) hP hD hS hFc (z_subOf [0, 1, 2, 3, 4, 5, 6, 7, 8, 9, 10, 11, 12, 13, 14, 15] rfl) (fun E ce q9 H locs hE hP hS _ h7 h8 h9 => ?_) (fun H locs hok hP hD hS _ => ?_)
  · have hc9 : cod1a (plB w h x y) (isW t 0 3) = 1 := cod1a_1 (or_f plB_f isW_f hE.2)
    obtain ⟨rfl, -⟩ := hE
    refine vx_catch (own := RL) (name := "java/lang/IndexOutOfBoundsException") hown [] (⟨0, 12, 15, 13⟩ : ExceptionTableEntry) [] (by rw [htab]; rfl) (fun z hz => by cases hz) (by decide) (by decide) (hts _ wm_14) (va_Nw.use rfl (hZ.1 (.castable "java/lang/IndexOutOfBoundsException" "java/lang/IndexOutOfBoundsException") (by decide +kernel))) h7 h8 h9 ?_
    refine W.eq (g2 := F0 m 15 ls [.ref q9]) rfl ?_
    refine lv_astore (lv' := [(5, .ref q9), (0, .ref (a 0)), (1, .int (iI x)), (2, .int (iI y)), (3, .int (iI t)), (4, .ref o)]) hx hb dL_lift_15 hl (by decide) rfl (fun ls hl => ?_)
    refine lv_iconst (v := iI 1) hx hb dL_lift_17 rfl ?_
    refine vx_ret ?_
    subst hAe
    rw [show (if cod1a (plB w h x y) (isW t 0 3) ≤ 0 then uI f 0 (zt (lfF w h wa (dp t.toNat) (rd t.toNat) x y (nB h (rd t.toNat) y))) else f) = f from if_neg (by omega)]
    refine z_top (b := cod1a (plB w h x y) (isW t 0 3)) (hc9.symm) ?_
    exact z_iret hx hb hr hlocks hP hK hD hS (trivial) dL_lift_18
  · have hc9 : cod1a (plB w h x y) (isW t 0 3) = 0 := cod1a_0 (plB_t.mpr hok.1) (isW_t.mpr hok.2)
    have hP : va_P (dC, dI) vwCl (rpO a cA o co w h wa ma ka li hk sh T kd rd dp f) H := hP
    have hD : va_D A (rpO a cA o co w h wa ma ka li hk sh T kd rd dp f) := hD
    refine z_i2lt hx hb dL_lift_10 ?_
    refine z_last (f := f) (i := 0) (x := zt (lfF w h wa (dp t.toNat) (rd t.toNat) x y (nB h (rd t.toNat) y))) hx hb hK hP hD hS 16 10 rfl rfl (by decide) (by decide) dL_lift_11 (fun H locs hP hD hS => ?_)
    have hP : va_P (dC, dI) vwCl (rpO a cA o co w h wa ma ka li hk sh T kd rd dp (uI f 0 (zt (lfF w h wa (dp t.toNat) (rd t.toNat) x y (nB h (rd t.toNat) y))))) H := hP
    have hD : va_D A (rpO a cA o co w h wa ma ka li hk sh T kd rd dp (uI f 0 (zt (lfF w h wa (dp t.toNat) (rd t.toNat) x y (nB h (rd t.toNat) y))))) := hD
    refine lv_goto (tgt := 19) hx hb dL_lift_12 (by decide) ?_
    refine lv_iconst (v := iI 0) hx hb dL_lift_19 rfl ?_
    refine vx_ret ?_
    subst hAe
    rw [show (if cod1a (plB w h x y) (isW t 0 3) ≤ 0 then uI f 0 (zt (lfF w h wa (dp t.toNat) (rd t.toNat) x y (nB h (rd t.toNat) y))) else f) = uI f 0 (zt (lfF w h wa (dp t.toNat) (rd t.toNat) x y (nB h (rd t.toNat) y))) from if_pos (by omega)]
    refine z_top (b := cod1a (plB w h x y) (isW t 0 3)) (hc9.symm) ?_
    exact z_iret hx hb hr hlocks hP hK hD hS (trivial) dL_lift_20
theorem g_L_30 : GoodIn wsAll (wsV RL 30 RX2 yX2_profile wsX2_profile) := z_good (show ∀ w ∈ (Cond.methodLink RL 30 yX2_profile :: Cond.instanceMethod yX2_profile :: Cond.selects RX2 yX2_profile yX2_profile :: Cond.initialized RX2 :: Cond.code yX2_profile prog_1_method_6_code 4 (some .int) :: wsAll), w ∈ wsAll from List.forall_mem_cons.mpr ⟨wm_299, List.forall_mem_cons.mpr ⟨wm_300, List.forall_mem_cons.mpr ⟨wm_301, List.forall_mem_cons.mpr ⟨wm_109, List.forall_mem_cons.mpr ⟨wm_302, fun _ h => h⟩⟩⟩⟩⟩)
abbrev r_L_profile : Room := { frames := 8, cells := 1, slots := 6, locals := 134 }
set_option maxHeartbeats 4000000 in
set_option maxRecDepth 100000 in
theorem c_L_profile (l : Launch) (hl9 : l.stackTraces = false) (dC : Nat → ClassId) (dI : Nat → Nat → Nat) (sz : Nat) (a : Nat → Nat) (cA : Nat → ClassId) (o : Nat) (co : ClassId) (w h : Nat) (wa ma ka li : Nat → Int) (hk sh : Int) (T : TK) (kd rd : Nat → Int) (dp : Nat → Nat → Int) (f : Nat → Int) (t x y : Int) (hw : 1 ≤ w ∧ w ≤ 20) (hh : 1 ≤ h ∧ h ≤ 20) (hrd : ∀ j, j < 4 → 0 ≤ rd j ∧ rd j ≤ 5) (hdp : ∀ j, j < 4 → bd (dp j) (-1) 5) (h1 : rg t) (h2 : rg x) (h3 : rg y) : vx_Met l yL_profile wsL_profile r_L_profile (zP (dC, dI) vwCl (rpOT cA co) (rpO a cA o co w h wa ma ka li hk sh T kd rd dp f) sz [.ref (a 0), .int (iI t), .int (iI x), .int (iI y), .ref o]) (zQi (dC, dI) vwCl (rpOT cA co) (rpO a cA o co w h wa ma ka li hk sh T kd rd dp f) sz (True) (cod1 (isW t 0 3)) (rpO a cA o co w h wa ma ka li hk sh T kd rd dp (if cod1 (isW t 0 3) ≤ 0 then uI f 0 (zt (dOv (dp t.toNat) (rd t.toNat) x y)) else f))) (zX (dC, dI) vwCl (rpOT cA co) (rpO a cA o co w h wa ma ka li hk sh T kd rd dp f) sz (fun _ => False)) 1 6 (va_A (rpO a cA o co w h wa ma ka li hk sh T kd rd dp f) sz) := by
  refine vx_ofWH (cc := cL_profile) (maxL := 6) (ret := (some .int)) (hh := [(0, 12, 15, 13)]) (by decide) rfl ?_
  intro p e s m args below meth c s₁ B hml hv
  obtain ⟨rfl, hsz, hP, hK, hD0, hZ⟩ := hv
  have hx := B.exec
  have hb := B.bytes
  have hr := B.returns
  have hts0 := atoms_spec (ws := wsL_profile) B.pre
  have hts : ∀ w ∈ wsAll, w.before _ s = true := fun w h => hts0 w (List.mem_cons_of_mem _ h)
  have hown : s.vm.findClass RL = some m.cls := findClass_of_methodNamed B.named
  have hlocks := B.notSynchronized
  have htab := vx_table (x := yL_profile) B (hts0 _ List.mem_cons_self)
  subst hsz
  have hD := hD0.self (sz := s.heap.size)
  obtain ⟨A, hAe⟩ : ∃ A, A = va_A (rpO a cA o co w h wa ma ka li hk sh T kd rd dp f) s.heap.size := ⟨_, rfl⟩
  rw [← hAe] at hD hZ
  have hA : ∀ q : Nat, s.heap.size ≤ q → A q := fun q h => by rw [hAe]; exact Or.inr h
  have hS : va_S A s.heap s.heap [] := va_S.rf
  have hP : va_P (dC, dI) vwCl (rpO a cA o co w h wa ma ka li hk sh T kd rd dp f) s.heap := hP
  have hl := lv_entry ([.ref (a 0), .int (iI t), .int (iI x), .int (iI y), .ref o]) (n := 6) (Nat.le_of_ble_eq_true rfl)
  rw [lg_entry_eq]
  generalize (lg_sl ([.ref (a 0), .int (iI t), .int (iI x), .int (iI y), .ref o]) ++ List.replicate (6 - (lg_sl ([.ref (a 0), .int (iI t), .int (iI x), .int (iI y), .ref o])).length) Slot.unset).toArray = ls at hl ⊢
  have hl : lv_has ls 6 [(0, .ref (a 0)), (1, .int (iI t)), (2, .int (iI x)), (3, .int (iI y)), (4, .ref o)] := hl
  refine lv_aload hx hb dL_profile_0 (lv_at hl 4 rfl) ?_
  refine lv_iconst (v := iI 0) hx hb dL_profile_2 rfl ?_
  refine lv_aload_n hx hb dL_profile_3 rfl (lv_at hl 0 rfl) ?_
  refine lv_iload_n hx hb dL_profile_4 rfl (lv_at hl 1 rfl) ?_
  refine lv_iload_n hx hb dL_profile_5 rfl (lv_at hl 2 rfl) ?_
  refine lv_iload_n hx hb dL_profile_6 rfl (lv_at hl 3 rfl) ?_
  have hPc := hP.sub (ws' := rpW a cA w h wa ma ka li hk sh T kd rd dp) [0, 1, 2, 3, 4, 5, 6, 7, 8, 9, 10, 11, 12, 13, 14, 15] rfl
  have hDc := hD.sub (ws' := rpW a cA w h wa ma ka li hk sh T kd rd dp) [0, 1, 2, 3, 4, 5, 6, 7, 8, 9, 10, 11, 12, 13, 14, 15] (by decide) rfl
  have hKc := hK.sub (tys' := rpT cA) [0, 1, 2, 3, 4, 5, 6, 7, 8, 9] rfl
  have hFc := va_free (wc := rpW a cA w h wa ma ka li hk sh T kd rd dp) hD hS hA [0, 1, 2, 3, 4, 5, 6, 7, 8, 9, 10, 11, 12, 13, 14, 15] rfl
  refine z_xrcalli (vx_runV (As := [.int (iI t), .int (iI x), .int (iI y)]) (rest := [.int (iI 0), .ref o]) ⟨hx, hb, hml, hown, hts⟩ (c_X2_profile l hl9 dC dI (s.heap).size a cA w h wa ma ka li hk sh T kd rd dp t x y hw hh hrd hdp h1 h2 h3) (cwV 3 hts g_L_30 rfl rfl rfl (by decide +kernel) ⟨Nat.le_of_ble_eq_true rfl, Nat.le_of_ble_eq_true rfl⟩) (zP_V (ci := 2) (q0 := 0) rfl rfl hPc hKc hDc hS hFc hZ) rfl rfl hl.1 rfl (lv_room (Nat.le_of_ble_eq_true rfl)) dL_profile_7 ⟨Nat.le_of_ble_eq_true rfl, Nat.le_of_ble_eq_true rfl⟩) hP hD hS hFc (z_subOf [0, 1, 2, 3, 4, 5, 6, 7, 8, 9, 10, 11, 12, 13, 14, 15] rfl) (fun E ce q9 H locs hE hP hS _ h7 h8 h9 => ?_) (fun H locs hok hP hD hS _ => ?_)
  · have hc9 : cod1 (isW t 0 3) = 1 := cod1_1 (isW_f.mpr hE.2)
    obtain ⟨rfl, -⟩ := hE
    refine vx_catch (own := RL) (name := "java/lang/IndexOutOfBoundsException") hown [] (⟨0, 12, 15, 13⟩ : ExceptionTableEntry) [] (by rw [htab]; rfl) (fun z hz => by cases hz) (by decide) (by decide) (hts _ wm_14) (va_Nw.use rfl (hZ.1 (.castable "java/lang/IndexOutOfBoundsException" "java/lang/IndexOutOfBoundsException") (by decide +kernel))) h7 h8 h9 ?_
    refine W.eq (g2 := F0 m 15 ls [.ref q9]) rfl ?_
    refine lv_astore (lv' := [(5, .ref q9), (0, .ref (a 0)), (1, .int (iI t)), (2, .int (iI x)), (3, .int (iI y)), (4, .ref o)]) hx hb dL_profile_15 hl (by decide) rfl (fun ls hl => ?_)
    refine lv_iconst (v := iI 1) hx hb dL_profile_17 rfl ?_
    refine vx_ret ?_
    subst hAe
    rw [show (if cod1 (isW t 0 3) ≤ 0 then uI f 0 (zt (dOv (dp t.toNat) (rd t.toNat) x y)) else f) = f from if_neg (by omega)]
    refine z_top (b := cod1 (isW t 0 3)) (hc9.symm) ?_
    exact z_iret hx hb hr hlocks hP hK hD hS (trivial) dL_profile_18
  · have hc9 : cod1 (isW t 0 3) = 0 := cod1_0 (isW_t.mpr hok)
    have hP : va_P (dC, dI) vwCl (rpO a cA o co w h wa ma ka li hk sh T kd rd dp f) H := hP
    have hD : va_D A (rpO a cA o co w h wa ma ka li hk sh T kd rd dp f) := hD
    refine z_i2lt hx hb dL_profile_10 ?_
    refine z_last (f := f) (i := 0) (x := zt (dOv (dp t.toNat) (rd t.toNat) x y)) hx hb hK hP hD hS 16 10 rfl rfl (by decide) (by decide) dL_profile_11 (fun H locs hP hD hS => ?_)
    have hP : va_P (dC, dI) vwCl (rpO a cA o co w h wa ma ka li hk sh T kd rd dp (uI f 0 (zt (dOv (dp t.toNat) (rd t.toNat) x y)))) H := hP
    have hD : va_D A (rpO a cA o co w h wa ma ka li hk sh T kd rd dp (uI f 0 (zt (dOv (dp t.toNat) (rd t.toNat) x y)))) := hD
    refine lv_goto (tgt := 19) hx hb dL_profile_12 (by decide) ?_
    refine lv_iconst (v := iI 0) hx hb dL_profile_19 rfl ?_
    refine vx_ret ?_
    subst hAe
    rw [show (if cod1 (isW t 0 3) ≤ 0 then uI f 0 (zt (dOv (dp t.toNat) (rd t.toNat) x y)) else f) = uI f 0 (zt (dOv (dp t.toNat) (rd t.toNat) x y)) from if_pos (by omega)]
    refine z_top (b := cod1 (isW t 0 3)) (hc9.symm) ?_
    exact z_iret hx hb hr hlocks hP hK hD hS (trivial) dL_profile_20
theorem g_L_33 : GoodIn wsAll (wsV RL 33 RX2 yX2_rough wsX2_rough) := z_good (show ∀ w ∈ (Cond.methodLink RL 33 yX2_rough :: Cond.instanceMethod yX2_rough :: Cond.selects RX2 yX2_rough yX2_rough :: Cond.initialized RX2 :: Cond.code yX2_rough prog_1_method_7_code 6 (some .int) :: wsAll), w ∈ wsAll from List.forall_mem_cons.mpr ⟨wm_306, List.forall_mem_cons.mpr ⟨wm_307, List.forall_mem_cons.mpr ⟨wm_308, List.forall_mem_cons.mpr ⟨wm_109, List.forall_mem_cons.mpr ⟨wm_309, fun _ h => h⟩⟩⟩⟩⟩)
abbrev r_L_rough : Room := { frames := 8, cells := 3, slots := 18, locals := 138 }
set_option maxHeartbeats 4000000 in
set_option maxRecDepth 100000 in
theorem c_L_rough (l : Launch) (hl9 : l.stackTraces = false) (dC : Nat → ClassId) (dI : Nat → Nat → Nat) (sz : Nat) (a : Nat → Nat) (cA : Nat → ClassId) (o : Nat) (co : ClassId) (w h : Nat) (wa ma ka li : Nat → Int) (hk sh : Int) (T : TK) (kd rd : Nat → Int) (dp : Nat → Nat → Int) (f : Nat → Int) (t st sk : Int) (hw : 1 ≤ w ∧ w ≤ 20) (hh : 1 ≤ h ∧ h ≤ 20) (hrd : ∀ j, j < 4 → 0 ≤ rd j ∧ rd j ≤ 5) (hdp : ∀ j, j < 4 → bd (dp j) (-1) 5) (hwa : bd wa 0 1000) (hma : bd ma 0 1000) (hli : bd li 0 1000) (hsh : 1 ≤ sh ∧ sh ≤ 1000) (hT0 : tkOK T 1000000) (h1 : rg t) (h2 : rg st) (h3 : rg sk) : vx_Met l yL_rough wsL_rough r_L_rough (zP (dC, dI) vwCl (rpOT cA co) (rpO a cA o co w h wa ma ka li hk sh T kd rd dp f) sz [.ref (a 0), .int (iI t), .int (iI st), .int (iI sk), .ref o]) (zQi (dC, dI) vwCl (rpOT cA co) (rpO a cA o co w h wa ma ka li hk sh T kd rd dp f) sz (True) (cod3 (isW t 0 3) (isW st 1 1000) (isW sk 0 1000)) (rpO a cA o co w h wa (if cod3 (isW t 0 3) (isW st 1 1000) (isW sk 0 1000) ≤ 0 then (rgF w h (ltF w h wa (dp t.toNat) (rd t.toNat) h li) (dp t.toNat) (rd t.toNat) st sk sh (zN sh st) ((tkC T, ma), 0)).1.2 else ma) ka (if cod3 (isW t 0 3) (isW st 1 1000) (isW sk 0 1000) ≤ 0 then ltF w h wa (dp t.toNat) (rd t.toNat) h li else li) hk sh (if cod3 (isW t 0 3) (isW st 1 1000) (isW sk 0 1000) ≤ 0 then (rgF w h (ltF w h wa (dp t.toNat) (rd t.toNat) h li) (dp t.toNat) (rd t.toNat) st sk sh (zN sh st) ((tkC T, ma), 0)).1.1 else T) kd rd dp (if cod3 (isW t 0 3) (isW st 1 1000) (isW sk 0 1000) ≤ 0 then uI f 0 (zt ((rgF w h (ltF w h wa (dp t.toNat) (rd t.toNat) h li) (dp t.toNat) (rd t.toNat) st sk sh (zN sh st) ((tkC T, ma), 0)).2)) else f))) (zX (dC, dI) vwCl (rpOT cA co) (rpO a cA o co w h wa ma ka li hk sh T kd rd dp f) sz (fun _ => False)) 3 18 (va_A (rpO a cA o co w h wa ma ka li hk sh T kd rd dp f) sz) := by
  refine vx_ofWH (cc := cL_rough) (maxL := 6) (ret := (some .int)) (hh := [(0, 12, 15, 13), (0, 12, 19, 15)]) (by decide) rfl ?_
  intro p e s m args below meth c s₁ B hml hv
  obtain ⟨rfl, hsz, hP, hK, hD0, hZ⟩ := hv
  have hx := B.exec
  have hb := B.bytes
  have hr := B.returns
  have hts0 := atoms_spec (ws := wsL_rough) B.pre
  have hts : ∀ w ∈ wsAll, w.before _ s = true := fun w h => hts0 w (List.mem_cons_of_mem _ h)
  have hown : s.vm.findClass RL = some m.cls := findClass_of_methodNamed B.named
  have hlocks := B.notSynchronized
  have htab := vx_table (x := yL_rough) B (hts0 _ List.mem_cons_self)
  subst hsz
  have hD := hD0.self (sz := s.heap.size)
  obtain ⟨A, hAe⟩ : ∃ A, A = va_A (rpO a cA o co w h wa ma ka li hk sh T kd rd dp f) s.heap.size := ⟨_, rfl⟩
  rw [← hAe] at hD hZ
  have hA : ∀ q : Nat, s.heap.size ≤ q → A q := fun q h => by rw [hAe]; exact Or.inr h
  have hS : va_S A s.heap s.heap [] := va_S.rf
  have hP : va_P (dC, dI) vwCl (rpO a cA o co w h wa ma ka li hk sh T kd rd dp f) s.heap := hP
  have hl := lv_entry ([.ref (a 0), .int (iI t), .int (iI st), .int (iI sk), .ref o]) (n := 6) (Nat.le_of_ble_eq_true rfl)
  rw [lg_entry_eq]
  generalize (lg_sl ([.ref (a 0), .int (iI t), .int (iI st), .int (iI sk), .ref o]) ++ List.replicate (6 - (lg_sl ([.ref (a 0), .int (iI t), .int (iI st), .int (iI sk), .ref o])).length) Slot.unset).toArray = ls at hl ⊢
  have hl : lv_has ls 6 [(0, .ref (a 0)), (1, .int (iI t)), (2, .int (iI st)), (3, .int (iI sk)), (4, .ref o)] := hl
  refine lv_aload hx hb dL_rough_0 (lv_at hl 4 rfl) ?_
  refine lv_iconst (v := iI 0) hx hb dL_rough_2 rfl ?_
  refine lv_aload_n hx hb dL_rough_3 rfl (lv_at hl 0 rfl) ?_
  refine lv_iload_n hx hb dL_rough_4 rfl (lv_at hl 1 rfl) ?_
  refine lv_iload_n hx hb dL_rough_5 rfl (lv_at hl 2 rfl) ?_
  refine lv_iload_n hx hb dL_rough_6 rfl (lv_at hl 3 rfl) ?_
  have hPc := hP.sub (ws' := rpW a cA w h wa ma ka li hk sh T kd rd dp) [0, 1, 2, 3, 4, 5, 6, 7, 8, 9, 10, 11, 12, 13, 14, 15] rfl
  have hDc := hD.sub (ws' := rpW a cA w h wa ma ka li hk sh T kd rd dp) [0, 1, 2, 3, 4, 5, 6, 7, 8, 9, 10, 11, 12, 13, 14, 15] (by decide) rfl
  have hKc := hK.sub (tys' := rpT cA) [0, 1, 2, 3, 4, 5, 6, 7, 8, 9] rfl
  have hFc := va_free (wc := rpW a cA w h wa ma ka li hk sh T kd rd dp) hD hS hA [0, 1, 2, 3, 4, 5, 6, 7, 8, 9, 10, 11, 12, 13, 14, 15] rfl
  refine z_xcalli (ws' := rpO a cA o co w h wa ((rgF w h (ltF w h wa (dp t.toNat) (rd t.toNat) h li) (dp t.toNat) (rd t.toNat) st sk sh (zN sh st) ((tkC T, ma), 0)).1.2) ka (ltF w h wa (dp t.toNat) (rd t.toNat) h li) hk sh ((rgF w h (ltF w h wa (dp t.toNat) (rd t.toNat) h li) (dp t.toNat) (rd t.toNat) st sk sh (zN sh st) ((tkC T, ma), 0)).1.1) kd rd dp f) (wr := [16].filterMap (fun z9 => (rpO a cA o co w h wa ma ka li hk sh T kd rd dp f)[z9]?)) (vx_runV (As := [.int (iI t), .int (iI st), .int (iI sk)]) (rest := [.int (iI 0), .ref o]) ⟨hx, hb, hml, hown, hts⟩ (c_X2_rough l hl9 dC dI (s.heap).size a cA w h wa ma ka li hk sh T kd rd dp t st sk hw hh hrd hdp hwa hma hli hsh hT0 h1 h2 h3) (cwV 3 hts g_L_33 rfl rfl rfl (by decide +kernel) ⟨Nat.le_of_ble_eq_true rfl, Nat.le_of_ble_eq_true rfl⟩) (zP_V (ci := 2) (q0 := 0) rfl rfl hPc hKc hDc hS hFc hZ) rfl rfl hl.1 rfl (lv_room (Nat.le_of_ble_eq_true rfl)) dL_rough_7 ⟨Nat.le_of_ble_eq_true rfl, Nat.le_of_ble_eq_true rfl⟩) hP hD hS hFc (z_subOf [0, 1, 2, 3, 4, 5, 6, 7, 8, 9, 10, 11, 12, 13, 14, 15] rfl) [0, 1, 2, 3, 4, 5, 6, 7, 8, 9, 10, 11, 12, 13, 14, 15] [16] [1, 2, 3, 4, 5, 6, 7, 8, 9, 10, 11, 12, 13, 14, 15, 16, 0] rfl rfl (by decide) (by decide) rfl (by decide) (fun E ce q9 H locs hE hP hS _ h7 h8 h9 => ?_) (fun H locs hok hP hD hS _ => ?_)
  · rcases hE with hE | hE
    · have hc9 : cod3 (isW t 0 3) (isW st 1 1000) (isW sk 0 1000) = 1 := cod3_1 (isW_f.mpr hE.2)
      obtain ⟨rfl, -⟩ := hE
      refine vx_catch (own := RL) (name := "java/lang/IndexOutOfBoundsException") hown [] (⟨0, 12, 15, 13⟩ : ExceptionTableEntry) [(⟨0, 12, 19, 15⟩ : ExceptionTableEntry)] (by rw [htab]; rfl) (fun z hz => by cases hz) (by decide) (by decide) (hts _ wm_14) (va_Nw.use rfl (hZ.1 (.castable "java/lang/IndexOutOfBoundsException" "java/lang/IndexOutOfBoundsException") (by decide +kernel))) h7 h8 h9 ?_
      refine W.eq (g2 := F0 m 15 ls [.ref q9]) rfl ?_
      refine lv_astore (lv' := [(5, .ref q9), (0, .ref (a 0)), (1, .int (iI t)), (2, .int (iI st)), (3, .int (iI sk)), (4, .ref o)]) hx hb dL_rough_15 hl (by decide) rfl (fun ls hl => ?_)
      refine lv_iconst (v := iI 1) hx hb dL_rough_17 rfl ?_
      refine vx_ret ?_
      subst hAe
      rw [show (if cod3 (isW t 0 3) (isW st 1 1000) (isW sk 0 1000) ≤ 0 then (rgF w h (ltF w h wa (dp t.toNat) (rd t.toNat) h li) (dp t.toNat) (rd t.toNat) st sk sh (zN sh st) ((tkC T, ma), 0)).1.2 else ma) = ma from if_neg (by omega), show (if cod3 (isW t 0 3) (isW st 1 1000) (isW sk 0 1000) ≤ 0 then ltF w h wa (dp t.toNat) (rd t.toNat) h li else li) = li from if_neg (by omega), show (if cod3 (isW t 0 3) (isW st 1 1000) (isW sk 0 1000) ≤ 0 then (rgF w h (ltF w h wa (dp t.toNat) (rd t.toNat) h li) (dp t.toNat) (rd t.toNat) st sk sh (zN sh st) ((tkC T, ma), 0)).1.1 else T) = T from if_neg (by omega), show (if cod3 (isW t 0 3) (isW st 1 1000) (isW sk 0 1000) ≤ 0 then uI f 0 (zt ((rgF w h (ltF w h wa (dp t.toNat) (rd t.toNat) h li) (dp t.toNat) (rd t.toNat) st sk sh (zN sh st) ((tkC T, ma), 0)).2)) else f) = f from if_neg (by omega)]
      refine z_top (b := cod3 (isW t 0 3) (isW st 1 1000) (isW sk 0 1000)) (hc9.symm) ?_
      exact z_iret hx hb hr hlocks hP hK hD hS (trivial) dL_rough_18
    · have hc9 : cod3 (isW t 0 3) (isW st 1 1000) (isW sk 0 1000) = 2 := cod3_2 (isW_t.mpr hE.2.1) (or_f isW_f isW_f hE.2.2)
      obtain ⟨rfl, -⟩ := hE
      refine vx_catch (own := RL) (name := "java/lang/IllegalArgumentException") hown [(⟨0, 12, 15, 13⟩ : ExceptionTableEntry)] (⟨0, 12, 19, 15⟩ : ExceptionTableEntry) [] (by rw [htab]; rfl) (fun z hz => by cases List.mem_singleton.mp hz; exact Or.inr ⟨by decide, "java/lang/IndexOutOfBoundsException", (hts _ wm_14), hZ.2.2.1 ("java/lang/IllegalArgumentException", "java/lang/IndexOutOfBoundsException") (by decide +kernel)⟩) (by decide) (by decide) (hts _ wm_15) (va_Nw.use rfl (hZ.1 (.castable "java/lang/IllegalArgumentException" "java/lang/IllegalArgumentException") (by decide +kernel))) h7 h8 h9 ?_
      refine W.eq (g2 := F0 m 19 ls [.ref q9]) rfl ?_
      refine lv_astore (lv' := [(5, .ref q9), (0, .ref (a 0)), (1, .int (iI t)), (2, .int (iI st)), (3, .int (iI sk)), (4, .ref o)]) hx hb dL_rough_19 hl (by decide) rfl (fun ls hl => ?_)
      refine lv_iconst (v := iI 2) hx hb dL_rough_21 rfl ?_
      refine vx_ret ?_
      subst hAe
      rw [show (if cod3 (isW t 0 3) (isW st 1 1000) (isW sk 0 1000) ≤ 0 then (rgF w h (ltF w h wa (dp t.toNat) (rd t.toNat) h li) (dp t.toNat) (rd t.toNat) st sk sh (zN sh st) ((tkC T, ma), 0)).1.2 else ma) = ma from if_neg (by omega), show (if cod3 (isW t 0 3) (isW st 1 1000) (isW sk 0 1000) ≤ 0 then ltF w h wa (dp t.toNat) (rd t.toNat) h li else li) = li from if_neg (by omega), show (if cod3 (isW t 0 3) (isW st 1 1000) (isW sk 0 1000) ≤ 0 then (rgF w h (ltF w h wa (dp t.toNat) (rd t.toNat) h li) (dp t.toNat) (rd t.toNat) st sk sh (zN sh st) ((tkC T, ma), 0)).1.1 else T) = T from if_neg (by omega), show (if cod3 (isW t 0 3) (isW st 1 1000) (isW sk 0 1000) ≤ 0 then uI f 0 (zt ((rgF w h (ltF w h wa (dp t.toNat) (rd t.toNat) h li) (dp t.toNat) (rd t.toNat) st sk sh (zN sh st) ((tkC T, ma), 0)).2)) else f) = f from if_neg (by omega)]
      refine z_top (b := cod3 (isW t 0 3) (isW st 1 1000) (isW sk 0 1000)) (hc9.symm) ?_
      exact z_iret hx hb hr hlocks hP hK hD hS (trivial) dL_rough_22
  · have hc9 : cod3 (isW t 0 3) (isW st 1 1000) (isW sk 0 1000) = 0 := cod3_0 (isW_t.mpr hok.1) (isW_t.mpr hok.2.1) (isW_t.mpr hok.2.2)
    have hP : va_P (dC, dI) vwCl (rpO a cA o co w h wa ((rgF w h (ltF w h wa (dp t.toNat) (rd t.toNat) h li) (dp t.toNat) (rd t.toNat) st sk sh (zN sh st) ((tkC T, ma), 0)).1.2) ka (ltF w h wa (dp t.toNat) (rd t.toNat) h li) hk sh ((rgF w h (ltF w h wa (dp t.toNat) (rd t.toNat) h li) (dp t.toNat) (rd t.toNat) st sk sh (zN sh st) ((tkC T, ma), 0)).1.1) kd rd dp f) H := hP
    have hD : va_D A (rpO a cA o co w h wa ((rgF w h (ltF w h wa (dp t.toNat) (rd t.toNat) h li) (dp t.toNat) (rd t.toNat) st sk sh (zN sh st) ((tkC T, ma), 0)).1.2) ka (ltF w h wa (dp t.toNat) (rd t.toNat) h li) hk sh ((rgF w h (ltF w h wa (dp t.toNat) (rd t.toNat) h li) (dp t.toNat) (rd t.toNat) st sk sh (zN sh st) ((tkC T, ma), 0)).1.1) kd rd dp f) := hD
    refine z_i2lt hx hb dL_rough_10 ?_
    refine z_last (f := f) (i := 0) (x := zt ((rgF w h (ltF w h wa (dp t.toNat) (rd t.toNat) h li) (dp t.toNat) (rd t.toNat) st sk sh (zN sh st) ((tkC T, ma), 0)).2)) hx hb hK hP hD hS 16 10 rfl rfl (by decide) (by decide) dL_rough_11 (fun H locs hP hD hS => ?_)
    have hP : va_P (dC, dI) vwCl (rpO a cA o co w h wa ((rgF w h (ltF w h wa (dp t.toNat) (rd t.toNat) h li) (dp t.toNat) (rd t.toNat) st sk sh (zN sh st) ((tkC T, ma), 0)).1.2) ka (ltF w h wa (dp t.toNat) (rd t.toNat) h li) hk sh ((rgF w h (ltF w h wa (dp t.toNat) (rd t.toNat) h li) (dp t.toNat) (rd t.toNat) st sk sh (zN sh st) ((tkC T, ma), 0)).1.1) kd rd dp (uI f 0 (zt ((rgF w h (ltF w h wa (dp t.toNat) (rd t.toNat) h li) (dp t.toNat) (rd t.toNat) st sk sh (zN sh st) ((tkC T, ma), 0)).2)))) H := hP
    have hD : va_D A (rpO a cA o co w h wa ((rgF w h (ltF w h wa (dp t.toNat) (rd t.toNat) h li) (dp t.toNat) (rd t.toNat) st sk sh (zN sh st) ((tkC T, ma), 0)).1.2) ka (ltF w h wa (dp t.toNat) (rd t.toNat) h li) hk sh ((rgF w h (ltF w h wa (dp t.toNat) (rd t.toNat) h li) (dp t.toNat) (rd t.toNat) st sk sh (zN sh st) ((tkC T, ma), 0)).1.1) kd rd dp (uI f 0 (zt ((rgF w h (ltF w h wa (dp t.toNat) (rd t.toNat) h li) (dp t.toNat) (rd t.toNat) st sk sh (zN sh st) ((tkC T, ma), 0)).2)))) := hD
    refine lv_goto (tgt := 23) hx hb dL_rough_12 (by decide) ?_
    refine lv_iconst (v := iI 0) hx hb dL_rough_23 rfl ?_
    refine vx_ret ?_
    subst hAe
    rw [show (if cod3 (isW t 0 3) (isW st 1 1000) (isW sk 0 1000) ≤ 0 then (rgF w h (ltF w h wa (dp t.toNat) (rd t.toNat) h li) (dp t.toNat) (rd t.toNat) st sk sh (zN sh st) ((tkC T, ma), 0)).1.2 else ma) = (rgF w h (ltF w h wa (dp t.toNat) (rd t.toNat) h li) (dp t.toNat) (rd t.toNat) st sk sh (zN sh st) ((tkC T, ma), 0)).1.2 from if_pos (by omega), show (if cod3 (isW t 0 3) (isW st 1 1000) (isW sk 0 1000) ≤ 0 then ltF w h wa (dp t.toNat) (rd t.toNat) h li else li) = ltF w h wa (dp t.toNat) (rd t.toNat) h li from if_pos (by omega), show (if cod3 (isW t 0 3) (isW st 1 1000) (isW sk 0 1000) ≤ 0 then (rgF w h (ltF w h wa (dp t.toNat) (rd t.toNat) h li) (dp t.toNat) (rd t.toNat) st sk sh (zN sh st) ((tkC T, ma), 0)).1.1 else T) = (rgF w h (ltF w h wa (dp t.toNat) (rd t.toNat) h li) (dp t.toNat) (rd t.toNat) st sk sh (zN sh st) ((tkC T, ma), 0)).1.1 from if_pos (by omega), show (if cod3 (isW t 0 3) (isW st 1 1000) (isW sk 0 1000) ≤ 0 then uI f 0 (zt ((rgF w h (ltF w h wa (dp t.toNat) (rd t.toNat) h li) (dp t.toNat) (rd t.toNat) st sk sh (zN sh st) ((tkC T, ma), 0)).2)) else f) = uI f 0 (zt ((rgF w h (ltF w h wa (dp t.toNat) (rd t.toNat) h li) (dp t.toNat) (rd t.toNat) st sk sh (zN sh st) ((tkC T, ma), 0)).2)) from if_pos (by omega)]
    refine z_top (b := cod3 (isW t 0 3) (isW st 1 1000) (isW sk 0 1000)) (hc9.symm) ?_
    exact z_iret hx hb hr hlocks hP hK hD hS (trivial) dL_rough_24
