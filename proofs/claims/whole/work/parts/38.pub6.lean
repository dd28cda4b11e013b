theorem inc01_rg (a b : Int) : rg (inc01 a b) := by rcases inc01_01 a b with h | h <;> rw [h] <;> decide
theorem g_X2_108 : GoodIn wsAll (wsV RX2 108 RX2 yX2_goAlongLevel wsX2_goAlongLevel) := z_good (show ∀ w ∈ (Cond.methodLink RX2 108 yX2_goAlongLevel :: Cond.instanceMethod yX2_goAlongLevel :: Cond.selects RX2 yX2_goAlongLevel yX2_goAlongLevel :: Cond.initialized RX2 :: Cond.code yX2_goAlongLevel prog_1_method_31_code 10 (some .boolean) :: wsAll), w ∈ wsAll from List.forall_mem_cons.mpr ⟨wm_317, List.forall_mem_cons.mpr ⟨wm_318, List.forall_mem_cons.mpr ⟨wm_567, List.forall_mem_cons.mpr ⟨wm_109, List.forall_mem_cons.mpr ⟨wm_319, fun _ h => h⟩⟩⟩⟩⟩)
theorem g_X2_101 : GoodIn wsAll (wsV RX2 101 RX1 yX1_clear wsX1_clear) := z_good (show ∀ w ∈ (Cond.methodLink RX2 101 yX1_clear :: Cond.instanceMethod yX1_clear :: Cond.selects RX1 yX1_clear yX1_clear :: Cond.initialized RX1 :: Cond.code yX1_clear prog_3_method_2_code 1 none :: wsAll), w ∈ wsAll from List.forall_mem_cons.mpr ⟨wm_310, List.forall_mem_cons.mpr ⟨wm_311, List.forall_mem_cons.mpr ⟨wm_312, List.forall_mem_cons.mpr ⟨wm_112, List.forall_mem_cons.mpr ⟨wm_313, fun _ h => h⟩⟩⟩⟩⟩)
theorem g_X2_104 : GoodIn wsAll (wsV RX2 104 RX2 yX2_findLifts wsX2_findLifts) := z_good (show ∀ w ∈ (Cond.methodLink RX2 104 yX2_findLifts :: Cond.instanceMethod yX2_findLifts :: Cond.selects RX2 yX2_findLifts yX2_findLifts :: Cond.initialized RX2 :: Cond.code yX2_findLifts prog_1_method_30_code 4 none :: wsAll), w ∈ wsAll from List.forall_mem_cons.mpr ⟨wm_314, List.forall_mem_cons.mpr ⟨wm_315, List.forall_mem_cons.mpr ⟨wm_566, List.forall_mem_cons.mpr ⟨wm_109, List.forall_mem_cons.mpr ⟨wm_316, fun _ h => h⟩⟩⟩⟩⟩)
abbrev r_X2_rough : Room := { frames := 7, cells := 3, slots := 18, locals := 113 }
set_option maxHeartbeats 4000000 in
set_option maxRecDepth 100000 in
theorem lp_X2_rough_48 {p : Program} {l : Launch} {e : Env} {s : State} {m : MethodId} {args : Array Value} {below : List Frame} {meth : Method} {c : Code} {Q : State → Prop} {A : Nat → Prop} {dC : Nat → ClassId} {dI : Nat → Nat → Nat} (a : Nat → Nat) (cA : Nat → ClassId) (w h : Nat) (wa ka li : Nat → Int) (hk sh : Int) (kd rd : Nat → Int) (dp : Nat → Nat → Int) (q0 : (TK × (Nat → Int)) × Int) (t st sk M : Int) (hx : p.tables.exec = Jvm.exec) (hb : c.code = cX2_rough) (hml : c.maxLocals = 6) (hown : s.vm.findClass RX2 = some m.cls) (hts : ∀ w ∈ wsAll, w.before args s = true) (hA : ∀ q : Nat, s.heap.size ≤ q → A q) (hZ : zZ A s s.heap) (hK : va_K (dC, dI) vwCl (rpT cA) s) (hw : 1 ≤ w ∧ w ≤ 20) (hh : 1 ≤ h ∧ h ≤ 20) (hj : t.toNat < 4) (hrd : 0 ≤ rd t.toNat ∧ rd t.toNat ≤ 5) (hdp : bd (dp t.toNat) (-1) 5) (hli : bd li 0 1000) (hst : 1 ≤ st ∧ st ≤ 1000) (hsk : 0 ≤ sk ∧ sk ≤ 1000) (hsh : 1 ≤ sh ∧ sh ≤ 1000) (ht3 : 0 ≤ t ∧ t ≤ 3) (hq1 : tkOK q0.1.1 M) (hq2 : bd q0.1.2 0 1000) (hq3 : 0 ≤ q0.2 ∧ q0.2 ≤ 0) (hM : 0 ≤ M ∧ M ≤ 1000000) (kk : ∀ (H : Heap) (locs : List Loc) (ls : Array Slot), va_P (dC, dI) vwCl (rpW a cA w h wa ((rgF w h li (dp t.toNat) (rd t.toNat) st sk sh (zN sh st) q0).1.2) ka li hk sh ((rgF w h li (dp t.toNat) (rd t.toNat) st sk sh (zN sh st) q0).1.1) kd rd dp) H → va_D A (rpW a cA w h wa ((rgF w h li (dp t.toNat) (rd t.toNat) st sk sh (zN sh st) q0).1.2) ka li hk sh ((rgF w h li (dp t.toNat) (rd t.toNat) st sk sh (zN sh st) q0).1.1) kd rd dp) → va_S A s.heap H locs → lv_has ls 6 [(0, .ref (a 0)), (1, .int (iI t)), (2, .int (iI st)), (3, .int (iI sk)), (4, .int (iI ((rgF w h li (dp t.toNat) (rd t.toNat) st sk sh (zN sh st) q0).2))), (5, .int (iI (zL sh st (zN sh st))))] → W p l e r_X2_rough s m args below meth c H locs 3 18 Q (F0 m 82 ls [])) : ∀ (n i : Nat), i + n = zN sh st → ∀ (H : Heap) (locs : List Loc) (ls : Array Slot), va_P (dC, dI) vwCl (rpW a cA w h wa ((rgF w h li (dp t.toNat) (rd t.toNat) st sk sh i q0).1.2) ka li hk sh ((rgF w h li (dp t.toNat) (rd t.toNat) st sk sh i q0).1.1) kd rd dp) H → va_D A (rpW a cA w h wa ((rgF w h li (dp t.toNat) (rd t.toNat) st sk sh i q0).1.2) ka li hk sh ((rgF w h li (dp t.toNat) (rd t.toNat) st sk sh i q0).1.1) kd rd dp) → va_S A s.heap H locs → lv_has ls 6 [(0, .ref (a 0)), (1, .int (iI t)), (2, .int (iI st)), (3, .int (iI sk)), (4, .int (iI ((rgF w h li (dp t.toNat) (rd t.toNat) st sk sh i q0).2))), (5, .int (iI (zL sh st i)))] → W p l e r_X2_rough s m args below meth c H locs 3 18 Q (F0 m 48 ls []) := by
  intro n
  induction n with
  | zero =>
    intro i hi H locs ls hP hD hS hl
    have hi9 : zN sh st = i := by omega
    subst hi9
    have hz9 := zL_out hsh hst
    refine lv_iload hx hb dX2_rough_48 (lv_at hl 5 rfl) ?_
    refine z_if_le (tgt := 82) hx hb dX2_rough_50 (by decide) (by omega) (fun c50 => ?_) (fun c50 => by exfalso; omega)
    exact kk _ _ _ hP hD hS (lv_sub hl [0, 1, 2, 3, 4, 5] rfl)
  | succ n ih =>
    intro i hi H locs ls hP hD hS hl
    have hz9 := zL_in (k := i) (by omega) hsh hst
    have hzn := zN_le hsh hst
    have hQ := rgF_ok (w := w) (h := h) (li := li) (r := rd t.toNat) (sk := sk) (n := i) (s := q0) hw.2 hh.2 (by omega) hsh hst hdp hq1 hq2 hq3
    refine lv_iload hx hb dX2_rough_48 (lv_at hl 5 rfl) ?_
    refine z_if_le (tgt := 82) hx hb dX2_rough_50 (by decide) (by omega) (fun c50 => by exfalso; omega) (fun c50 => ?_)
    refine lv_aload_n hx hb dX2_rough_53 rfl (lv_at hl 0 rfl) ?_
    refine lv_aload_n hx hb dX2_rough_54 rfl (lv_at hl 0 rfl) ?_
    refine va_get (D := (dC, dI)) (ci := 2) (v := .ref (a 5)) (C := RX2) (T := TX2) (N := 10) hx hb hts inX2 hown hK hP 0 rfl rfl 6 (by decide) (hts _ wm_177) (fun _ h9 => h9) rfl dX2_rough_55 ?_
    refine lv_iload_n hx hb dX2_rough_58 rfl (lv_at hl 1 rfl) ?_
    refine z_aald (f := fun j => a (8 + j)) (i := t) hx hb hK hP 5 4 rfl rfl (by omega) (by decide) dX2_rough_59 ?_
    refine lv_iload hx hb dX2_rough_60 (lv_at hl 5 rfl) ?_
    refine lv_iload_n hx hb dX2_rough_62 rfl (lv_at hl 2 rfl) ?_
    refine lv_iload_n hx hb dX2_rough_63 rfl (lv_at hl 3 rfl) ?_
    have hFc := z_freeR (wc := rpW a cA w h wa ((rgF w h li (dp t.toNat) (rd t.toNat) st sk sh i q0).1.2) ka li hk sh ((rgF w h li (dp t.toNat) (rd t.toNat) st sk sh i q0).1.1) kd rd dp) (fun _ h => h) hD hS hA
    refine z_wcalli (va_runV (As := [.ref (a (8 + t.toNat)), .int (iI (zL sh st i)), .int (iI st), .int (iI sk)]) (rest := []) ⟨hx, hb, hml, hown, hts⟩ (c_X2_goAlongLevel l dC dI (H).size a cA w h wa ((rgF w h li (dp t.toNat) (rd t.toNat) st sk sh i q0).1.2) ka li hk sh ((rgF w h li (dp t.toNat) (rd t.toNat) st sk sh i q0).1.1) kd rd dp t.toNat (zL sh st i) st sk (M + 400 * ((i : Nat) : Int)) hw hh hj hrd hdp hli ⟨by omega, by omega⟩ hst hsk hQ.1.1 hQ.1.2 (by omega)) (cwV 4 hts g_X2_108 rfl rfl rfl (by decide +kernel) ⟨Nat.le_of_ble_eq_true rfl, Nat.le_of_ble_eq_true rfl⟩) (zP_V (ci := 2) (q0 := 0) rfl rfl hP hK hD hS hFc hZ) rfl rfl hl.1 rfl (lv_room (Nat.le_of_ble_eq_true rfl)) dX2_rough_64 ⟨Nat.le_of_ble_eq_true rfl, Nat.le_of_ble_eq_true rfl⟩) hS hFc (fun H locs _ hP hD hS _ => ?_)
    have hP : va_P (dC, dI) vwCl (rpW a cA w h wa ((lvF w h li (dp t.toNat) (rd t.toNat) (zL sh st i) st sk h (rgF w h li (dp t.toNat) (rd t.toNat) st sk sh i q0).1).2) ka li hk sh ((lvF w h li (dp t.toNat) (rd t.toNat) (zL sh st i) st sk h (rgF w h li (dp t.toNat) (rd t.toNat) st sk sh i q0).1).1) kd rd dp) H := hP
    have hD : va_D A (rpW a cA w h wa ((lvF w h li (dp t.toNat) (rd t.toNat) (zL sh st i) st sk h (rgF w h li (dp t.toNat) (rd t.toNat) st sk sh i q0).1).2) ka li hk sh ((lvF w h li (dp t.toNat) (rd t.toNat) (zL sh st i) st sk h (rgF w h li (dp t.toNat) (rd t.toNat) st sk sh i q0).1).1) kd rd dp) := hD
    refine z_if_eq (tgt := 73) hx hb dX2_rough_67 (by decide) (inc01_rg _ _) (fun c67 => ?_) (fun c67 => ?_)
    · have c67 : inc01 (rgF w h li (dp t.toNat) (rd t.toNat) st sk sh i q0).1.1.2.1 (lvF w h li (dp t.toNat) (rd t.toNat) (zL sh st i) st sk h (rgF w h li (dp t.toNat) (rd t.toNat) st sk sh i q0).1).1.2.1 = 0 := c67
      refine lv_iload hx hb dX2_rough_73 (lv_at hl 5 rfl) ?_
      refine lv_iload_n hx hb dX2_rough_75 rfl (lv_at hl 2 rfl) ?_
      refine z_sub hx hb dX2_rough_76 ?_
      refine z_top (b := zL sh st (i + 1)) (zL_s _ _ _) ?_
      refine lv_istore (lv' := [(5, .int (iI (zL sh st (i + 1)))), (0, .ref (a 0)), (1, .int (iI t)), (2, .int (iI st)), (3, .int (iI sk)), (4, .int (iI ((rgF w h li (dp t.toNat) (rd t.toNat) st sk sh i q0).2)))]) hx hb dX2_rough_77 hl (by decide) rfl (fun ls hl => ?_)
      refine lv_goto (tgt := 48) hx hb dX2_rough_79 (by decide) ?_
      have e2 : (rgF w h li (dp t.toNat) (rd t.toNat) st sk sh (i + 1) q0).2 = (rgF w h li (dp t.toNat) (rd t.toNat) st sk sh i q0).2 := by
        show (rgF w h li (dp t.toNat) (rd t.toNat) st sk sh i q0).2 + inc01 (rgF w h li (dp t.toNat) (rd t.toNat) st sk sh i q0).1.1.2.1 (lvF w h li (dp t.toNat) (rd t.toNat) (zL sh st i) st sk h (rgF w h li (dp t.toNat) (rd t.toNat) st sk sh i q0).1).1.2.1 = _
        have := inc01_01 (rgF w h li (dp t.toNat) (rd t.toNat) st sk sh i q0).1.1.2.1 (lvF w h li (dp t.toNat) (rd t.toNat) (zL sh st i) st sk h (rgF w h li (dp t.toNat) (rd t.toNat) st sk sh i q0).1).1.2.1
        omega
      exact ih (i + 1) (by omega) _ _ _ hP hD hS (by rw [e2]; exact lv_sub hl [1, 2, 3, 4, 5, 0] rfl)
    · have c67 : ¬ inc01 (rgF w h li (dp t.toNat) (rd t.toNat) st sk sh i q0).1.1.2.1 (lvF w h li (dp t.toNat) (rd t.toNat) (zL sh st i) st sk h (rgF w h li (dp t.toNat) (rd t.toNat) st sk sh i q0).1).1.2.1 = 0 := c67
      refine lv_iinc (v := iI ((rgF w h li (dp t.toNat) (rd t.toNat) st sk sh i q0).2 + 1)) (lv' := [(4, .int (iI ((rgF w h li (dp t.toNat) (rd t.toNat) st sk sh i q0).2 + 1))), (0, .ref (a 0)), (1, .int (iI t)), (2, .int (iI st)), (3, .int (iI sk)), (5, .int (iI (zL sh st i)))]) hx hb dX2_rough_70 hl (k := 4) rfl (iI_add _ _) (by decide) rfl (fun ls hl => ?_)
      refine lv_iload hx hb dX2_rough_73 (lv_at hl 5 rfl) ?_
      refine lv_iload_n hx hb dX2_rough_75 rfl (lv_at hl 3 rfl) ?_
      refine z_sub hx hb dX2_rough_76 ?_
      refine z_top (b := zL sh st (i + 1)) (zL_s _ _ _) ?_
      refine lv_istore (lv' := [(5, .int (iI (zL sh st (i + 1)))), (4, .int (iI ((rgF w h li (dp t.toNat) (rd t.toNat) st sk sh i q0).2 + 1))), (0, .ref (a 0)), (1, .int (iI t)), (2, .int (iI st)), (3, .int (iI sk))]) hx hb dX2_rough_77 hl (by decide) rfl (fun ls hl => ?_)
      refine lv_goto (tgt := 48) hx hb dX2_rough_79 (by decide) ?_
      have e2 : (rgF w h li (dp t.toNat) (rd t.toNat) st sk sh (i + 1) q0).2 = (rgF w h li (dp t.toNat) (rd t.toNat) st sk sh i q0).2 + 1 := by
        show (rgF w h li (dp t.toNat) (rd t.toNat) st sk sh i q0).2 + inc01 (rgF w h li (dp t.toNat) (rd t.toNat) st sk sh i q0).1.1.2.1 (lvF w h li (dp t.toNat) (rd t.toNat) (zL sh st i) st sk h (rgF w h li (dp t.toNat) (rd t.toNat) st sk sh i q0).1).1.2.1 = _
        have := inc01_01 (rgF w h li (dp t.toNat) (rd t.toNat) st sk sh i q0).1.1.2.1 (lvF w h li (dp t.toNat) (rd t.toNat) (zL sh st i) st sk h (rgF w h li (dp t.toNat) (rd t.toNat) st sk sh i q0).1).1.2.1
        omega
      exact ih (i + 1) (by omega) _ _ _ hP hD hS (by rw [e2]; exact lv_sub hl [2, 3, 4, 5, 1, 0] rfl)
set_option maxHeartbeats 4000000 in
set_option maxRecDepth 100000 in
theorem c_X2_rough (l : Launch) (hl9 : l.stackTraces = false) (dC : Nat → ClassId) (dI : Nat → Nat → Nat) (sz : Nat) (a : Nat → Nat) (cA : Nat → ClassId) (w h : Nat) (wa ma ka li : Nat → Int) (hk sh : Int) (T : TK) (kd rd : Nat → Int) (dp : Nat → Nat → Int) (t st sk : Int) (hw : 1 ≤ w ∧ w ≤ 20) (hh : 1 ≤ h ∧ h ≤ 20) (hrd : ∀ j, j < 4 → 0 ≤ rd j ∧ rd j ≤ 5) (hdp : ∀ j, j < 4 → bd (dp j) (-1) 5) (hwa : bd wa 0 1000) (hma : bd ma 0 1000) (hli : bd li 0 1000) (hsh : 1 ≤ sh ∧ sh ≤ 1000) (hT0 : tkOK T 1000000) (h1 : rg t) (h2 : rg st) (h3 : rg sk) : vx_Met l yX2_rough wsX2_rough r_X2_rough (zP (dC, dI) vwCl (rpT cA) (rpW a cA w h wa ma ka li hk sh T kd rd dp) sz [.ref (a 0), .int (iI t), .int (iI st), .int (iI sk)]) (zQi (dC, dI) vwCl (rpT cA) (rpW a cA w h wa ma ka li hk sh T kd rd dp) sz ((0 ≤ t ∧ t ≤ 3) ∧ (1 ≤ st ∧ st ≤ 1000) ∧ (0 ≤ sk ∧ sk ≤ 1000)) ((rgF w h (ltF w h wa (dp t.toNat) (rd t.toNat) h li) (dp t.toNat) (rd t.toNat) st sk sh (zN sh st) ((tkC T, ma), 0)).2) (rpW a cA w h wa ((rgF w h (ltF w h wa (dp t.toNat) (rd t.toNat) h li) (dp t.toNat) (rd t.toNat) st sk sh (zN sh st) ((tkC T, ma), 0)).1.2) ka (ltF w h wa (dp t.toNat) (rd t.toNat) h li) hk sh ((rgF w h (ltF w h wa (dp t.toNat) (rd t.toNat) h li) (dp t.toNat) (rd t.toNat) st sk sh (zN sh st) ((tkC T, ma), 0)).1.1) kd rd dp)) (zX (dC, dI) vwCl (rpT cA) (rpW a cA w h wa ma ka li hk sh T kd rd dp) sz (fun E => (E = "java/lang/IndexOutOfBoundsException" ∧ ¬ (0 ≤ t ∧ t ≤ 3)) ∨ (E = "java/lang/IllegalArgumentException" ∧ (0 ≤ t ∧ t ≤ 3) ∧ ¬ ((1 ≤ st ∧ st ≤ 1000) ∧ (0 ≤ sk ∧ sk ≤ 1000))))) 3 18 (va_A (rpW a cA w h wa ma ka li hk sh T kd rd dp) sz) := by
  refine vx_ofW (cc := cX2_rough) (maxL := 6) (ret := (some .int)) (by decide) rfl ?_
  intro p e s m args below meth c s₁ B hml ht9 hv
  obtain ⟨rfl, hsz, hP, hK, hD0, hZ⟩ := hv
  have hx := B.exec
  have hb := B.bytes
  have hr := B.returns
  have hts0 := atoms_spec (ws := wsX2_rough) B.pre
  have hts : ∀ w ∈ wsAll, w.before _ s = true := fun w h => hts0 w (List.mem_cons_of_mem _ h)
  have hown : s.vm.findClass RX2 = some m.cls := findClass_of_methodNamed B.named
  have hlocks := B.notSynchronized
  subst hsz
  have hD := hD0.self (sz := s.heap.size)
  obtain ⟨A, hAe⟩ : ∃ A, A = va_A (rpW a cA w h wa ma ka li hk sh T kd rd dp) s.heap.size := ⟨_, rfl⟩
  rw [← hAe] at hD hZ
  have hA : ∀ q : Nat, s.heap.size ≤ q → A q := fun q h => by rw [hAe]; exact Or.inr h
  have hS : va_S A s.heap s.heap [] := va_S.rf
  have hP : va_P (dC, dI) vwCl (rpW a cA w h wa ma ka li hk sh T kd rd dp) s.heap := hP
  have hl := lv_entry ([.ref (a 0), .int (iI t), .int (iI st), .int (iI sk)]) (n := 6) (Nat.le_of_ble_eq_true rfl)
  rw [lg_entry_eq]
  generalize (lg_sl ([.ref (a 0), .int (iI t), .int (iI st), .int (iI sk)]) ++ List.replicate (6 - (lg_sl ([.ref (a 0), .int (iI t), .int (iI st), .int (iI sk)])).length) Slot.unset).toArray = ls at hl ⊢
  have hl : lv_has ls 6 [(0, .ref (a 0)), (1, .int (iI t)), (2, .int (iI st)), (3, .int (iI sk))] := hl
  refine lv_iload_n hx hb dX2_rough_0 rfl (lv_at hl 1 rfl) ?_
  refine z_xrcallv (vx_runS (As := [.int (iI t)]) (rest := []) ⟨hx, hb, hml, hown, hts⟩ (c_X2_needTool l hl9 dC dI (s.heap).size t (by omega)) (va_cwS 1 hts g_X2_76 rfl rfl rfl (by decide +kernel) ⟨Nat.le_of_ble_eq_true rfl, Nat.le_of_ble_eq_true rfl⟩) (zP_S z_P0 (hK.sub [] rfl) z_D0 hS (z_free0 hS hA) hZ) rfl rfl hl.1 rfl (lv_room (Nat.le_of_ble_eq_true rfl)) dX2_rough_1 ⟨Nat.le_of_ble_eq_true rfl, Nat.le_of_ble_eq_true rfl⟩) hP hD hS (z_free0 hS hA) (fun _ h => by cases h) (fun E ce q9 H locs hE hP hS _ h7 h8 h9 => by subst hAe; exact z_xout ht9 hlocks h7 h8 h9 (Or.inl hE) hP hK hD hS (Nat.le_of_ble_eq_true rfl) (Nat.le_of_ble_eq_true rfl)) (fun H locs hok1 hP hD hS _ => ?_)
  refine lv_iload_n hx hb dX2_rough_4 rfl (lv_at hl 2 rfl) ?_
  refine lv_iconst (v := iI 1) hx hb dX2_rough_5 rfl ?_
  refine lv_sipush (v := iI 1000) hx hb dX2_rough_6 (by decide) ?_
  refine z_xrcallv (vx_runS (As := [.int (iI st), .int (iI 1), .int (iI 1000)]) (rest := []) ⟨hx, hb, hml, hown, hts⟩ (c_X2_needWithin l hl9 dC dI (H).size st 1 1000 (by omega) (by omega) (by omega)) (va_cwS 3 hts g_X2_64 rfl rfl rfl (by decide +kernel) ⟨Nat.le_of_ble_eq_true rfl, Nat.le_of_ble_eq_true rfl⟩) (zP_S z_P0 (hK.sub [] rfl) z_D0 hS (z_free0 hS hA) hZ) rfl rfl hl.1 rfl (lv_room (Nat.le_of_ble_eq_true rfl)) dX2_rough_9 ⟨Nat.le_of_ble_eq_true rfl, Nat.le_of_ble_eq_true rfl⟩) hP hD hS (z_free0 hS hA) (fun _ h => by cases h) (fun E ce q9 H locs hE hP hS _ h7 h8 h9 => by subst hAe; exact z_xout ht9 hlocks h7 h8 h9 (Or.inr ⟨hE.1, hok1, fun z9 => hE.2 z9.1⟩) hP hK hD hS (Nat.le_of_ble_eq_true rfl) (Nat.le_of_ble_eq_true rfl)) (fun H locs hok9 hP hD hS _ => ?_)
  refine lv_iload_n hx hb dX2_rough_12 rfl (lv_at hl 3 rfl) ?_
  refine lv_iconst (v := iI 0) hx hb dX2_rough_13 rfl ?_
  refine lv_sipush (v := iI 1000) hx hb dX2_rough_14 (by decide) ?_
  refine z_xrcallv (vx_runS (As := [.int (iI sk), .int (iI 0), .int (iI 1000)]) (rest := []) ⟨hx, hb, hml, hown, hts⟩ (c_X2_needWithin l hl9 dC dI (H).size sk 0 1000 (by omega) (by omega) (by omega)) (va_cwS 3 hts g_X2_64 rfl rfl rfl (by decide +kernel) ⟨Nat.le_of_ble_eq_true rfl, Nat.le_of_ble_eq_true rfl⟩) (zP_S z_P0 (hK.sub [] rfl) z_D0 hS (z_free0 hS hA) hZ) rfl rfl hl.1 rfl (lv_room (Nat.le_of_ble_eq_true rfl)) dX2_rough_17 ⟨Nat.le_of_ble_eq_true rfl, Nat.le_of_ble_eq_true rfl⟩) hP hD hS (z_free0 hS hA) (fun _ h => by cases h) (fun E ce q9 H locs hE hP hS _ h7 h8 h9 => by subst hAe; exact z_xout ht9 hlocks h7 h8 h9 (Or.inr ⟨hE.1, hok1, fun z9 => hE.2 z9.2⟩) hP hK hD hS (Nat.le_of_ble_eq_true rfl) (Nat.le_of_ble_eq_true rfl)) (fun H locs hok17 hP hD hS _ => ?_)
  refine lv_aload_n hx hb dX2_rough_20 rfl (lv_at hl 0 rfl) ?_
  refine va_get (D := (dC, dI)) (ci := 2) (v := .ref (a 6)) (C := RX2) (T := TX2) (N := 10) hx hb hts inX2 hown hK hP 0 rfl rfl 7 (by decide) (hts _ wm_178) (fun _ h9 => h9) rfl dX2_rough_21 ?_
  have hPc := hP.sub (ws' := tkW (a 6) (a 7) (cA 5) T) [6, 7] rfl
  have hDc := hD.sub (ws' := tkW (a 6) (a 7) (cA 5) T) [6, 7] (by decide) rfl
  have hKc := hK.sub (tys' := [((cA 5), .int)]) [5] rfl
  have hFc := va_free (wc := tkW (a 6) (a 7) (cA 5) T) hD hS hA [6, 7] rfl
  refine z_callv (ws' := rpW a cA w h wa ma ka li hk sh (tkC T) kd rd dp) (wr := [0, 1, 2, 3, 4, 5, 8, 9, 10, 11, 12, 13, 14, 15].filterMap (fun z9 => (rpW a cA w h wa ma ka li hk sh T kd rd dp)[z9]?)) (va_runV (As := []) (rest := []) ⟨hx, hb, hml, hown, hts⟩ (c_X1_clear l dC dI (H).size (a 6) (a 7) (cA 5) T) (cwV 0 hts g_X2_101 rfl rfl rfl (by decide +kernel) ⟨Nat.le_of_ble_eq_true rfl, Nat.le_of_ble_eq_true rfl⟩) (zP_V (ci := 1) (q0 := 0) rfl rfl hPc hKc hDc hS hFc hZ) rfl rfl hl.1 rfl (lv_room (Nat.le_of_ble_eq_true rfl)) dX2_rough_24 ⟨Nat.le_of_ble_eq_true rfl, Nat.le_of_ble_eq_true rfl⟩) hP hD hS hFc [6, 7] [0, 1, 2, 3, 4, 5, 8, 9, 10, 11, 12, 13, 14, 15] [0, 1, 2, 3, 4, 5, 14, 15, 6, 7, 8, 9, 10, 11, 12, 13] rfl rfl (by decide) (by decide) rfl (by decide) (fun H locs _ hP hD hS _ => ?_)
  have hP : va_P (dC, dI) vwCl (rpW a cA w h wa ma ka li hk sh (tkC T) kd rd dp) H := hP
  have hD : va_D A (rpW a cA w h wa ma ka li hk sh (tkC T) kd rd dp) := hD
  refine lv_aload_n hx hb dX2_rough_27 rfl (lv_at hl 0 rfl) ?_
  refine lv_aload_n hx hb dX2_rough_28 rfl (lv_at hl 0 rfl) ?_
  refine va_get (D := (dC, dI)) (ci := 2) (v := .ref (a 5)) (C := RX2) (T := TX2) (N := 10) hx hb hts inX2 hown hK hP 0 rfl rfl 6 (by decide) (hts _ wm_177) (fun _ h9 => h9) rfl dX2_rough_29 ?_
  refine lv_iload_n hx hb dX2_rough_32 rfl (lv_at hl 1 rfl) ?_
  have hj : t.toNat < 4 := by omega
  have hrd := hrd _ hj
  have hdp := hdp _ hj
  refine z_aald (f := fun j => a (8 + j)) (i := t) hx hb hK hP 5 4 rfl rfl (by omega) (by decide) dX2_rough_33 ?_
  have hFc := z_freeR (wc := rpW a cA w h wa ma ka li hk sh (tkC T) kd rd dp) (fun _ h => h) hD hS hA
  refine z_wcallv (va_runV (As := [.ref (a (8 + t.toNat))]) (rest := []) ⟨hx, hb, hml, hown, hts⟩ (c_X2_findLifts l dC dI (H).size a cA w h wa ma ka li hk sh (tkC T) kd rd dp t.toNat hw hh hj hrd hdp hwa) (cwV 1 hts g_X2_104 rfl rfl rfl (by decide +kernel) ⟨Nat.le_of_ble_eq_true rfl, Nat.le_of_ble_eq_true rfl⟩) (zP_V (ci := 2) (q0 := 0) rfl rfl hP hK hD hS hFc hZ) rfl rfl hl.1 rfl (lv_room (Nat.le_of_ble_eq_true rfl)) dX2_rough_34 ⟨Nat.le_of_ble_eq_true rfl, Nat.le_of_ble_eq_true rfl⟩) hS hFc (fun H locs _ hP hD hS _ => ?_)
  have hP : va_P (dC, dI) vwCl (rpW a cA w h wa ma ka (ltF w h wa (dp t.toNat) (rd t.toNat) h li) hk sh (tkC T) kd rd dp) H := hP
  have hD : va_D A (rpW a cA w h wa ma ka (ltF w h wa (dp t.toNat) (rd t.toNat) h li) hk sh (tkC T) kd rd dp) := hD
  refine lv_iconst (v := iI 0) hx hb dX2_rough_37 rfl ?_
  refine lv_istore (lv' := [(4, .int (iI 0)), (0, .ref (a 0)), (1, .int (iI t)), (2, .int (iI st)), (3, .int (iI sk))]) hx hb dX2_rough_38 hl (by decide) rfl (fun ls hl => ?_)
  refine lv_aload_n hx hb dX2_rough_40 rfl (lv_at hl 1 rfl) ?_
  refine va_get (D := (dC, dI)) (ci := 2) (v := .int (iI sh)) (C := RX2) (T := TX2) (N := 10) hx hb hts inX2 hown hK hP 0 rfl rfl 9 (by decide) (hts _ wm_180) (fun _ h9 => h9) rfl dX2_rough_41 ?_
  refine lv_iload_n hx hb dX2_rough_44 rfl (lv_at hl 3 rfl) ?_
  refine z_sub hx hb dX2_rough_45 ?_
  refine z_top (b := zL sh st 0) (zL_0 _ _) ?_
  refine lv_istore (lv' := [(5, .int (iI (zL sh st 0))), (4, .int (iI 0)), (0, .ref (a 0)), (1, .int (iI t)), (2, .int (iI st)), (3, .int (iI sk))]) hx hb dX2_rough_46 hl (by decide) rfl (fun ls hl => ?_)
  refine lp_X2_rough_48 a cA w h wa ka (ltF w h wa (dp t.toNat) (rd t.toNat) h li) hk sh kd rd dp ((tkC T, ma), 0) t st sk 0 hx hb hml hown hts hA hZ hK (hw) (hh) (hj) (hrd) (hdp) (ltF_rg (h := h) hwa hdp hli) (hok9) (hok17) (hsh) (hok1) (tkC_ok hT0) (hma) (⟨Int.le_refl 0, Int.le_refl 0⟩) (by decide) (fun H locs ls hP hD hS hl => ?_)  (zN sh st) 0 (by omega) _ _ _ hP hD hS (lv_sub hl [2, 3, 4, 5, 1, 0] rfl)
  have hP : va_P (dC, dI) vwCl (rpW a cA w h wa ((rgF w h (ltF w h wa (dp t.toNat) (rd t.toNat) h li) (dp t.toNat) (rd t.toNat) st sk sh (zN sh st) ((tkC T, ma), 0)).1.2) ka (ltF w h wa (dp t.toNat) (rd t.toNat) h li) hk sh ((rgF w h (ltF w h wa (dp t.toNat) (rd t.toNat) h li) (dp t.toNat) (rd t.toNat) st sk sh (zN sh st) ((tkC T, ma), 0)).1.1) kd rd dp) H := hP
  have hD : va_D A (rpW a cA w h wa ((rgF w h (ltF w h wa (dp t.toNat) (rd t.toNat) h li) (dp t.toNat) (rd t.toNat) st sk sh (zN sh st) ((tkC T, ma), 0)).1.2) ka (ltF w h wa (dp t.toNat) (rd t.toNat) h li) hk sh ((rgF w h (ltF w h wa (dp t.toNat) (rd t.toNat) h li) (dp t.toNat) (rd t.toNat) st sk sh (zN sh st) ((tkC T, ma), 0)).1.1) kd rd dp) := hD
  have hl : lv_has ls 6 [(0, .ref (a 0)), (1, .int (iI t)), (2, .int (iI st)), (3, .int (iI sk)), (4, .int (iI ((rgF w h (ltF w h wa (dp t.toNat) (rd t.toNat) h li) (dp t.toNat) (rd t.toNat) st sk sh (zN sh st) ((tkC T, ma), 0)).2))), (5, .int (iI (zL sh st (zN sh st))))] := hl
  refine lv_iload hx hb dX2_rough_82 (lv_at hl 4 rfl) ?_
  refine vx_ret ?_
  subst hAe
  exact z_iret hx hb hr hlocks hP hK hD hS (⟨hok1, hok9, hok17⟩) dX2_rough_84
theorem g_X2_112 : GoodIn wsAll (wsV RX2 112 RX2 yX2_goAlongRow wsX2_goAlongRow) := z_good (show ∀ w ∈ (Cond.methodLink RX2 112 yX2_goAlongRow :: Cond.instanceMethod yX2_goAlongRow :: Cond.selects RX2 yX2_goAlongRow yX2_goAlongRow :: Cond.initialized RX2 :: Cond.code yX2_goAlongRow prog_1_method_32_code 7 none :: wsAll), w ∈ wsAll from List.forall_mem_cons.mpr ⟨wm_337, List.forall_mem_cons.mpr ⟨wm_338, List.forall_mem_cons.mpr ⟨wm_569, List.forall_mem_cons.mpr ⟨wm_109, List.forall_mem_cons.mpr ⟨wm_339, fun _ h => h⟩⟩⟩⟩⟩)
abbrev r_X2_fine : Room := { frames := 7, cells := 2, slots := 12, locals := 113 }
set_option maxHeartbeats 4000000 in
set_option maxRecDepth 100000 in
theorem lp_X2_fine_23 {p : Program} {l : Launch} {e : Env} {s : State} {m : MethodId} {args : Array Value} {below : List Frame} {meth : Method} {c : Code} {Q : State → Prop} {A : Nat → Prop} {dC : Nat → ClassId} {dI : Nat → Nat → Nat} (a : Nat → Nat) (cA : Nat → ClassId) (w h : Nat) (wa ka li : Nat → Int) (hk sh : Int) (kd rd : Nat → Int) (dp : Nat → Nat → Int) (q0 : TK × (Nat → Int)) (t st M : Int) (hx : p.tables.exec = Jvm.exec) (hb : c.code = cX2_fine) (hml : c.maxLocals = 5) (hown : s.vm.findClass RX2 = some m.cls) (hts : ∀ w ∈ wsAll, w.before args s = true) (hA : ∀ q : Nat, s.heap.size ≤ q → A q) (hZ : zZ A s s.heap) (hK : va_K (dC, dI) vwCl (rpT cA) s) (hw : 1 ≤ w ∧ w ≤ 20) (hh : 1 ≤ h ∧ h ≤ 20) (hj : t.toNat < 4) (hrd : 0 ≤ rd t.toNat ∧ rd t.toNat ≤ 5) (hdp : bd (dp t.toNat) (-1) 5) (hwa : bd wa 0 1000) (hst : 1 ≤ st ∧ st ≤ 20) (ht3 : 0 ≤ t ∧ t ≤ 3) (hq1 : tkOK q0.1 M) (hq2 : bd q0.2 0 1000) (hM : 0 ≤ M ∧ M ≤ 1000000) (kk : ∀ (H : Heap) (locs : List Loc) (ls : Array Slot), va_P (dC, dI) vwCl (rpW a cA w h wa ((fnF w h wa (dp t.toNat) (rd t.toNat) st (yN h st) q0).2) ka li hk sh ((fnF w h wa (dp t.toNat) (rd t.toNat) st (yN h st) q0).1) kd rd dp) H → va_D A (rpW a cA w h wa ((fnF w h wa (dp t.toNat) (rd t.toNat) st (yN h st) q0).2) ka li hk sh ((fnF w h wa (dp t.toNat) (rd t.toNat) st (yN h st) q0).1) kd rd dp) → va_S A s.heap H locs → lv_has ls 5 [(0, .ref (a 0)), (1, .int (iI t)), (2, .int (iI st)), (3, .int (iI ((yN h st : Nat) : Int))), (4, .int (iI (((yN h st : Nat) : Int) * st)))] → W p l e r_X2_fine s m args below meth c H locs 2 12 Q (F0 m 67 ls [])) : ∀ (n i : Nat), i + n = yN h st → ∀ (H : Heap) (locs : List Loc) (ls : Array Slot), va_P (dC, dI) vwCl (rpW a cA w h wa ((fnF w h wa (dp t.toNat) (rd t.toNat) st i q0).2) ka li hk sh ((fnF w h wa (dp t.toNat) (rd t.toNat) st i q0).1) kd rd dp) H → va_D A (rpW a cA w h wa ((fnF w h wa (dp t.toNat) (rd t.toNat) st i q0).2) ka li hk sh ((fnF w h wa (dp t.toNat) (rd t.toNat) st i q0).1) kd rd dp) → va_S A s.heap H locs → lv_has ls 5 [(0, .ref (a 0)), (1, .int (iI t)), (2, .int (iI st)), (3, .int (iI ((i : Nat) : Int))), (4, .int (iI (((i : Nat) : Int) * st)))] → W p l e r_X2_fine s m args below meth c H locs 2 12 Q (F0 m 23 ls []) := by
  intro n
  induction n with
  | zero =>
    intro i hi H locs ls hP hD hS hl
    have hi9 : yN h st = i := by omega
    subst hi9
    have hy9 := yN_out (h := h) (st := st) hh.1 hst.1
    refine lv_iload hx hb dX2_fine_23 (lv_at hl 4 rfl) ?_
    refine lv_aload_n hx hb dX2_fine_25 rfl (lv_at hl 0 rfl) ?_
    refine va_get (D := (dC, dI)) (ci := 2) (v := .int (iI (h : Int))) (C := RX2) (T := TX2) (N := 10) hx hb hts inX2 hown hK hP 0 rfl rfl 1 (by decide) (hts _ wm_172) (fun _ h9 => h9) rfl dX2_fine_26 ?_
    refine z_icmp_ge (tgt := 67) hx hb dX2_fine_29 (by decide) (by omega) (by omega) (fun c29 => ?_) (fun c29 => by exfalso; omega)
    exact kk _ _ _ hP hD hS (lv_sub hl [0, 1, 2, 3, 4] rfl)
  | succ n ih =>
    intro i hi H locs ls hP hD hS hl
    have hy9 := yN_in (k := i) (by omega) hh.1 hst.1
    have hyn := yN_le hh hst.1
    have hQ := fnF_ok (w := w) (r := rd t.toNat) (n := i) hw.2 hh (by omega) hst.1 hwa hdp hq1 hq2
    refine lv_iload hx hb dX2_fine_23 (lv_at hl 4 rfl) ?_
    refine lv_aload_n hx hb dX2_fine_25 rfl (lv_at hl 0 rfl) ?_
    refine va_get (D := (dC, dI)) (ci := 2) (v := .int (iI (h : Int))) (C := RX2) (T := TX2) (N := 10) hx hb hts inX2 hown hK hP 0 rfl rfl 1 (by decide) (hts _ wm_172) (fun _ h9 => h9) rfl dX2_fine_26 ?_
    refine z_icmp_ge (tgt := 67) hx hb dX2_fine_29 (by decide) (by omega) (by omega) (fun c29 => by exfalso; omega) (fun c29 => ?_)
    refine lv_aload_n hx hb dX2_fine_32 rfl (lv_at hl 0 rfl) ?_
    refine lv_aload_n hx hb dX2_fine_33 rfl (lv_at hl 0 rfl) ?_
    refine va_get (D := (dC, dI)) (ci := 2) (v := .ref (a 5)) (C := RX2) (T := TX2) (N := 10) hx hb hts inX2 hown hK hP 0 rfl rfl 6 (by decide) (hts _ wm_177) (fun _ h9 => h9) rfl dX2_fine_34 ?_
    refine lv_iload_n hx hb dX2_fine_37 rfl (lv_at hl 1 rfl) ?_
    refine z_aald (f := fun j => a (8 + j)) (i := t) hx hb hK hP 5 4 rfl rfl (by omega) (by decide) dX2_fine_38 ?_
    refine lv_iload hx hb dX2_fine_39 (lv_at hl 4 rfl) ?_
    refine lv_iload_n hx hb dX2_fine_41 rfl (lv_at hl 3 rfl) ?_
    refine lv_iconst (v := iI 2) hx hb dX2_fine_42 rfl ?_
    refine z_rem hx hb dX2_fine_43 (by omega) (by omega) ?_
    refine z_join (g0 := F0 m 52 ls [.int (iI (evB ((i : Nat) : Int))), .int (iI (((i : Nat) : Int) * st)), .ref (a (8 + t.toNat)), .ref (a 0)]) ?_ (fun J52 => ?_)
    · have hFc := z_freeR (wc := rpW a cA w h wa ((fnF w h wa (dp t.toNat) (rd t.toNat) st i q0).2) ka li hk sh ((fnF w h wa (dp t.toNat) (rd t.toNat) st i q0).1) kd rd dp) (fun _ h => h) hD hS hA
      refine z_wcallv (va_runV (As := [.ref (a (8 + t.toNat)), .int (iI (((i : Nat) : Int) * st)), .int (iI (evB ((i : Nat) : Int)))]) (rest := []) ⟨hx, hb, hml, hown, hts⟩ (c_X2_goAlongRow l dC dI (H).size a cA w h wa ((fnF w h wa (dp t.toNat) (rd t.toNat) st i q0).2) ka li hk sh ((fnF w h wa (dp t.toNat) (rd t.toNat) st i q0).1) kd rd dp t.toNat (((i : Nat) : Int) * st) (evB ((i : Nat) : Int)) (M + 20 * ((i : Nat) : Int)) hw hh hj hrd hdp hwa ⟨by omega, by omega⟩ (evB_rg _) hQ.1 hQ.2 (by omega)) (cwV 3 hts g_X2_112 rfl rfl rfl (by decide +kernel) ⟨Nat.le_of_ble_eq_true rfl, Nat.le_of_ble_eq_true rfl⟩) (zP_V (ci := 2) (q0 := 0) rfl rfl hP hK hD hS hFc hZ) rfl rfl hl.1 rfl (lv_room (Nat.le_of_ble_eq_true rfl)) dX2_fine_52 ⟨Nat.le_of_ble_eq_true rfl, Nat.le_of_ble_eq_true rfl⟩) hS hFc (fun H locs _ hP hD hS _ => ?_)
      have hP : va_P (dC, dI) vwCl (rpW a cA w h wa ((rwF w h wa (dp t.toNat) (rd t.toNat) (((i : Nat) : Int) * st) (evB ((i : Nat) : Int)) w (fnF w h wa (dp t.toNat) (rd t.toNat) st i q0)).2) ka li hk sh ((rwF w h wa (dp t.toNat) (rd t.toNat) (((i : Nat) : Int) * st) (evB ((i : Nat) : Int)) w (fnF w h wa (dp t.toNat) (rd t.toNat) st i q0)).1) kd rd dp) H := hP
      have hD : va_D A (rpW a cA w h wa ((rwF w h wa (dp t.toNat) (rd t.toNat) (((i : Nat) : Int) * st) (evB ((i : Nat) : Int)) w (fnF w h wa (dp t.toNat) (rd t.toNat) st i q0)).2) ka li hk sh ((rwF w h wa (dp t.toNat) (rd t.toNat) (((i : Nat) : Int) * st) (evB ((i : Nat) : Int)) w (fnF w h wa (dp t.toNat) (rd t.toNat) st i q0)).1) kd rd dp) := hD
      refine lv_iinc (v := iI (((i + 1) : Nat) : Int)) (lv' := [(3, .int (iI (((i + 1) : Nat) : Int))), (0, .ref (a 0)), (1, .int (iI t)), (2, .int (iI st)), (4, .int (iI (((i : Nat) : Int) * st)))]) hx hb dX2_fine_55 hl (k := 3) rfl ((iI_add _ _).trans (congrArg iI (by omega))) (by decide) rfl (fun ls hl => ?_)
      refine lv_iload hx hb dX2_fine_58 (lv_at hl 4 rfl) ?_
      refine lv_iload_n hx hb dX2_fine_60 rfl (lv_at hl 3 rfl) ?_
      refine z_add hx hb dX2_fine_61 ?_
      refine z_top (b := (((i + 1) : Nat) : Int) * st) (mulS _ _) ?_
      refine lv_istore (lv' := [(4, .int (iI ((((i + 1) : Nat) : Int) * st))), (3, .int (iI (((i + 1) : Nat) : Int))), (0, .ref (a 0)), (1, .int (iI t)), (2, .int (iI st))]) hx hb dX2_fine_62 hl (by decide) rfl (fun ls hl => ?_)
      refine lv_goto (tgt := 23) hx hb dX2_fine_64 (by decide) ?_
      exact ih (i + 1) (by omega) _ _ _ hP hD hS (lv_sub hl [2, 3, 4, 1, 0] rfl)
    · refine z_if_ne (tgt := 51) hx hb dX2_fine_44 (by decide) (by omega) (fun c44 => ?_) (fun c44 => ?_)
      · refine lv_iconst (v := iI 0) hx hb dX2_fine_51 rfl ?_
        exact z_top (b := evB ((i : Nat) : Int)) (by unfold evB; split <;> omega) J52
      · refine lv_iconst (v := iI 1) hx hb dX2_fine_47 rfl ?_
        refine lv_goto (tgt := 52) hx hb dX2_fine_48 (by decide) ?_
        exact z_top (b := evB ((i : Nat) : Int)) (by unfold evB; split <;> omega) J52
set_option maxHeartbeats 4000000 in
set_option maxRecDepth 100000 in
theorem c_X2_fine (l : Launch) (hl9 : l.stackTraces = false) (dC : Nat → ClassId) (dI : Nat → Nat → Nat) (sz : Nat) (a : Nat → Nat) (cA : Nat → ClassId) (w h : Nat) (wa ma ka li : Nat → Int) (hk sh : Int) (T : TK) (kd rd : Nat → Int) (dp : Nat → Nat → Int) (t st : Int) (hw : 1 ≤ w ∧ w ≤ 20) (hh : 1 ≤ h ∧ h ≤ 20) (hrd : ∀ j, j < 4 → 0 ≤ rd j ∧ rd j ≤ 5) (hdp : ∀ j, j < 4 → bd (dp j) (-1) 5) (hwa : bd wa 0 1000) (hma : bd ma 0 1000) (hT0 : tkOK T 1000000) (h1 : rg t) (h2 : rg st) : vx_Met l yX2_fine wsX2_fine r_X2_fine (zP (dC, dI) vwCl (rpT cA) (rpW a cA w h wa ma ka li hk sh T kd rd dp) sz [.ref (a 0), .int (iI t), .int (iI st)]) (zQi (dC, dI) vwCl (rpT cA) (rpW a cA w h wa ma ka li hk sh T kd rd dp) sz ((0 ≤ t ∧ t ≤ 3) ∧ (1 ≤ st ∧ st ≤ 20)) (fnR h st) (rpW a cA w h wa ((fnW w h wa (dp t.toNat) (rd t.toNat) st (tkC T, ma)).2) ka li hk sh ((fnW w h wa (dp t.toNat) (rd t.toNat) st (tkC T, ma)).1) kd rd dp)) (zX (dC, dI) vwCl (rpT cA) (rpW a cA w h wa ma ka li hk sh T kd rd dp) sz (fun E => (E = "java/lang/IndexOutOfBoundsException" ∧ ¬ (0 ≤ t ∧ t ≤ 3)) ∨ (E = "java/lang/IllegalArgumentException" ∧ (0 ≤ t ∧ t ≤ 3) ∧ ¬ (1 ≤ st ∧ st ≤ 20)))) 2 12 (va_A (rpW a cA w h wa ma ka li hk sh T kd rd dp) sz) := by
  refine vx_ofW (cc := cX2_fine) (maxL := 5) (ret := (some .int)) (by decide) rfl ?_
  intro p e s m args below meth c s₁ B hml ht9 hv
  obtain ⟨rfl, hsz, hP, hK, hD0, hZ⟩ := hv
  have hx := B.exec
  have hb := B.bytes
  have hr := B.returns
  have hts0 := atoms_spec (ws := wsX2_fine) B.pre
  have hts : ∀ w ∈ wsAll, w.before _ s = true := fun w h => hts0 w (List.mem_cons_of_mem _ h)
  have hown : s.vm.findClass RX2 = some m.cls := findClass_of_methodNamed B.named
  have hlocks := B.notSynchronized
  subst hsz
  have hD := hD0.self (sz := s.heap.size)
  obtain ⟨A, hAe⟩ : ∃ A, A = va_A (rpW a cA w h wa ma ka li hk sh T kd rd dp) s.heap.size := ⟨_, rfl⟩
  rw [← hAe] at hD hZ
  have hA : ∀ q : Nat, s.heap.size ≤ q → A q := fun q h => by rw [hAe]; exact Or.inr h
  have hS : va_S A s.heap s.heap [] := va_S.rf
  have hP : va_P (dC, dI) vwCl (rpW a cA w h wa ma ka li hk sh T kd rd dp) s.heap := hP
  have hl := lv_entry ([.ref (a 0), .int (iI t), .int (iI st)]) (n := 5) (Nat.le_of_ble_eq_true rfl)
  rw [lg_entry_eq]
  generalize (lg_sl ([.ref (a 0), .int (iI t), .int (iI st)]) ++ List.replicate (5 - (lg_sl ([.ref (a 0), .int (iI t), .int (iI st)])).length) Slot.unset).toArray = ls at hl ⊢
  have hl : lv_has ls 5 [(0, .ref (a 0)), (1, .int (iI t)), (2, .int (iI st))] := hl
  refine lv_iload_n hx hb dX2_fine_0 rfl (lv_at hl 1 rfl) ?_
  refine z_xrcallv (vx_runS (As := [.int (iI t)]) (rest := []) ⟨hx, hb, hml, hown, hts⟩ (c_X2_needTool l hl9 dC dI (s.heap).size t (by omega)) (va_cwS 1 hts g_X2_76 rfl rfl rfl (by decide +kernel) ⟨Nat.le_of_ble_eq_true rfl, Nat.le_of_ble_eq_true rfl⟩) (zP_S z_P0 (hK.sub [] rfl) z_D0 hS (z_free0 hS hA) hZ) rfl rfl hl.1 rfl (lv_room (Nat.le_of_ble_eq_true rfl)) dX2_fine_1 ⟨Nat.le_of_ble_eq_true rfl, Nat.le_of_ble_eq_true rfl⟩) hP hD hS (z_free0 hS hA) (fun _ h => by cases h) (fun E ce q9 H locs hE hP hS _ h7 h8 h9 => by subst hAe; exact z_xout ht9 hlocks h7 h8 h9 (Or.inl hE) hP hK hD hS (Nat.le_of_ble_eq_true rfl) (Nat.le_of_ble_eq_true rfl)) (fun H locs hok1 hP hD hS _ => ?_)
  refine lv_iload_n hx hb dX2_fine_4 rfl (lv_at hl 2 rfl) ?_
  refine lv_iconst (v := iI 1) hx hb dX2_fine_5 rfl ?_
  refine lv_bipush (v := iI 20) hx hb dX2_fine_6 (by decide) ?_
  refine z_xrcallv (vx_runS (As := [.int (iI st), .int (iI 1), .int (iI 20)]) (rest := []) ⟨hx, hb, hml, hown, hts⟩ (c_X2_needWithin l hl9 dC dI (H).size st 1 20 (by omega) (by omega) (by omega)) (va_cwS 3 hts g_X2_64 rfl rfl rfl (by decide +kernel) ⟨Nat.le_of_ble_eq_true rfl, Nat.le_of_ble_eq_true rfl⟩) (zP_S z_P0 (hK.sub [] rfl) z_D0 hS (z_free0 hS hA) hZ) rfl rfl hl.1 rfl (lv_room (Nat.le_of_ble_eq_true rfl)) dX2_fine_8 ⟨Nat.le_of_ble_eq_true rfl, Nat.le_of_ble_eq_true rfl⟩) hP hD hS (z_free0 hS hA) (fun _ h => by cases h) (fun E ce q9 H locs hE hP hS _ h7 h8 h9 => by subst hAe; exact z_xout ht9 hlocks h7 h8 h9 (Or.inr ⟨hE.1, hok1, hE.2⟩) hP hK hD hS (Nat.le_of_ble_eq_true rfl) (Nat.le_of_ble_eq_true rfl)) (fun H locs hok8 hP hD hS _ => ?_)
  refine lv_aload_n hx hb dX2_fine_11 rfl (lv_at hl 0 rfl) ?_
  have hj : t.toNat < 4 := by omega
  have hrd := hrd _ hj
  have hdp := hdp _ hj
  refine va_get (D := (dC, dI)) (ci := 2) (v := .ref (a 6)) (C := RX2) (T := TX2) (N := 10) hx hb hts inX2 hown hK hP 0 rfl rfl 7 (by decide) (hts _ wm_178) (fun _ h9 => h9) rfl dX2_fine_12 ?_
  have hPc := hP.sub (ws' := tkW (a 6) (a 7) (cA 5) T) [6, 7] rfl
  have hDc := hD.sub (ws' := tkW (a 6) (a 7) (cA 5) T) [6, 7] (by decide) rfl
  have hKc := hK.sub (tys' := [((cA 5), .int)]) [5] rfl
  have hFc := va_free (wc := tkW (a 6) (a 7) (cA 5) T) hD hS hA [6, 7] rfl
  refine z_callv (ws' := rpW a cA w h wa ma ka li hk sh (tkC T) kd rd dp) (wr := [0, 1, 2, 3, 4, 5, 8, 9, 10, 11, 12, 13, 14, 15].filterMap (fun z9 => (rpW a cA w h wa ma ka li hk sh T kd rd dp)[z9]?)) (va_runV (As := []) (rest := []) ⟨hx, hb, hml, hown, hts⟩ (c_X1_clear l dC dI (H).size (a 6) (a 7) (cA 5) T) (cwV 0 hts g_X2_101 rfl rfl rfl (by decide +kernel) ⟨Nat.le_of_ble_eq_true rfl, Nat.le_of_ble_eq_true rfl⟩) (zP_V (ci := 1) (q0 := 0) rfl rfl hPc hKc hDc hS hFc hZ) rfl rfl hl.1 rfl (lv_room (Nat.le_of_ble_eq_true rfl)) dX2_fine_15 ⟨Nat.le_of_ble_eq_true rfl, Nat.le_of_ble_eq_true rfl⟩) hP hD hS hFc [6, 7] [0, 1, 2, 3, 4, 5, 8, 9, 10, 11, 12, 13, 14, 15] [0, 1, 2, 3, 4, 5, 14, 15, 6, 7, 8, 9, 10, 11, 12, 13] rfl rfl (by decide) (by decide) rfl (by decide) (fun H locs _ hP hD hS _ => ?_)
  have hP : va_P (dC, dI) vwCl (rpW a cA w h wa ma ka li hk sh (tkC T) kd rd dp) H := hP
  have hD : va_D A (rpW a cA w h wa ma ka li hk sh (tkC T) kd rd dp) := hD
  refine lv_iconst (v := iI 0) hx hb dX2_fine_18 rfl ?_
  refine lv_istore_n (lv' := [(3, .int (iI 0)), (0, .ref (a 0)), (1, .int (iI t)), (2, .int (iI st))]) hx hb dX2_fine_19 rfl hl (by decide) rfl (fun ls hl => ?_)
  refine lv_iconst (v := iI 0) hx hb dX2_fine_20 rfl ?_
  refine z_top (b := ((0 : Nat) : Int) * st) ((Int.zero_mul st).symm) ?_
  refine lv_istore (lv' := [(4, .int (iI (((0 : Nat) : Int) * st))), (3, .int (iI 0)), (0, .ref (a 0)), (1, .int (iI t)), (2, .int (iI st))]) hx hb dX2_fine_21 hl (by decide) rfl (fun ls hl => ?_)
  refine lp_X2_fine_23 a cA w h wa ka li hk sh kd rd dp (tkC T, ma) t st 0 hx hb hml hown hts hA hZ hK (hw) (hh) (hj) (hrd) (hdp) (hwa) (hok8) (hok1) (tkC_ok hT0) (hma) (by decide) (fun H locs ls hP hD hS hl => ?_)  (yN h st) 0 (by omega) _ _ _ hP hD hS (lv_sub hl [2, 3, 4, 1, 0] rfl)
  have hP : va_P (dC, dI) vwCl (rpW a cA w h wa ((fnF w h wa (dp t.toNat) (rd t.toNat) st (yN h st) (tkC T, ma)).2) ka li hk sh ((fnF w h wa (dp t.toNat) (rd t.toNat) st (yN h st) (tkC T, ma)).1) kd rd dp) H := hP
  have hD : va_D A (rpW a cA w h wa ((fnF w h wa (dp t.toNat) (rd t.toNat) st (yN h st) (tkC T, ma)).2) ka li hk sh ((fnF w h wa (dp t.toNat) (rd t.toNat) st (yN h st) (tkC T, ma)).1) kd rd dp) := hD
  have hl : lv_has ls 5 [(0, .ref (a 0)), (1, .int (iI t)), (2, .int (iI st)), (3, .int (iI ((yN h st : Nat) : Int))), (4, .int (iI (((yN h st : Nat) : Int) * st)))] := hl
  have hyn := yN_le hh hok8.1
  have hQ := fnF_ok (w := w) (r := rd t.toNat) (n := yN h st) (M := 0) (q := (tkC T, ma)) hw.2 hh (Nat.le_refl _) hok8.1 hwa hdp (tkC_ok hT0) hma
  refine lv_aload_n hx hb dX2_fine_67 rfl (lv_at hl 0 rfl) ?_
  refine va_get (D := (dC, dI)) (ci := 2) (v := .int (iI (h : Int))) (C := RX2) (T := TX2) (N := 10) hx hb hts inX2 hown hK hP 0 rfl rfl 1 (by decide) (hts _ wm_172) (fun _ h9 => h9) rfl dX2_fine_68 ?_
  refine lv_iconst (v := iI 1) hx hb dX2_fine_71 rfl ?_
  refine z_sub hx hb dX2_fine_72 ?_
  refine lv_iload_n hx hb dX2_fine_73 rfl (lv_at hl 2 rfl) ?_
  refine z_rem hx hb dX2_fine_74 (by omega) (by omega) ?_
  refine z_if_eq (tgt := 108) hx hb dX2_fine_75 (by decide) (by have := z_mod (a := (h : Int) - 1) (b := st) (by omega) (by omega); omega) (fun c75 => ?_) (fun c75 => ?_)
  · refine lv_iload_n hx hb dX2_fine_108 rfl (lv_at hl 3 rfl) ?_
    refine vx_ret ?_
    subst hAe
    first | rw [show fnW w h wa (dp t.toNat) (rd t.toNat) st (tkC T, ma) = _ from if_pos c75] | rw [show fnW w h wa (dp t.toNat) (rd t.toNat) st (tkC T, ma) = _ from if_neg c75]
    refine z_top (b := fnR h st) (by unfold fnR; first | rw [if_pos c75] | rw [if_neg c75]) ?_
    exact z_iret hx hb hr hlocks hP hK hD hS (⟨hok1, hok8⟩) dX2_fine_109
  · refine lv_aload_n hx hb dX2_fine_78 rfl (lv_at hl 0 rfl) ?_
    refine lv_aload_n hx hb dX2_fine_79 rfl (lv_at hl 0 rfl) ?_
    refine va_get (D := (dC, dI)) (ci := 2) (v := .ref (a 5)) (C := RX2) (T := TX2) (N := 10) hx hb hts inX2 hown hK hP 0 rfl rfl 6 (by decide) (hts _ wm_177) (fun _ h9 => h9) rfl dX2_fine_80 ?_
    refine lv_iload_n hx hb dX2_fine_83 rfl (lv_at hl 1 rfl) ?_
    refine z_aald (f := fun j => a (8 + j)) (i := t) hx hb hK hP 5 4 rfl rfl (by omega) (by decide) dX2_fine_84 ?_
    refine lv_aload_n hx hb dX2_fine_85 rfl (lv_at hl 0 rfl) ?_
    refine va_get (D := (dC, dI)) (ci := 2) (v := .int (iI (h : Int))) (C := RX2) (T := TX2) (N := 10) hx hb hts inX2 hown hK hP 0 rfl rfl 1 (by decide) (hts _ wm_172) (fun _ h9 => h9) rfl dX2_fine_86 ?_
    refine lv_iconst (v := iI 1) hx hb dX2_fine_89 rfl ?_
    refine z_sub hx hb dX2_fine_90 ?_
    refine lv_iload_n hx hb dX2_fine_91 rfl (lv_at hl 3 rfl) ?_
    refine lv_iconst (v := iI 2) hx hb dX2_fine_92 rfl ?_
    refine z_rem hx hb dX2_fine_93 (by omega) (by omega) ?_
    refine z_join (g0 := F0 m 102 ls [.int (iI (evB ((yN h st : Nat) : Int))), .int (iI ((h : Int) - 1)), .ref (a (8 + t.toNat)), .ref (a 0)]) ?_ (fun J102 => ?_)
    · have hFc := z_freeR (wc := rpW a cA w h wa ((fnF w h wa (dp t.toNat) (rd t.toNat) st (yN h st) (tkC T, ma)).2) ka li hk sh ((fnF w h wa (dp t.toNat) (rd t.toNat) st (yN h st) (tkC T, ma)).1) kd rd dp) (fun _ h => h) hD hS hA
      refine z_wcallv (va_runV (As := [.ref (a (8 + t.toNat)), .int (iI ((h : Int) - 1)), .int (iI (evB ((yN h st : Nat) : Int)))]) (rest := []) ⟨hx, hb, hml, hown, hts⟩ (c_X2_goAlongRow l dC dI (H).size a cA w h wa ((fnF w h wa (dp t.toNat) (rd t.toNat) st (yN h st) (tkC T, ma)).2) ka li hk sh ((fnF w h wa (dp t.toNat) (rd t.toNat) st (yN h st) (tkC T, ma)).1) kd rd dp t.toNat ((h : Int) - 1) (evB ((yN h st : Nat) : Int)) (0 + 20 * ((yN h st : Nat) : Int)) hw hh hj hrd hdp hwa ⟨by omega, by omega⟩ (evB_rg _) hQ.1 hQ.2 (by omega)) (cwV 3 hts g_X2_112 rfl rfl rfl (by decide +kernel) ⟨Nat.le_of_ble_eq_true rfl, Nat.le_of_ble_eq_true rfl⟩) (zP_V (ci := 2) (q0 := 0) rfl rfl hP hK hD hS hFc hZ) rfl rfl hl.1 rfl (lv_room (Nat.le_of_ble_eq_true rfl)) dX2_fine_102 ⟨Nat.le_of_ble_eq_true rfl, Nat.le_of_ble_eq_true rfl⟩) hS hFc (fun H locs _ hP hD hS _ => ?_)
      have hP : va_P (dC, dI) vwCl (rpW a cA w h wa ((rwF w h wa (dp t.toNat) (rd t.toNat) ((h : Int) - 1) (evB ((yN h st : Nat) : Int)) w (fnF w h wa (dp t.toNat) (rd t.toNat) st (yN h st) (tkC T, ma))).2) ka li hk sh ((rwF w h wa (dp t.toNat) (rd t.toNat) ((h : Int) - 1) (evB ((yN h st : Nat) : Int)) w (fnF w h wa (dp t.toNat) (rd t.toNat) st (yN h st) (tkC T, ma))).1) kd rd dp) H := hP
      have hD : va_D A (rpW a cA w h wa ((rwF w h wa (dp t.toNat) (rd t.toNat) ((h : Int) - 1) (evB ((yN h st : Nat) : Int)) w (fnF w h wa (dp t.toNat) (rd t.toNat) st (yN h st) (tkC T, ma))).2) ka li hk sh ((rwF w h wa (dp t.toNat) (rd t.toNat) ((h : Int) - 1) (evB ((yN h st : Nat) : Int)) w (fnF w h wa (dp t.toNat) (rd t.toNat) st (yN h st) (tkC T, ma))).1) kd rd dp) := hD
      refine lv_iinc (v := iI (((yN h st : Nat) : Int) + 1)) (lv' := [(3, .int (iI (((yN h st : Nat) : Int) + 1))), (0, .ref (a 0)), (1, .int (iI t)), (2, .int (iI st)), (4, .int (iI (((yN h st : Nat) : Int) * st)))]) hx hb dX2_fine_105 hl (k := 3) rfl (iI_add _ _) (by decide) rfl (fun ls hl => ?_)
      refine lv_iload_n hx hb dX2_fine_108 rfl (lv_at hl 0 rfl) ?_
      refine vx_ret ?_
      subst hAe
      first | rw [show fnW w h wa (dp t.toNat) (rd t.toNat) st (tkC T, ma) = _ from if_pos c75] | rw [show fnW w h wa (dp t.toNat) (rd t.toNat) st (tkC T, ma) = _ from if_neg c75]
      refine z_top (b := fnR h st) (by unfold fnR; first | rw [if_pos c75] | rw [if_neg c75]) ?_
      exact z_iret hx hb hr hlocks hP hK hD hS (⟨hok1, hok8⟩) dX2_fine_109
    · refine z_if_ne (tgt := 101) hx hb dX2_fine_94 (by decide) (by omega) (fun c94 => ?_) (fun c94 => ?_)
      · refine lv_iconst (v := iI 0) hx hb dX2_fine_101 rfl ?_
        exact z_top (b := evB ((yN h st : Nat) : Int)) (by unfold evB; split <;> omega) J102
      · refine lv_iconst (v := iI 1) hx hb dX2_fine_97 rfl ?_
        refine lv_goto (tgt := 102) hx hb dX2_fine_98 (by decide) ?_
        exact z_top (b := evB ((yN h st : Nat) : Int)) (by unfold evB; split <;> omega) J102
