theorem g_X2_116 : GoodIn wsAll (wsV RX2 116 RX2 yX2_leftAt wsX2_leftAt) := z_good (show ∀ w ∈ (Cond.methodLink RX2 116 yX2_leftAt :: Cond.instanceMethod yX2_leftAt :: Cond.selects RX2 yX2_leftAt yX2_leftAt :: Cond.initialized RX2 :: Cond.code yX2_leftAt prog_1_method_24_code 2 (some .int) :: wsAll), w ∈ wsAll from List.forall_mem_cons.mpr ⟨wm_205, List.forall_mem_cons.mpr ⟨wm_206, List.forall_mem_cons.mpr ⟨wm_559, List.forall_mem_cons.mpr ⟨wm_109, List.forall_mem_cons.mpr ⟨wm_207, fun _ h => h⟩⟩⟩⟩⟩)
abbrev r_X2_below : Room := { frames := 1, cells := 0, slots := 0, locals := 21 }
set_option maxHeartbeats 4000000 in
set_option maxRecDepth 100000 in
theorem lp_X2_below_2 {p : Program} {l : Launch} {e : Env} {s : State} {m : MethodId} {args : Array Value} {below : List Frame} {meth : Method} {c : Code} {Q : State → Prop} {A : Nat → Prop} {dC : Nat → ClassId} {dI : Nat → Nat → Nat} (a : Nat → Nat) (cA : Nat → ClassId) (w h : Nat) (wa ma ka li : Nat → Int) (hk sh : Int) (T : TK) (kd rd : Nat → Int) (dp : Nat → Nat → Int) (hx : p.tables.exec = Jvm.exec) (hb : c.code = cX2_below) (hml : c.maxLocals = 2) (hown : s.vm.findClass RX2 = some m.cls) (hts : ∀ w ∈ wsAll, w.before args s = true) (hA : ∀ q : Nat, s.heap.size ≤ q → A q) (hZ : zZ A s s.heap) (hK : va_K (dC, dI) vwCl (rpT cA) s) (hw : 1 ≤ w ∧ w ≤ 20) (hh : 1 ≤ h ∧ h ≤ 20) (hwa : bd wa 0 1000) (hma : bd ma 0 1000) (kk : belF ma wa (w * h) = 0 → ∀ (H : Heap) (locs : List Loc) (ls : Array Slot), va_P (dC, dI) vwCl (rpW a cA w h wa ma ka li hk sh T kd rd dp) H → va_D A (rpW a cA w h wa ma ka li hk sh T kd rd dp) → va_S A s.heap H locs → lv_has ls 2 [(0, .ref (a 0)), (1, .int (iI ((w * h : Nat) : Int)))] → W p l e r_X2_below s m args below meth c H locs 0 0 Q (F0 m 27 ls [])) (kr : ∀ (i : Nat), i < w * h → belF ma wa i = 0 → ma i - wa i < 0 → ∀ (H : Heap) (locs : List Loc) (ls : Array Slot), va_P (dC, dI) vwCl (rpW a cA w h wa ma ka li hk sh T kd rd dp) H → va_D A (rpW a cA w h wa ma ka li hk sh T kd rd dp) → va_S A s.heap H locs → lv_has ls 2 [(0, .ref (a 0)), (1, .int (iI ((i : Nat) : Int)))] → W p l e r_X2_below s m args below meth c H locs 0 0 Q (F0 m 19 ls [])) : ∀ (n i : Nat), i + n = w * h → belF ma wa i = 0 → ∀ (H : Heap) (locs : List Loc) (ls : Array Slot), va_P (dC, dI) vwCl (rpW a cA w h wa ma ka li hk sh T kd rd dp) H → va_D A (rpW a cA w h wa ma ka li hk sh T kd rd dp) → va_S A s.heap H locs → lv_has ls 2 [(0, .ref (a 0)), (1, .int (iI ((i : Nat) : Int)))] → W p l e r_X2_below s m args below meth c H locs 0 0 Q (F0 m 2 ls []) := by
  intro n
  induction n with
  | zero =>
    intro i hi hinv H locs ls hP hD hS hl
    have hi9 : w * h = i := by omega
    subst hi9
    have hwh := z_wh hw.2 hh.2
    refine lv_iload_n hx hb dX2_below_2 rfl (lv_at hl 1 rfl) ?_
    refine lv_aload_n hx hb dX2_below_3 rfl (lv_at hl 0 rfl) ?_
    refine va_get (D := (dC, dI)) (ci := 2) (v := .ref (a 2)) (C := RX2) (T := TX2) (N := 10) hx hb hts inX2 hown hK hP 0 rfl rfl 3 (by decide) (hts _ wm_174) (fun _ h9 => h9) rfl dX2_below_4 ?_
    refine z_alen hx hb hK hP 2 1 rfl rfl dX2_below_7 ?_
    refine z_top (b := ((w * h : Nat) : Int)) rfl ?_
    refine z_icmp_ge (tgt := 27) hx hb dX2_below_8 (by decide) (by omega) (by omega) (fun c8 => ?_) (fun c8 => by exfalso; omega)
    exact kk hinv _ _ _ hP hD hS (lv_sub hl [0, 1] rfl)
  | succ n ih =>
    intro i hi hinv H locs ls hP hD hS hl
    have hwh := z_wh hw.2 hh.2
    refine lv_iload_n hx hb dX2_below_2 rfl (lv_at hl 1 rfl) ?_
    refine lv_aload_n hx hb dX2_below_3 rfl (lv_at hl 0 rfl) ?_
    refine va_get (D := (dC, dI)) (ci := 2) (v := .ref (a 2)) (C := RX2) (T := TX2) (N := 10) hx hb hts inX2 hown hK hP 0 rfl rfl 3 (by decide) (hts _ wm_174) (fun _ h9 => h9) rfl dX2_below_4 ?_
    refine z_alen hx hb hK hP 2 1 rfl rfl dX2_below_7 ?_
    refine z_top (b := ((w * h : Nat) : Int)) rfl ?_
    refine z_icmp_ge (tgt := 27) hx hb dX2_below_8 (by decide) (by omega) (by omega) (fun c8 => by exfalso; omega) (fun c8 => ?_)
    refine lv_aload_n hx hb dX2_below_11 rfl (lv_at hl 0 rfl) ?_
    refine lv_iload_n hx hb dX2_below_12 rfl (lv_at hl 1 rfl) ?_
    have hwh := z_wh hw.2 hh.2
    have hb1 := hma i
    have hb2 := hwa i
    have hFc := z_freeR (wc := rpW a cA w h wa ma ka li hk sh T kd rd dp) (fun _ h => h) hD hS hA
    refine z_wcalli (va_runV (As := [.int (iI ((i : Nat) : Int))]) (rest := []) ⟨hx, hb, hml, hown, hts⟩ (c_X2_leftAt l dC dI (H).size a cA w h wa ma ka li hk sh T kd rd dp ((i : Nat) : Int) hw hh (by omega)) (cwV 1 hts g_X2_116 rfl rfl rfl (by decide +kernel) ⟨Nat.le_of_ble_eq_true rfl, Nat.le_of_ble_eq_true rfl⟩) (zP_V (ci := 2) (q0 := 0) rfl rfl hP hK hD hS hFc hZ) rfl rfl hl.1 rfl (lv_room (Nat.le_of_ble_eq_true rfl)) dX2_below_13 ⟨Nat.le_of_ble_eq_true rfl, Nat.le_of_ble_eq_true rfl⟩) hS hFc (fun H locs _ hP hD hS _ => ?_)
    have hP : va_P (dC, dI) vwCl (rpW a cA w h wa ma ka li hk sh T kd rd dp) H := hP
    have hD : va_D A (rpW a cA w h wa ma ka li hk sh T kd rd dp) := hD
    refine z_top (b := ma i - wa i) (rfl) ?_
    refine z_if_ge (tgt := 21) hx hb dX2_below_16 (by decide) (by omega) (fun c16 => ?_) (fun c16 => ?_)
    · refine lv_iinc (v := iI (((i + 1) : Nat) : Int)) (lv' := [(1, .int (iI (((i + 1) : Nat) : Int))), (0, .ref (a 0))]) hx hb dX2_below_21 hl (k := 1) rfl ((iI_add _ _).trans (congrArg iI (by omega))) (by decide) rfl (fun ls hl => ?_)
      refine lv_goto (tgt := 2) hx hb dX2_below_24 (by decide) ?_
      exact ih (i + 1) (by omega) (by show (if ma i - wa i < 0 then 1 else belF ma wa i) = 0; rw [if_neg (by omega)]; exact hinv) _ _ _ hP hD hS (lv_sub hl [1, 0] rfl)
    · exact kr i (by omega) hinv (by omega) _ _ _ hP hD hS (lv_sub hl [0, 1] rfl)
set_option maxHeartbeats 4000000 in
set_option maxRecDepth 100000 in
theorem c_X2_below (l : Launch) (dC : Nat → ClassId) (dI : Nat → Nat → Nat) (sz : Nat) (a : Nat → Nat) (cA : Nat → ClassId) (w h : Nat) (wa ma ka li : Nat → Int) (hk sh : Int) (T : TK) (kd rd : Nat → Int) (dp : Nat → Nat → Int) (hw : 1 ≤ w ∧ w ≤ 20) (hh : 1 ≤ h ∧ h ≤ 20) (hwa : bd wa 0 1000) (hma : bd ma 0 1000) : Met l yX2_below wsX2_below r_X2_below (zP (dC, dI) vwCl (rpT cA) (rpW a cA w h wa ma ka li hk sh T kd rd dp) sz [.ref (a 0)]) (zQi (dC, dI) vwCl (rpT cA) (rpW a cA w h wa ma ka li hk sh T kd rd dp) sz (True) (belF ma wa (w * h)) (rpW a cA w h wa ma ka li hk sh T kd rd dp)) 0 0 (va_A (rpW a cA w h wa ma ka li hk sh T kd rd dp) sz) := by
  refine Met.ofW (cc := cX2_below) (maxL := 2) (ret := (some .boolean)) (by decide) rfl ?_
  intro p e s m args below meth c s₁ B hml hv
  obtain ⟨rfl, hsz, hP, hK, hD0, hZ⟩ := hv
  have hx := B.exec
  have hb := B.bytes
  have hr := B.returns
  have hts0 := atoms_spec (ws := wsX2_below) B.pre
  have hts : ∀ w ∈ wsAll, w.before _ s = true := fun w h => hts0 w (List.mem_cons_of_mem _ h)
  have hown : s.vm.findClass RX2 = some m.cls := findClass_of_methodNamed B.named
  have hlocks := B.notSynchronized
  subst hsz
  have hD := hD0.self (sz := s.heap.size)
  obtain ⟨A, hAe⟩ : ∃ A, A = va_A (rpW a cA w h wa ma ka li hk sh T kd rd dp) s.heap.size := ⟨_, rfl⟩
  rw [← hAe] at hD hZ
  have hA : ∀ q : Nat, s.heap.size ≤ q → A q := fun q h => by rw [hAe]; exact Or.inr h
  have hS : va_S A s.heap s.heap [] := va_S.rf
  have hP : va_P (dC, dI) vwCl (rpW a cA w h wa ma ka li hk sh T kd rd dp) s.heap := hP
  have hl := lv_entry ([.ref (a 0)]) (n := 2) (Nat.le_of_ble_eq_true rfl)
  rw [lg_entry_eq]
  generalize (lg_sl ([.ref (a 0)]) ++ List.replicate (2 - (lg_sl ([.ref (a 0)])).length) Slot.unset).toArray = ls at hl ⊢
  have hl : lv_has ls 2 [(0, .ref (a 0))] := hl
  refine lv_iconst (v := iI 0) hx hb dX2_below_0 rfl ?_
  refine lv_istore_n (lv' := [(1, .int (iI 0)), (0, .ref (a 0))]) hx hb dX2_below_1 rfl hl (by decide) rfl (fun ls hl => ?_)
  refine lp_X2_below_2 a cA w h wa ma ka li hk sh T kd rd dp hx hb hml hown hts hA hZ hK (hw) (hh) (hwa) (hma) (fun hinv H locs ls hP hD hS hl => ?_) (fun i9 hi9 hinv9 hfact H locs ls hP hD hS hl => ?_) (w * h) 0 (by omega) (rfl) _ _ _ hP hD hS (lv_sub hl [1, 0] rfl)
  · have hP : va_P (dC, dI) vwCl (rpW a cA w h wa ma ka li hk sh T kd rd dp) H := hP
    have hD : va_D A (rpW a cA w h wa ma ka li hk sh T kd rd dp) := hD
    have hl : lv_has ls 2 [(0, .ref (a 0)), (1, .int (iI ((w * h : Nat) : Int)))] := hl
    refine lv_iconst (v := iI 0) hx hb dX2_below_27 rfl ?_
    subst hAe
    refine z_top (b := belF ma wa (w * h)) (hinv.symm) ?_
    exact z_zret hx hb hr hlocks (belF_01 _ _ _) hP hK hD hS (trivial) dX2_below_28
  · have hP : va_P (dC, dI) vwCl (rpW a cA w h wa ma ka li hk sh T kd rd dp) H := hP
    have hD : va_D A (rpW a cA w h wa ma ka li hk sh T kd rd dp) := hD
    have hl : lv_has ls 2 [(0, .ref (a 0)), (1, .int (iI ((i9 : Nat) : Int)))] := hl
    refine lv_iconst (v := iI 1) hx hb dX2_below_19 rfl ?_
    subst hAe
    refine z_top (b := belF ma wa (w * h)) ((belF_hit hi9 hfact).symm) ?_
    exact z_zret hx hb hr hlocks (belF_01 _ _ _) hP hK hD hS (trivial) dX2_below_20
abbrev r_X2_sum : Room := { frames := 1, cells := 0, slots := 0, locals := 24 }
set_option maxHeartbeats 4000000 in
set_option maxRecDepth 100000 in
theorem lp_X2_sum_4 {p : Program} {l : Launch} {e : Env} {s : State} {m : MethodId} {args : Array Value} {below : List Frame} {meth : Method} {c : Code} {Q : State → Prop} {A : Nat → Prop} {dC : Nat → ClassId} {dI : Nat → Nat → Nat} (a : Nat → Nat) (cA : Nat → ClassId) (w h : Nat) (wa ma ka li : Nat → Int) (hk sh : Int) (T : TK) (kd rd : Nat → Int) (dp : Nat → Nat → Int) (hx : p.tables.exec = Jvm.exec) (hb : c.code = cX2_sum) (hml : c.maxLocals = 4) (hown : s.vm.findClass RX2 = some m.cls) (hts : ∀ w ∈ wsAll, w.before args s = true) (hA : ∀ q : Nat, s.heap.size ≤ q → A q) (hZ : zZ A s s.heap) (hK : va_K (dC, dI) vwCl (rpT cA) s) (hw : 1 ≤ w ∧ w ≤ 20) (hh : 1 ≤ h ∧ h ≤ 20) (hwa : bd wa 0 1000) (hma : bd ma 0 1000) (kk : ∀ (H : Heap) (locs : List Loc) (ls : Array Slot), va_P (dC, dI) vwCl (rpW a cA w h wa ma ka li hk sh T kd rd dp) H → va_D A (rpW a cA w h wa ma ka li hk sh T kd rd dp) → va_S A s.heap H locs → lv_has ls 4 [(0, .ref (a 0)), (1, .long (lI (smF ma wa (w * h)))), (3, .int (iI ((w * h : Nat) : Int)))] → W p l e r_X2_sum s m args below meth c H locs 0 0 Q (F0 m 32 ls [])) : ∀ (n i : Nat), i + n = w * h → ∀ (H : Heap) (locs : List Loc) (ls : Array Slot), va_P (dC, dI) vwCl (rpW a cA w h wa ma ka li hk sh T kd rd dp) H → va_D A (rpW a cA w h wa ma ka li hk sh T kd rd dp) → va_S A s.heap H locs → lv_has ls 4 [(0, .ref (a 0)), (1, .long (lI (smF ma wa i))), (3, .int (iI ((i : Nat) : Int)))] → W p l e r_X2_sum s m args below meth c H locs 0 0 Q (F0 m 4 ls []) := by
  intro n
  induction n with
  | zero =>
    intro i hi H locs ls hP hD hS hl
    have hi9 : w * h = i := by omega
    subst hi9
    have hwh := z_wh hw.2 hh.2
    refine lv_iload_n hx hb dX2_sum_4 rfl (lv_at hl 2 rfl) ?_
    refine lv_aload_n hx hb dX2_sum_5 rfl (lv_at hl 0 rfl) ?_
    refine va_get (D := (dC, dI)) (ci := 2) (v := .ref (a 2)) (C := RX2) (T := TX2) (N := 10) hx hb hts inX2 hown hK hP 0 rfl rfl 3 (by decide) (hts _ wm_174) (fun _ h9 => h9) rfl dX2_sum_6 ?_
    refine z_alen hx hb hK hP 2 1 rfl rfl dX2_sum_9 ?_
    refine z_top (b := ((w * h : Nat) : Int)) rfl ?_
    refine z_icmp_ge (tgt := 32) hx hb dX2_sum_10 (by decide) (by omega) (by omega) (fun c10 => ?_) (fun c10 => by exfalso; omega)
    exact kk _ _ _ hP hD hS (lv_sub hl [0, 1, 2] rfl)
  | succ n ih =>
    intro i hi H locs ls hP hD hS hl
    have hwh := z_wh hw.2 hh.2
    refine lv_iload_n hx hb dX2_sum_4 rfl (lv_at hl 2 rfl) ?_
    refine lv_aload_n hx hb dX2_sum_5 rfl (lv_at hl 0 rfl) ?_
    refine va_get (D := (dC, dI)) (ci := 2) (v := .ref (a 2)) (C := RX2) (T := TX2) (N := 10) hx hb hts inX2 hown hK hP 0 rfl rfl 3 (by decide) (hts _ wm_174) (fun _ h9 => h9) rfl dX2_sum_6 ?_
    refine z_alen hx hb hK hP 2 1 rfl rfl dX2_sum_9 ?_
    refine z_top (b := ((w * h : Nat) : Int)) rfl ?_
    refine z_icmp_ge (tgt := 32) hx hb dX2_sum_10 (by decide) (by omega) (by omega) (fun c10 => by exfalso; omega) (fun c10 => ?_)
    have hb1 := hma i
    have hb2 := hwa i
    refine lv_lload_n hx hb dX2_sum_13 rfl (lv_at hl 1 rfl) ?_
    refine lv_iconst (v := iI 0) hx hb dX2_sum_14 rfl ?_
    refine lv_aload_n hx hb dX2_sum_15 rfl (lv_at hl 0 rfl) ?_
    refine lv_iload_n hx hb dX2_sum_16 rfl (lv_at hl 2 rfl) ?_
    have hFc := z_freeR (wc := rpW a cA w h wa ma ka li hk sh T kd rd dp) (fun _ h => h) hD hS hA
    refine z_wcalli (va_runV (As := [.int (iI ((i : Nat) : Int))]) (rest := [.int (iI 0), .long (lI (smF ma wa i))]) ⟨hx, hb, hml, hown, hts⟩ (c_X2_leftAt l dC dI (H).size a cA w h wa ma ka li hk sh T kd rd dp ((i : Nat) : Int) hw hh (by omega)) (cwV 1 hts g_X2_116 rfl rfl rfl (by decide +kernel) ⟨Nat.le_of_ble_eq_true rfl, Nat.le_of_ble_eq_true rfl⟩) (zP_V (ci := 2) (q0 := 0) rfl rfl hP hK hD hS hFc hZ) rfl rfl hl.1 rfl (lv_room (Nat.le_of_ble_eq_true rfl)) dX2_sum_17 ⟨Nat.le_of_ble_eq_true rfl, Nat.le_of_ble_eq_true rfl⟩) hS hFc (fun H locs _ hP hD hS _ => ?_)
    have hP : va_P (dC, dI) vwCl (rpW a cA w h wa ma ka li hk sh T kd rd dp) H := hP
    have hD : va_D A (rpW a cA w h wa ma ka li hk sh T kd rd dp) := hD
    refine z_top (b := ma i - wa i) (rfl) ?_
    refine z_max hx hb (hml.trans hl.1.symm) hown (hts _ wm_127) (hts _ wm_128) (hts _ wm_110) (hts _ wm_129) (Nat.le_of_ble_eq_true rfl) (Nat.le_of_ble_eq_true rfl) (Nat.le_of_ble_eq_true rfl) (Nat.le_of_ble_eq_true rfl) dX2_sum_20 (by omega) (by omega) ?_
    refine z_i2l hx hb dX2_sum_23 (by omega) ?_
    refine z_ladd hx hb dX2_sum_24 ?_
    refine lv_lstore_n (lv' := [(1, .long (lI ((smF ma wa i) + (max 0 (ma i - wa i))))), (0, .ref (a 0)), (3, .int (iI ((i : Nat) : Int)))]) hx hb dX2_sum_25 rfl hl (by decide) rfl (fun ls hl => ?_)
    refine lv_iinc (v := iI (((i + 1) : Nat) : Int)) (lv' := [(3, .int (iI (((i + 1) : Nat) : Int))), (1, .long (lI ((smF ma wa i) + (max 0 (ma i - wa i))))), (0, .ref (a 0))]) hx hb dX2_sum_26 hl (k := 2) rfl ((iI_add _ _).trans (congrArg iI (by omega))) (by decide) rfl (fun ls hl => ?_)
    refine lv_goto (tgt := 4) hx hb dX2_sum_29 (by decide) ?_
    exact ih (i + 1) (by omega) _ _ _ hP hD hS (lv_sub hl [2, 1, 0] rfl)
set_option maxHeartbeats 4000000 in
set_option maxRecDepth 100000 in
theorem c_X2_sum (l : Launch) (dC : Nat → ClassId) (dI : Nat → Nat → Nat) (sz : Nat) (a : Nat → Nat) (cA : Nat → ClassId) (w h : Nat) (wa ma ka li : Nat → Int) (hk sh : Int) (T : TK) (kd rd : Nat → Int) (dp : Nat → Nat → Int) (hw : 1 ≤ w ∧ w ≤ 20) (hh : 1 ≤ h ∧ h ≤ 20) (hwa : bd wa 0 1000) (hma : bd ma 0 1000) : Met l yX2_sum wsX2_sum r_X2_sum (zP (dC, dI) vwCl (rpT cA) (rpW a cA w h wa ma ka li hk sh T kd rd dp) sz [.ref (a 0)]) (zQl (dC, dI) vwCl (rpT cA) (rpW a cA w h wa ma ka li hk sh T kd rd dp) sz (True) (smF ma wa (w * h)) (rpW a cA w h wa ma ka li hk sh T kd rd dp)) 0 0 (va_A (rpW a cA w h wa ma ka li hk sh T kd rd dp) sz) := by
  refine Met.ofW (cc := cX2_sum) (maxL := 4) (ret := (some .long)) (by decide) rfl ?_
  intro p e s m args below meth c s₁ B hml hv
  obtain ⟨rfl, hsz, hP, hK, hD0, hZ⟩ := hv
  have hx := B.exec
  have hb := B.bytes
  have hr := B.returns
  have hts0 := atoms_spec (ws := wsX2_sum) B.pre
  have hts : ∀ w ∈ wsAll, w.before _ s = true := fun w h => hts0 w (List.mem_cons_of_mem _ h)
  have hown : s.vm.findClass RX2 = some m.cls := findClass_of_methodNamed B.named
  have hlocks := B.notSynchronized
  subst hsz
  have hD := hD0.self (sz := s.heap.size)
  obtain ⟨A, hAe⟩ : ∃ A, A = va_A (rpW a cA w h wa ma ka li hk sh T kd rd dp) s.heap.size := ⟨_, rfl⟩
  rw [← hAe] at hD hZ
  have hA : ∀ q : Nat, s.heap.size ≤ q → A q := fun q h => by rw [hAe]; exact Or.inr h
  have hS : va_S A s.heap s.heap [] := va_S.rf
  have hP : va_P (dC, dI) vwCl (rpW a cA w h wa ma ka li hk sh T kd rd dp) s.heap := hP
  have hl := lv_entry ([.ref (a 0)]) (n := 4) (Nat.le_of_ble_eq_true rfl)
  rw [lg_entry_eq]
  generalize (lg_sl ([.ref (a 0)]) ++ List.replicate (4 - (lg_sl ([.ref (a 0)])).length) Slot.unset).toArray = ls at hl ⊢
  have hl : lv_has ls 4 [(0, .ref (a 0))] := hl
  refine lv_lconst (v := lI 0) hx hb dX2_sum_0 (by decide) ?_
  refine lv_lstore_n (lv' := [(1, .long (lI 0)), (0, .ref (a 0))]) hx hb dX2_sum_1 rfl hl (by decide) rfl (fun ls hl => ?_)
  refine lv_iconst (v := iI 0) hx hb dX2_sum_2 rfl ?_
  refine lv_istore_n (lv' := [(3, .int (iI 0)), (1, .long (lI 0)), (0, .ref (a 0))]) hx hb dX2_sum_3 rfl hl (by decide) rfl (fun ls hl => ?_)
  refine lp_X2_sum_4 a cA w h wa ma ka li hk sh T kd rd dp hx hb hml hown hts hA hZ hK (hw) (hh) (hwa) (hma) (fun H locs ls hP hD hS hl => ?_)  (w * h) 0 (by omega) _ _ _ hP hD hS (lv_sub hl [2, 1, 0] rfl)
  have hP : va_P (dC, dI) vwCl (rpW a cA w h wa ma ka li hk sh T kd rd dp) H := hP
  have hD : va_D A (rpW a cA w h wa ma ka li hk sh T kd rd dp) := hD
  have hl : lv_has ls 4 [(0, .ref (a 0)), (1, .long (lI (smF ma wa (w * h)))), (3, .int (iI ((w * h : Nat) : Int)))] := hl
  refine lv_lload_n hx hb dX2_sum_32 rfl (lv_at hl 1 rfl) ?_
  subst hAe
  exact z_lret hx hb hr hlocks hP hK hD hS (trivial) dX2_sum_33
theorem g_X2_131 : GoodIn wsAll (wsV RX2 131 RX1 yX1_holds wsX1_holds) := z_good (show ∀ w ∈ (Cond.methodLink RX2 131 yX1_holds :: Cond.instanceMethod yX1_holds :: Cond.selects RX1 yX1_holds yX1_holds :: Cond.initialized RX1 :: Cond.code yX1_holds prog_3_method_4_code 2 (some .boolean) :: wsAll), w ∈ wsAll from List.forall_mem_cons.mpr ⟨wm_362, List.forall_mem_cons.mpr ⟨wm_363, List.forall_mem_cons.mpr ⟨wm_364, List.forall_mem_cons.mpr ⟨wm_112, List.forall_mem_cons.mpr ⟨wm_365, fun _ h => h⟩⟩⟩⟩⟩)
theorem g_X2_140 : GoodIn wsAll (wsV RX2 140 RX1 yX1_xOf wsX1_xOf) := z_good (show ∀ w ∈ (Cond.methodLink RX2 140 yX1_xOf :: Cond.instanceMethod yX1_xOf :: Cond.selects RX1 yX1_xOf yX1_xOf :: Cond.initialized RX1 :: Cond.code yX1_xOf prog_3_method_5_code 2 (some .int) :: wsAll), w ∈ wsAll from List.forall_mem_cons.mpr ⟨wm_366, List.forall_mem_cons.mpr ⟨wm_367, List.forall_mem_cons.mpr ⟨wm_368, List.forall_mem_cons.mpr ⟨wm_112, List.forall_mem_cons.mpr ⟨wm_369, fun _ h => h⟩⟩⟩⟩⟩)
theorem g_X2_143 : GoodIn wsAll (wsV RX2 143 RX1 yX1_yOf wsX1_yOf) := z_good (show ∀ w ∈ (Cond.methodLink RX2 143 yX1_yOf :: Cond.instanceMethod yX1_yOf :: Cond.selects RX1 yX1_yOf yX1_yOf :: Cond.initialized RX1 :: Cond.code yX1_yOf prog_3_method_6_code 2 (some .int) :: wsAll), w ∈ wsAll from List.forall_mem_cons.mpr ⟨wm_370, List.forall_mem_cons.mpr ⟨wm_371, List.forall_mem_cons.mpr ⟨wm_372, List.forall_mem_cons.mpr ⟨wm_112, List.forall_mem_cons.mpr ⟨wm_373, fun _ h => h⟩⟩⟩⟩⟩)
theorem g_X2_146 : GoodIn wsAll (wsV RX2 146 RX1 yX1_zOf wsX1_zOf) := z_good (show ∀ w ∈ (Cond.methodLink RX2 146 yX1_zOf :: Cond.instanceMethod yX1_zOf :: Cond.selects RX1 yX1_zOf yX1_zOf :: Cond.initialized RX1 :: Cond.code yX1_zOf prog_3_method_7_code 2 (some .int) :: wsAll), w ∈ wsAll from List.forall_mem_cons.mpr ⟨wm_374, List.forall_mem_cons.mpr ⟨wm_375, List.forall_mem_cons.mpr ⟨wm_376, List.forall_mem_cons.mpr ⟨wm_112, List.forall_mem_cons.mpr ⟨wm_377, fun _ h => h⟩⟩⟩⟩⟩)
abbrev r_X2_move : Room := { frames := 7, cells := 2, slots := 12, locals := 113 }
set_option maxHeartbeats 4000000 in
set_option maxRecDepth 100000 in
theorem c_X2_move (l : Launch) (hl9 : l.stackTraces = false) (dC : Nat → ClassId) (dI : Nat → Nat → Nat) (sz : Nat) (a : Nat → Nat) (cA : Nat → ClassId) (w h : Nat) (wa ma ka li : Nat → Int) (hk sh : Int) (T : TK) (kd rd : Nat → Int) (dp : Nat → Nat → Int) (k u : Int) (hw : 1 ≤ w ∧ w ≤ 20) (hh : 1 ≤ h ∧ h ≤ 20) (hT0 : tkOK T 1000000) (h1 : rg k) (h2 : rg u) : vx_Met l yX2_move wsX2_move r_X2_move (zP (dC, dI) vwCl (rpT cA) (rpW a cA w h wa ma ka li hk sh T kd rd dp) sz [.ref (a 0), .int (iI k), .int (iI u)]) (zQi (dC, dI) vwCl (rpT cA) (rpW a cA w h wa ma ka li hk sh T kd rd dp) sz ((0 ≤ k ∧ k < T.2.1 ∧ k < 2000) ∧ (0 ≤ u ∧ u ≤ 2)) (mvF T k u) (rpW a cA w h wa ma ka li hk sh T kd rd dp)) (zX (dC, dI) vwCl (rpT cA) (rpW a cA w h wa ma ka li hk sh T kd rd dp) sz (fun E => (E = "java/lang/IndexOutOfBoundsException" ∧ ¬ (0 ≤ k ∧ k < T.2.1 ∧ k < 2000)) ∨ (E = "java/lang/IllegalArgumentException" ∧ (0 ≤ k ∧ k < T.2.1 ∧ k < 2000) ∧ ¬ (0 ≤ u ∧ u ≤ 2)))) 2 12 (va_A (rpW a cA w h wa ma ka li hk sh T kd rd dp) sz) := by
  refine vx_ofW (cc := cX2_move) (maxL := 3) (ret := (some .int)) (by decide) rfl ?_
  intro p e s m args below meth c s₁ B hml ht9 hv
  obtain ⟨rfl, hsz, hP, hK, hD0, hZ⟩ := hv
  have hx := B.exec
  have hb := B.bytes
  have hr := B.returns
  have hts0 := atoms_spec (ws := wsX2_move) B.pre
  have hts : ∀ w ∈ wsAll, w.before _ s = true := fun w h => hts0 w (List.mem_cons_of_mem _ h)
  have hown : s.vm.findClass RX2 = some m.cls := findClass_of_methodNamed B.named
  have hlocks := B.notSynchronized
  subst hsz
  have hD := hD0.self (sz := s.heap.size)
  obtain ⟨A, hAe⟩ : ∃ A, A = va_A (rpW a cA w h wa ma ka li hk sh T kd rd dp) s.heap.size := ⟨_, rfl⟩
  rw [← hAe] at hD hZ
  have hA : ∀ q : Nat, s.heap.size ≤ q → A q := fun q h => by rw [hAe]; exact Or.inr h
  have hS : va_S A s.heap s.heap [] := va_S.rf
  have hP : va_P (dC, dI) vwCl (rpW a cA w h wa ma ka li hk sh T kd rd dp) s.heap := hP
  have hl := lv_entry ([.ref (a 0), .int (iI k), .int (iI u)]) (n := 3) (Nat.le_of_ble_eq_true rfl)
  rw [lg_entry_eq]
  generalize (lg_sl ([.ref (a 0), .int (iI k), .int (iI u)]) ++ List.replicate (3 - (lg_sl ([.ref (a 0), .int (iI k), .int (iI u)])).length) Slot.unset).toArray = ls at hl ⊢
  have hl : lv_has ls 3 [(0, .ref (a 0)), (1, .int (iI k)), (2, .int (iI u))] := hl
  refine lv_aload_n hx hb dX2_move_0 rfl (lv_at hl 0 rfl) ?_
  refine va_get (D := (dC, dI)) (ci := 2) (v := .ref (a 6)) (C := RX2) (T := TX2) (N := 10) hx hb hts inX2 hown hK hP 0 rfl rfl 7 (by decide) (hts _ wm_178) (fun _ h9 => h9) rfl dX2_move_1 ?_
  refine lv_iload_n hx hb dX2_move_4 rfl (lv_at hl 1 rfl) ?_
  have hPc := hP.sub (ws' := tkW (a 6) (a 7) (cA 5) T) [6, 7] rfl
  have hDc := hD.sub (ws' := tkW (a 6) (a 7) (cA 5) T) [6, 7] (by decide) rfl
  have hKc := hK.sub (tys' := [((cA 5), .int)]) [5] rfl
  have hFc := va_free (wc := tkW (a 6) (a 7) (cA 5) T) hD hS hA [6, 7] rfl
  refine z_rcalli (va_runV (As := [.int (iI k)]) (rest := []) ⟨hx, hb, hml, hown, hts⟩ (c_X1_holds l dC dI (s.heap).size (a 6) (a 7) (cA 5) T k (by have := hT0.1; omega) h1) (cwV 1 hts g_X2_131 rfl rfl rfl (by decide +kernel) ⟨Nat.le_of_ble_eq_true rfl, Nat.le_of_ble_eq_true rfl⟩) (zP_V (ci := 1) (q0 := 0) rfl rfl hPc hKc hDc hS hFc hZ) rfl rfl hl.1 rfl (lv_room (Nat.le_of_ble_eq_true rfl)) dX2_move_5 ⟨Nat.le_of_ble_eq_true rfl, Nat.le_of_ble_eq_true rfl⟩) hP hD hS hFc ((z_subOf [6, 7] rfl)) (fun H locs _ hP hD hS _ => ?_)
  refine z_if_ne (tgt := 21) hx hb dX2_move_8 (by decide) (by split <;> decide) (fun c8 => ?_) (fun c8 => ?_)
  · have hkk : 0 ≤ k ∧ k < T.2.1 ∧ k < 2000 := by split at c8 <;> first | assumption | (exfalso; omega)
    refine lv_iload_n hx hb dX2_move_21 rfl (lv_at hl 2 rfl) ?_
    refine lv_iconst (v := iI 0) hx hb dX2_move_22 rfl ?_
    refine lv_iconst (v := iI 2) hx hb dX2_move_23 rfl ?_
    refine z_xrcallv (vx_runS (As := [.int (iI u), .int (iI 0), .int (iI 2)]) (rest := []) ⟨hx, hb, hml, hown, hts⟩ (c_X2_needWithin l hl9 dC dI (H).size u 0 2 (by omega) (by omega) (by omega)) (va_cwS 3 hts g_X2_64 rfl rfl rfl (by decide +kernel) ⟨Nat.le_of_ble_eq_true rfl, Nat.le_of_ble_eq_true rfl⟩) (zP_S z_P0 (hK.sub [] rfl) z_D0 hS (z_free0 hS hA) hZ) rfl rfl hl.1 rfl (lv_room (Nat.le_of_ble_eq_true rfl)) dX2_move_24 ⟨Nat.le_of_ble_eq_true rfl, Nat.le_of_ble_eq_true rfl⟩) hP hD hS (z_free0 hS hA) (fun _ h => by cases h) (fun E ce q9 H locs hE hP hS _ h7 h8 h9 => by subst hAe; exact z_xout ht9 hlocks h7 h8 h9 (Or.inr ⟨hE.1, hkk, hE.2⟩) hP hK hD hS (Nat.le_of_ble_eq_true rfl) (Nat.le_of_ble_eq_true rfl)) (fun H locs hok24 hP hD hS _ => ?_)
    refine lv_iload_n hx hb dX2_move_27 rfl (lv_at hl 2 rfl) ?_
    refine z_look2 (t1 := 56) (t2 := 65) (t3 := 74) hx hb dX2_move_28 (by decide) (by omega) (by decide) (by decide) (by decide) (fun e28 => ?_) (fun e28 => ?_) (fun e28 f28 => ?_)
    · refine lv_aload_n hx hb dX2_move_56 rfl (lv_at hl 0 rfl) ?_
      refine va_get (D := (dC, dI)) (ci := 2) (v := .ref (a 6)) (C := RX2) (T := TX2) (N := 10) hx hb hts inX2 hown hK hP 0 rfl rfl 7 (by decide) (hts _ wm_178) (fun _ h9 => h9) rfl dX2_move_57 ?_
      refine lv_iload_n hx hb dX2_move_60 rfl (lv_at hl 1 rfl) ?_
      have hPc := hP.sub (ws' := tkW (a 6) (a 7) (cA 5) T) [6, 7] rfl
      have hDc := hD.sub (ws' := tkW (a 6) (a 7) (cA 5) T) [6, 7] (by decide) rfl
      have hKc := hK.sub (tys' := [((cA 5), .int)]) [5] rfl
      have hFc := va_free (wc := tkW (a 6) (a 7) (cA 5) T) hD hS hA [6, 7] rfl
      refine z_rcalli (va_runV (As := [.int (iI k)]) (rest := []) ⟨hx, hb, hml, hown, hts⟩ (c_X1_xOf l dC dI (H).size (a 6) (a 7) (cA 5) T k ⟨hkk.1, by omega⟩ (by have := hT0.2.2.2.2 k.toNat; omega)) (cwV 1 hts g_X2_140 rfl rfl rfl (by decide +kernel) ⟨Nat.le_of_ble_eq_true rfl, Nat.le_of_ble_eq_true rfl⟩) (zP_V (ci := 1) (q0 := 0) rfl rfl hPc hKc hDc hS hFc hZ) rfl rfl hl.1 rfl (lv_room (Nat.le_of_ble_eq_true rfl)) dX2_move_61 ⟨Nat.le_of_ble_eq_true rfl, Nat.le_of_ble_eq_true rfl⟩) hP hD hS hFc ((z_subOf [6, 7] rfl)) (fun H locs _ hP hD hS _ => ?_)
      refine W.widen (k := 2) (n := 12) (by omega) (by omega) ?_
      refine vx_ret ?_
      subst hAe
      refine z_top (b := mvF T k u) (by unfold mvF; (repeat' split) <;> first | rfl | (exfalso; omega)) ?_
      exact z_iret hx hb hr hlocks hP hK hD hS (⟨hkk, hok24⟩) dX2_move_64
    · refine lv_aload_n hx hb dX2_move_65 rfl (lv_at hl 0 rfl) ?_
      refine va_get (D := (dC, dI)) (ci := 2) (v := .ref (a 6)) (C := RX2) (T := TX2) (N := 10) hx hb hts inX2 hown hK hP 0 rfl rfl 7 (by decide) (hts _ wm_178) (fun _ h9 => h9) rfl dX2_move_66 ?_
      refine lv_iload_n hx hb dX2_move_69 rfl (lv_at hl 1 rfl) ?_
      have hPc := hP.sub (ws' := tkW (a 6) (a 7) (cA 5) T) [6, 7] rfl
      have hDc := hD.sub (ws' := tkW (a 6) (a 7) (cA 5) T) [6, 7] (by decide) rfl
      have hKc := hK.sub (tys' := [((cA 5), .int)]) [5] rfl
      have hFc := va_free (wc := tkW (a 6) (a 7) (cA 5) T) hD hS hA [6, 7] rfl
      refine z_rcalli (va_runV (As := [.int (iI k)]) (rest := []) ⟨hx, hb, hml, hown, hts⟩ (c_X1_yOf l dC dI (H).size (a 6) (a 7) (cA 5) T k ⟨hkk.1, by omega⟩ (by have := hT0.2.2.2.2 k.toNat; omega)) (cwV 1 hts g_X2_143 rfl rfl rfl (by decide +kernel) ⟨Nat.le_of_ble_eq_true rfl, Nat.le_of_ble_eq_true rfl⟩) (zP_V (ci := 1) (q0 := 0) rfl rfl hPc hKc hDc hS hFc hZ) rfl rfl hl.1 rfl (lv_room (Nat.le_of_ble_eq_true rfl)) dX2_move_70 ⟨Nat.le_of_ble_eq_true rfl, Nat.le_of_ble_eq_true rfl⟩) hP hD hS hFc ((z_subOf [6, 7] rfl)) (fun H locs _ hP hD hS _ => ?_)
      refine W.widen (k := 2) (n := 12) (by omega) (by omega) ?_
      refine vx_ret ?_
      subst hAe
      refine z_top (b := mvF T k u) (by unfold mvF; (repeat' split) <;> first | rfl | (exfalso; omega)) ?_
      exact z_iret hx hb hr hlocks hP hK hD hS (⟨hkk, hok24⟩) dX2_move_73
    · refine lv_aload_n hx hb dX2_move_74 rfl (lv_at hl 0 rfl) ?_
      refine va_get (D := (dC, dI)) (ci := 2) (v := .ref (a 6)) (C := RX2) (T := TX2) (N := 10) hx hb hts inX2 hown hK hP 0 rfl rfl 7 (by decide) (hts _ wm_178) (fun _ h9 => h9) rfl dX2_move_75 ?_
      refine lv_iload_n hx hb dX2_move_78 rfl (lv_at hl 1 rfl) ?_
      have hPc := hP.sub (ws' := tkW (a 6) (a 7) (cA 5) T) [6, 7] rfl
      have hDc := hD.sub (ws' := tkW (a 6) (a 7) (cA 5) T) [6, 7] (by decide) rfl
      have hKc := hK.sub (tys' := [((cA 5), .int)]) [5] rfl
      have hFc := va_free (wc := tkW (a 6) (a 7) (cA 5) T) hD hS hA [6, 7] rfl
      refine z_rcalli (va_runV (As := [.int (iI k)]) (rest := []) ⟨hx, hb, hml, hown, hts⟩ (c_X1_zOf l dC dI (H).size (a 6) (a 7) (cA 5) T k ⟨hkk.1, by omega⟩ (by have := hT0.2.2.2.2 k.toNat; omega)) (cwV 1 hts g_X2_146 rfl rfl rfl (by decide +kernel) ⟨Nat.le_of_ble_eq_true rfl, Nat.le_of_ble_eq_true rfl⟩) (zP_V (ci := 1) (q0 := 0) rfl rfl hPc hKc hDc hS hFc hZ) rfl rfl hl.1 rfl (lv_room (Nat.le_of_ble_eq_true rfl)) dX2_move_79 ⟨Nat.le_of_ble_eq_true rfl, Nat.le_of_ble_eq_true rfl⟩) hP hD hS hFc ((z_subOf [6, 7] rfl)) (fun H locs _ hP hD hS _ => ?_)
      refine W.widen (k := 2) (n := 12) (by omega) (by omega) ?_
      refine vx_ret ?_
      subst hAe
      refine z_top (b := mvF T k u) (by unfold mvF; (repeat' split) <;> first | rfl | (exfalso; omega)) ?_
      exact z_iret hx hb hr hlocks hP hK hD hS (⟨hkk, hok24⟩) dX2_move_82
  · have hkk : ¬ (0 ≤ k ∧ k < T.2.1 ∧ k < 2000) := by split at c8 <;> first | assumption | (exfalso; omega)
    obtain ⟨sa9, hsa9⟩ := hZ.2.1 (RX2, 137, "no such move, or it was not kept") (by decide +kernel)
    subst hAe
    exact vx_throwS (own := RX2) (cls := "java/lang/IndexOutOfBoundsException") (names := ["java/lang/RuntimeException", "java/lang/Exception"]) hx hb hl9 hown (by decide +kernel) (by decide +kernel) (hts _ wm_16) (hts _ wm_3) hsa9 (vx_hat (L := vx_atS RX2 139 "java/lang/IndexOutOfBoundsException" ["java/lang/RuntimeException", "java/lang/Exception"]) (B := [.castable "java/lang/IndexOutOfBoundsException" "java/lang/IndexOutOfBoundsException", .declares ⟨"java/lang/RuntimeException", "<init>", "(Ljava/lang/String;)V"⟩, .declares ⟨"java/lang/Exception", "<init>", "(Ljava/lang/String;)V"⟩, .declares ⟨"java/lang/Throwable", "<init>", "(Ljava/lang/String;)V"⟩]) (fun w hw => hts w (wsE_in w ((by decide +kernel : ∀ w ∈ (vx_atS RX2 139 "java/lang/IndexOutOfBoundsException" ["java/lang/RuntimeException", "java/lang/Exception"]).filter goodWord, w ∈ wsE) w hw))) (by decide +kernel) (vx_c (va_Nw.use rfl (hZ.1 (.castable "java/lang/IndexOutOfBoundsException" "java/lang/IndexOutOfBoundsException") (by decide +kernel))) (vx_c (va_Nw.use rfl (hZ.1 (.declares ⟨"java/lang/RuntimeException", "<init>", "(Ljava/lang/String;)V"⟩) (by decide +kernel))) (vx_c (va_Nw.use rfl (hZ.1 (.declares ⟨"java/lang/Exception", "<init>", "(Ljava/lang/String;)V"⟩) (by decide +kernel))) (vx_c (va_Nw.use rfl (hZ.1 (.declares ⟨"java/lang/Throwable", "<init>", "(Ljava/lang/String;)V"⟩) (by decide +kernel))) (vx_n)))))) (by decide +kernel) hZ.2.2.2.1 hZ.2.2.2.2 hS (hl.1.trans hml.symm) dX2_move_11 dX2_move_14 dX2_move_15 dX2_move_17 dX2_move_20 (fun x h => (ht9 x h).elim) (Nat.le_of_ble_eq_true rfl) (Nat.le_of_ble_eq_true rfl) (Nat.le_of_ble_eq_true rfl) (Nat.le_of_ble_eq_true rfl) hlocks (z_xnew (Or.inl ⟨rfl, hkk⟩) hP hK hD hS) hS.2.2 (Nat.le_of_ble_eq_true rfl) (Nat.le_of_ble_eq_true rfl)
