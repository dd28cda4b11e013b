abbrev r_J7_fill : Room := { frames := 0, cells := 0, slots := 0, locals := 0 }
set_option maxHeartbeats 4000000 in
set_option maxRecDepth 100000 in
theorem lp_J7_fill_5 {p : Program} {l : Launch} {e : Env} {s : State} {m : MethodId} {args : Array Value} {below : List Frame} {meth : Method} {c : Code} {Q : State → Prop} {A : Nat → Prop} {dC : Nat → ClassId} {dI : Nat → Nat → Nat} (o : Nat) (co : ClassId) (k : Nat) (f : Nat → Int) (v : Int) (hx : p.tables.exec = Jvm.exec) (hb : c.code = cJ7_fill) (hml : c.maxLocals = 4) (hown : s.vm.findClass RJ7 = some m.cls) (hts : ∀ w ∈ wsAll, w.before args s = true) (hA : ∀ q : Nat, s.heap.size ≤ q → A q) (hZ : zZ A s s.heap) (hK : va_K (dC, dI) vwCl ([(co, .int)]) s) (hkk : k < 2147483648) (kk : ∀ (H : Heap) (locs : List Loc) (ls : Array Slot), va_P (dC, dI) vwCl ([(o, aI co k (flF v k f))]) H → va_D A ([(o, aI co k (flF v k f))]) → va_S A s.heap H locs → lv_has ls 4 [(0, .ref o), (1, .int (iI v)), (2, .int (iI ((k : Nat) : Int))), (3, .int (iI ((k : Nat) : Int)))] → W p l e r_J7_fill s m args below meth c H locs 0 0 Q (F0 m 20 ls [])) : ∀ (n i : Nat), i + n = k → ∀ (H : Heap) (locs : List Loc) (ls : Array Slot), va_P (dC, dI) vwCl ([(o, aI co k (flF v i f))]) H → va_D A ([(o, aI co k (flF v i f))]) → va_S A s.heap H locs → lv_has ls 4 [(0, .ref o), (1, .int (iI v)), (2, .int (iI ((i : Nat) : Int))), (3, .int (iI ((k : Nat) : Int)))] → W p l e r_J7_fill s m args below meth c H locs 0 0 Q (F0 m 5 ls []) := by
  intro n
  induction n with
  | zero =>
    intro i hi H locs ls hP hD hS hl
    have hi9 : k = i := by omega
    subst hi9
    refine lv_iload_n hx hb dJ7_fill_5 rfl (lv_at hl 2 rfl) ?_
    refine lv_iload_n hx hb dJ7_fill_6 rfl (lv_at hl 3 rfl) ?_
    refine z_icmp_ge (tgt := 20) hx hb dJ7_fill_7 (by decide) (by omega) (by omega) (fun c7 => ?_) (fun c7 => by exfalso; omega)
    exact kk _ _ _ hP hD hS (lv_sub hl [0, 1, 2, 3] rfl)
  | succ n ih =>
    intro i hi H locs ls hP hD hS hl
    refine lv_iload_n hx hb dJ7_fill_5 rfl (lv_at hl 2 rfl) ?_
    refine lv_iload_n hx hb dJ7_fill_6 rfl (lv_at hl 3 rfl) ?_
    refine z_icmp_ge (tgt := 20) hx hb dJ7_fill_7 (by decide) (by omega) (by omega) (fun c7 => by exfalso; omega) (fun c7 => ?_)
    refine lv_aload_n hx hb dJ7_fill_10 rfl (lv_at hl 0 rfl) ?_
    refine lv_iload_n hx hb dJ7_fill_11 rfl (lv_at hl 2 rfl) ?_
    refine lv_iload_n hx hb dJ7_fill_12 rfl (lv_at hl 1 rfl) ?_
    refine z_iast (f := flF v i f) (i := ((i : Nat) : Int)) (x := v) hx hb hK hP hD hS 0 0 rfl rfl (by omega) (hkk) dJ7_fill_13 (fun H locs hP hD hS => ?_)
    have hP : va_P (dC, dI) vwCl ([(o, aI co k (uI (flF v i f) (((i : Nat) : Int)).toNat v))]) H := hP
    have hD : va_D A ([(o, aI co k (uI (flF v i f) (((i : Nat) : Int)).toNat v))]) := hD
    refine lv_iinc (v := iI (((i + 1) : Nat) : Int)) (lv' := [(2, .int (iI (((i + 1) : Nat) : Int))), (0, .ref o), (1, .int (iI v)), (3, .int (iI ((k : Nat) : Int)))]) hx hb dJ7_fill_14 hl (k := 2) rfl ((iI_add _ _).trans (congrArg iI (by omega))) (by decide) rfl (fun ls hl => ?_)
    refine lv_goto (tgt := 5) hx hb dJ7_fill_17 (by decide) ?_
    exact ih (i + 1) (by omega) _ _ _ hP hD hS (lv_sub hl [1, 2, 0, 3] rfl)
set_option maxHeartbeats 4000000 in
set_option maxRecDepth 100000 in
theorem c_J7_fill (l : Launch) (dC : Nat → ClassId) (dI : Nat → Nat → Nat) (sz : Nat) (o : Nat) (co : ClassId) (k : Nat) (f : Nat → Int) (v : Int) (hkk : k < 2147483648) : Met l yJ7_fill wsJ7_fill r_J7_fill (zP (dC, dI) vwCl ([(co, .int)]) ([(o, aI co k f)]) sz [.ref o, .int (iI v)]) (zQv (dC, dI) vwCl ([(co, .int)]) ([(o, aI co k f)]) sz (True) ([(o, aI co k (flF v k f))])) 0 0 (va_A ([(o, aI co k f)]) sz) := by
  refine Met.ofW (cc := cJ7_fill) (maxL := 4) (ret := none) (by decide) rfl ?_
  intro p e s m args below meth c s₁ B hml hv
  obtain ⟨rfl, hsz, hP, hK, hD0, hZ⟩ := hv
  have hx := B.exec
  have hb := B.bytes
  have hr := B.returns
  have hts0 := atoms_spec (ws := wsJ7_fill) B.pre
  have hts : ∀ w ∈ wsAll, w.before _ s = true := fun w h => hts0 w (List.mem_cons_of_mem _ h)
  have hown : s.vm.findClass RJ7 = some m.cls := findClass_of_methodNamed B.named
  have hlocks := B.notSynchronized
  subst hsz
  have hD := hD0.self (sz := s.heap.size)
  obtain ⟨A, hAe⟩ : ∃ A, A = va_A ([(o, aI co k f)]) s.heap.size := ⟨_, rfl⟩
  rw [← hAe] at hD hZ
  have hA : ∀ q : Nat, s.heap.size ≤ q → A q := fun q h => by rw [hAe]; exact Or.inr h
  have hS : va_S A s.heap s.heap [] := va_S.rf
  have hP : va_P (dC, dI) vwCl ([(o, aI co k f)]) s.heap := hP
  have hl := lv_entry ([.ref o, .int (iI v)]) (n := 4) (Nat.le_of_ble_eq_true rfl)
  rw [lg_entry_eq]
  generalize (lg_sl ([.ref o, .int (iI v)]) ++ List.replicate (4 - (lg_sl ([.ref o, .int (iI v)])).length) Slot.unset).toArray = ls at hl ⊢
  have hl : lv_has ls 4 [(0, .ref o), (1, .int (iI v))] := hl
  refine lv_iconst (v := iI 0) hx hb dJ7_fill_0 rfl ?_
  refine lv_istore_n (lv' := [(2, .int (iI 0)), (0, .ref o), (1, .int (iI v))]) hx hb dJ7_fill_1 rfl hl (by decide) rfl (fun ls hl => ?_)
  refine lv_aload_n hx hb dJ7_fill_2 rfl (lv_at hl 1 rfl) ?_
  refine z_alen hx hb hK hP 0 0 rfl rfl dJ7_fill_3 ?_
  refine z_top (b := ((k : Nat) : Int)) rfl ?_
  refine lv_istore_n (lv' := [(3, .int (iI ((k : Nat) : Int))), (2, .int (iI 0)), (0, .ref o), (1, .int (iI v))]) hx hb dJ7_fill_4 rfl hl (by decide) rfl (fun ls hl => ?_)
  refine lp_J7_fill_5 o co k f v hx hb hml hown hts hA hZ hK (hkk) (fun H locs ls hP hD hS hl => ?_)  k 0 (by omega) _ _ _ hP hD hS (lv_sub hl [2, 3, 1, 0] rfl)
  have hP : va_P (dC, dI) vwCl ([(o, aI co k (flF v k f))]) H := hP
  have hD : va_D A ([(o, aI co k (flF v k f))]) := hD
  have hl : lv_has ls 4 [(0, .ref o), (1, .int (iI v)), (2, .int (iI ((k : Nat) : Int))), (3, .int (iI ((k : Nat) : Int)))] := hl
  subst hAe
  exact z_vret hx hb hr hlocks hP hK hD hS (trivial) dJ7_fill_20
theorem g_X2_60 : GoodIn wsAll (wsV RX2 60 RX2 yX2_needPlace wsX2_needPlace) := z_good (show ∀ w ∈ (Cond.methodLink RX2 60 yX2_needPlace :: Cond.instanceMethod yX2_needPlace :: Cond.selects RX2 yX2_needPlace yX2_needPlace :: Cond.initialized RX2 :: Cond.code yX2_needPlace prog_1_method_18_code 3 none :: wsAll), w ∈ wsAll from List.forall_mem_cons.mpr ⟨wm_230, List.forall_mem_cons.mpr ⟨wm_231, List.forall_mem_cons.mpr ⟨wm_560, List.forall_mem_cons.mpr ⟨wm_109, List.forall_mem_cons.mpr ⟨wm_232, fun _ h => h⟩⟩⟩⟩⟩)
theorem g_X2_64 : GoodIn wsAll (va_wsS RX2 64 yX2_needWithin wsX2_needWithin) := z_good (show ∀ w ∈ (Cond.methodLink RX2 64 yX2_needWithin :: Cond.static yX2_needWithin :: Cond.initialized RX2 :: Cond.code yX2_needWithin prog_1_method_20_code 3 none :: wsAll), w ∈ wsAll from List.forall_mem_cons.mpr ⟨wm_237, List.forall_mem_cons.mpr ⟨wm_238, List.forall_mem_cons.mpr ⟨wm_109, List.forall_mem_cons.mpr ⟨wm_239, fun _ h => h⟩⟩⟩⟩)
theorem g_X2_72 : GoodIn wsAll (wsV RX2 72 RX2 yX2_setWanted wsX2_setWanted) := z_good (show ∀ w ∈ (Cond.methodLink RX2 72 yX2_setWanted :: Cond.instanceMethod yX2_setWanted :: Cond.selects RX2 yX2_setWanted yX2_setWanted :: Cond.initialized RX2 :: Cond.code yX2_setWanted prog_1_method_25_code 4 (some .boolean) :: wsAll), w ∈ wsAll from List.forall_mem_cons.mpr ⟨wm_243, List.forall_mem_cons.mpr ⟨wm_244, List.forall_mem_cons.mpr ⟨wm_562, List.forall_mem_cons.mpr ⟨wm_109, List.forall_mem_cons.mpr ⟨wm_245, fun _ h => h⟩⟩⟩⟩⟩)
abbrev r_X2_put : Room := { frames := 7, cells := 2, slots := 12, locals := 113 }
set_option maxHeartbeats 4000000 in
set_option maxRecDepth 100000 in
theorem c_X2_put (l : Launch) (hl9 : l.stackTraces = false) (dC : Nat → ClassId) (dI : Nat → Nat → Nat) (sz : Nat) (a : Nat → Nat) (cA : Nat → ClassId) (w h : Nat) (wa ma ka li : Nat → Int) (hk sh : Int) (T : TK) (kd rd : Nat → Int) (dp : Nat → Nat → Int) (x y v : Int) (hw : 1 ≤ w ∧ w ≤ 20) (hh : 1 ≤ h ∧ h ≤ 20) (h1 : rg x) (h2 : rg y) (h3 : rg v) (hwa : bd wa 0 1000) : vx_Met l yX2_put wsX2_put r_X2_put (zP (dC, dI) vwCl (rpT cA) (rpW a cA w h wa ma ka li hk sh T kd rd dp) sz [.ref (a 0), .int (iI x), .int (iI y), .int (iI v)]) (zQi (dC, dI) vwCl (rpT cA) (rpW a cA w h wa ma ka li hk sh T kd rd dp) sz ((0 ≤ x ∧ x < (w : Int) ∧ 0 ≤ y ∧ y < (h : Int)) ∧ (0 ≤ v ∧ v ≤ 1000)) (if wa (y * (w : Int) + x).toNat = v then 0 else 1) (rpW a cA w h (uI wa (y * (w : Int) + x).toNat v) ma ka li hk sh T kd rd dp)) (zX (dC, dI) vwCl (rpT cA) (rpW a cA w h wa ma ka li hk sh T kd rd dp) sz (fun E => (E = "java/lang/IndexOutOfBoundsException" ∧ ¬ (0 ≤ x ∧ x < (w : Int) ∧ 0 ≤ y ∧ y < (h : Int))) ∨ (E = "java/lang/IllegalArgumentException" ∧ (0 ≤ x ∧ x < (w : Int) ∧ 0 ≤ y ∧ y < (h : Int)) ∧ ¬ (0 ≤ v ∧ v ≤ 1000)))) 2 12 (va_A (rpW a cA w h wa ma ka li hk sh T kd rd dp) sz) := by
  refine vx_ofW (cc := cX2_put) (maxL := 4) (ret := (some .boolean)) (by decide) rfl ?_
  intro p e s m args below meth c s₁ B hml ht9 hv
  obtain ⟨rfl, hsz, hP, hK, hD0, hZ⟩ := hv
  have hx := B.exec
  have hb := B.bytes
  have hr := B.returns
  have hts0 := atoms_spec (ws := wsX2_put) B.pre
  have hts : ∀ w ∈ wsAll, w.before _ s = true := fun w h => hts0 w (List.mem_cons_of_mem _ h)
  have hown : s.vm.findClass RX2 = some m.cls := findClass_of_methodNamed B.named
  have hlocks := B.notSynchronized
  subst hsz
  have hD := hD0.self (sz := s.heap.size)
  obtain ⟨A, hAe⟩ : ∃ A, A = va_A (rpW a cA w h wa ma ka li hk sh T kd rd dp) s.heap.size := ⟨_, rfl⟩
  rw [← hAe] at hD hZ
  have hA : ∀ q : Nat, s.heap.size ≤ q → A q := fun q h => by rw [hAe]; exact Or.inr h
  have hS : va_S A s.heap s.heap [] := va_S.rf
  have hP : va_P (dC, dI) vwCl (rpW a cA w h wa ma ka li hk sh T kd rd dp) s.heap := hP
  have hl := lv_entry ([.ref (a 0), .int (iI x), .int (iI y), .int (iI v)]) (n := 4) (Nat.le_of_ble_eq_true rfl)
  rw [lg_entry_eq]
  generalize (lg_sl ([.ref (a 0), .int (iI x), .int (iI y), .int (iI v)]) ++ List.replicate (4 - (lg_sl ([.ref (a 0), .int (iI x), .int (iI y), .int (iI v)])).length) Slot.unset).toArray = ls at hl ⊢
  have hl : lv_has ls 4 [(0, .ref (a 0)), (1, .int (iI x)), (2, .int (iI y)), (3, .int (iI v))] := hl
  refine lv_aload_n hx hb dX2_put_0 rfl (lv_at hl 0 rfl) ?_
  refine lv_iload_n hx hb dX2_put_1 rfl (lv_at hl 1 rfl) ?_
  refine lv_iload_n hx hb dX2_put_2 rfl (lv_at hl 2 rfl) ?_
  have hFc := z_freeR (wc := rpW a cA w h wa ma ka li hk sh T kd rd dp) (fun _ h => h) hD hS hA
  refine z_xrcallv (vx_runV (As := [.int (iI x), .int (iI y)]) (rest := []) ⟨hx, hb, hml, hown, hts⟩ (c_X2_needPlace l hl9 dC dI (s.heap).size a cA w h wa ma ka li hk sh T kd rd dp x y hw hh (by omega) (by omega)) (cwV 2 hts g_X2_60 rfl rfl rfl (by decide +kernel) ⟨Nat.le_of_ble_eq_true rfl, Nat.le_of_ble_eq_true rfl⟩) (zP_V (ci := 2) (q0 := 0) rfl rfl hP hK hD hS hFc hZ) rfl rfl hl.1 rfl (lv_room (Nat.le_of_ble_eq_true rfl)) dX2_put_3 ⟨Nat.le_of_ble_eq_true rfl, Nat.le_of_ble_eq_true rfl⟩) hP hD hS hFc (fun _ h => h) (fun E ce q9 H locs hE hP hS _ h7 h8 h9 => by subst hAe; exact z_xout ht9 hlocks h7 h8 h9 (Or.inl hE) hP hK hD hS (Nat.le_of_ble_eq_true rfl) (Nat.le_of_ble_eq_true rfl)) (fun H locs hok3 hP hD hS _ => ?_)
  refine lv_iload_n hx hb dX2_put_6 rfl (lv_at hl 3 rfl) ?_
  refine lv_iconst (v := iI 0) hx hb dX2_put_7 rfl ?_
  refine lv_sipush (v := iI 1000) hx hb dX2_put_8 (by decide) ?_
  refine z_xrcallv (vx_runS (As := [.int (iI v), .int (iI 0), .int (iI 1000)]) (rest := []) ⟨hx, hb, hml, hown, hts⟩ (c_X2_needWithin l hl9 dC dI (H).size v 0 1000 (by omega) (by omega) (by omega)) (va_cwS 3 hts g_X2_64 rfl rfl rfl (by decide +kernel) ⟨Nat.le_of_ble_eq_true rfl, Nat.le_of_ble_eq_true rfl⟩) (zP_S z_P0 (hK.sub [] rfl) z_D0 hS (z_free0 hS hA) hZ) rfl rfl hl.1 rfl (lv_room (Nat.le_of_ble_eq_true rfl)) dX2_put_11 ⟨Nat.le_of_ble_eq_true rfl, Nat.le_of_ble_eq_true rfl⟩) hP hD hS (z_free0 hS hA) (fun _ h => by cases h) (fun E ce q9 H locs hE hP hS _ h7 h8 h9 => by subst hAe; exact z_xout ht9 hlocks h7 h8 h9 (Or.inr ⟨hE.1, hok3, hE.2⟩) hP hK hD hS (Nat.le_of_ble_eq_true rfl) (Nat.le_of_ble_eq_true rfl)) (fun H locs hok11 hP hD hS _ => ?_)
  refine lv_aload_n hx hb dX2_put_14 rfl (lv_at hl 0 rfl) ?_
  refine lv_aload_n hx hb dX2_put_15 rfl (lv_at hl 0 rfl) ?_
  refine lv_iload_n hx hb dX2_put_16 rfl (lv_at hl 1 rfl) ?_
  refine lv_iload_n hx hb dX2_put_17 rfl (lv_at hl 2 rfl) ?_
  have hix := z_ix (w := w) (h := h) hok3.1 hok3.2.1 hok3.2.2.1 hok3.2.2.2
  have hFc := z_freeR (wc := rpW a cA w h wa ma ka li hk sh T kd rd dp) (fun _ h => h) hD hS hA
  refine z_wcalli (va_runV (As := [.int (iI x), .int (iI y)]) (rest := [.ref (a 0)]) ⟨hx, hb, hml, hown, hts⟩ (c_X2_placeAt l dC dI (H).size a cA w h wa ma ka li hk sh T kd rd dp x y) (cwV 2 hts g_X2_68 rfl rfl rfl (by decide +kernel) ⟨Nat.le_of_ble_eq_true rfl, Nat.le_of_ble_eq_true rfl⟩) (zP_V (ci := 2) (q0 := 0) rfl rfl hP hK hD hS hFc hZ) rfl rfl hl.1 rfl (lv_room (Nat.le_of_ble_eq_true rfl)) dX2_put_18 ⟨Nat.le_of_ble_eq_true rfl, Nat.le_of_ble_eq_true rfl⟩) hS hFc (fun H locs _ hP hD hS _ => ?_)
  have hP : va_P (dC, dI) vwCl (rpW a cA w h wa ma ka li hk sh T kd rd dp) H := hP
  have hD : va_D A (rpW a cA w h wa ma ka li hk sh T kd rd dp) := hD
  refine lv_iload_n hx hb dX2_put_21 rfl (lv_at hl 3 rfl) ?_
  have hFc := z_freeR (wc := rpW a cA w h wa ma ka li hk sh T kd rd dp) (fun _ h => h) hD hS hA
  refine z_wcalli (va_runV (As := [.int (iI (y * (w : Int) + x)), .int (iI v)]) (rest := []) ⟨hx, hb, hml, hown, hts⟩ (c_X2_setWanted l dC dI (H).size a cA w h wa ma ka li hk sh T kd rd dp (y * (w : Int) + x) v hw hh (hix) (by omega) (by have := hwa (y * (w : Int) + x).toNat; omega)) (cwV 2 hts g_X2_72 rfl rfl rfl (by decide +kernel) ⟨Nat.le_of_ble_eq_true rfl, Nat.le_of_ble_eq_true rfl⟩) (zP_V (ci := 2) (q0 := 0) rfl rfl hP hK hD hS hFc hZ) rfl rfl hl.1 rfl (lv_room (Nat.le_of_ble_eq_true rfl)) dX2_put_22 ⟨Nat.le_of_ble_eq_true rfl, Nat.le_of_ble_eq_true rfl⟩) hS hFc (fun H locs _ hP hD hS _ => ?_)
  have hP : va_P (dC, dI) vwCl (rpW a cA w h (uI wa (y * (w : Int) + x).toNat v) ma ka li hk sh T kd rd dp) H := hP
  have hD : va_D A (rpW a cA w h (uI wa (y * (w : Int) + x).toNat v) ma ka li hk sh T kd rd dp) := hD
  refine vx_ret ?_
  subst hAe
  exact z_zret hx hb hr hlocks (by split <;> omega) hP hK hD hS (⟨hok3, hok11⟩) dX2_put_25
abbrev r_X2_made : Room := { frames := 7, cells := 1, slots := 6, locals := 113 }
set_option maxHeartbeats 4000000 in
set_option maxRecDepth 100000 in
theorem c_X2_made (l : Launch) (hl9 : l.stackTraces = false) (dC : Nat → ClassId) (dI : Nat → Nat → Nat) (sz : Nat) (a : Nat → Nat) (cA : Nat → ClassId) (w h : Nat) (wa ma ka li : Nat → Int) (hk sh : Int) (T : TK) (kd rd : Nat → Int) (dp : Nat → Nat → Int) (x y : Int) (hw : 1 ≤ w ∧ w ≤ 20) (hh : 1 ≤ h ∧ h ≤ 20) (h1 : rg x) (h2 : rg y) : vx_Met l yX2_made wsX2_made r_X2_made (zP (dC, dI) vwCl (rpT cA) (rpW a cA w h wa ma ka li hk sh T kd rd dp) sz [.ref (a 0), .int (iI x), .int (iI y)]) (zQi (dC, dI) vwCl (rpT cA) (rpW a cA w h wa ma ka li hk sh T kd rd dp) sz (0 ≤ x ∧ x < (w : Int) ∧ 0 ≤ y ∧ y < (h : Int)) (ma (y * (w : Int) + x).toNat) (rpW a cA w h wa ma ka li hk sh T kd rd dp)) (zX (dC, dI) vwCl (rpT cA) (rpW a cA w h wa ma ka li hk sh T kd rd dp) sz (fun E => E = "java/lang/IndexOutOfBoundsException" ∧ ¬ (0 ≤ x ∧ x < (w : Int) ∧ 0 ≤ y ∧ y < (h : Int)))) 1 6 (va_A (rpW a cA w h wa ma ka li hk sh T kd rd dp) sz) := by
  refine vx_ofW (cc := cX2_made) (maxL := 3) (ret := (some .int)) (by decide) rfl ?_
  intro p e s m args below meth c s₁ B hml ht9 hv
  obtain ⟨rfl, hsz, hP, hK, hD0, hZ⟩ := hv
  have hx := B.exec
  have hb := B.bytes
  have hr := B.returns
  have hts0 := atoms_spec (ws := wsX2_made) B.pre
  have hts : ∀ w ∈ wsAll, w.before _ s = true := fun w h => hts0 w (List.mem_cons_of_mem _ h)
  have hown : s.vm.findClass RX2 = some m.cls := findClass_of_methodNamed B.named
  have hlocks := B.notSynchronized
  subst hsz
  have hD := hD0.self (sz := s.heap.size)
  obtain ⟨A, hAe⟩ : ∃ A, A = va_A (rpW a cA w h wa ma ka li hk sh T kd rd dp) s.heap.size := ⟨_, rfl⟩
  rw [← hAe] at hD hZ
  have hA : ∀ q : Nat, s.heap.size ≤ q → A q := fun q h => by rw [hAe]; exact Or.inr h
  have hS : va_S A s.heap s.heap [] := va_S.rf
  have hP : va_P (dC, dI) vwCl (rpW a cA w h wa ma ka li hk sh T kd rd dp) s.heap := hP
  have hl := lv_entry ([.ref (a 0), .int (iI x), .int (iI y)]) (n := 3) (Nat.le_of_ble_eq_true rfl)
  rw [lg_entry_eq]
  generalize (lg_sl ([.ref (a 0), .int (iI x), .int (iI y)]) ++ List.replicate (3 - (lg_sl ([.ref (a 0), .int (iI x), .int (iI y)])).length) Slot.unset).toArray = ls at hl ⊢
  have hl : lv_has ls 3 [(0, .ref (a 0)), (1, .int (iI x)), (2, .int (iI y))] := hl
  refine lv_aload_n hx hb dX2_made_0 rfl (lv_at hl 0 rfl) ?_
  refine lv_iload_n hx hb dX2_made_1 rfl (lv_at hl 1 rfl) ?_
  refine lv_iload_n hx hb dX2_made_2 rfl (lv_at hl 2 rfl) ?_
  have hFc := z_freeR (wc := rpW a cA w h wa ma ka li hk sh T kd rd dp) (fun _ h => h) hD hS hA
  refine z_xrcallv (vx_runV (As := [.int (iI x), .int (iI y)]) (rest := []) ⟨hx, hb, hml, hown, hts⟩ (c_X2_needPlace l hl9 dC dI (s.heap).size a cA w h wa ma ka li hk sh T kd rd dp x y hw hh (by omega) (by omega)) (cwV 2 hts g_X2_60 rfl rfl rfl (by decide +kernel) ⟨Nat.le_of_ble_eq_true rfl, Nat.le_of_ble_eq_true rfl⟩) (zP_V (ci := 2) (q0 := 0) rfl rfl hP hK hD hS hFc hZ) rfl rfl hl.1 rfl (lv_room (Nat.le_of_ble_eq_true rfl)) dX2_made_3 ⟨Nat.le_of_ble_eq_true rfl, Nat.le_of_ble_eq_true rfl⟩) hP hD hS hFc (fun _ h => h) (fun E ce q9 H locs hE hP hS _ h7 h8 h9 => by subst hAe; exact z_xout ht9 hlocks h7 h8 h9 (hE) hP hK hD hS (Nat.le_of_ble_eq_true rfl) (Nat.le_of_ble_eq_true rfl)) (fun H locs hok3 hP hD hS _ => ?_)
  refine lv_aload_n hx hb dX2_made_6 rfl (lv_at hl 0 rfl) ?_
  refine va_get (D := (dC, dI)) (ci := 2) (v := .ref (a 2)) (C := RX2) (T := TX2) (N := 10) hx hb hts inX2 hown hK hP 0 rfl rfl 3 (by decide) (hts _ wm_174) (fun _ h9 => h9) rfl dX2_made_7 ?_
  refine lv_aload_n hx hb dX2_made_10 rfl (lv_at hl 0 rfl) ?_
  refine lv_iload_n hx hb dX2_made_11 rfl (lv_at hl 1 rfl) ?_
  refine lv_iload_n hx hb dX2_made_12 rfl (lv_at hl 2 rfl) ?_
  have hFc := z_freeR (wc := rpW a cA w h wa ma ka li hk sh T kd rd dp) (fun _ h => h) hD hS hA
  refine z_wcalli (va_runV (As := [.int (iI x), .int (iI y)]) (rest := [.ref (a 2)]) ⟨hx, hb, hml, hown, hts⟩ (c_X2_placeAt l dC dI (H).size a cA w h wa ma ka li hk sh T kd rd dp x y) (cwV 2 hts g_X2_68 rfl rfl rfl (by decide +kernel) ⟨Nat.le_of_ble_eq_true rfl, Nat.le_of_ble_eq_true rfl⟩) (zP_V (ci := 2) (q0 := 0) rfl rfl hP hK hD hS hFc hZ) rfl rfl hl.1 rfl (lv_room (Nat.le_of_ble_eq_true rfl)) dX2_made_13 ⟨Nat.le_of_ble_eq_true rfl, Nat.le_of_ble_eq_true rfl⟩) hS hFc (fun H locs _ hP hD hS _ => ?_)
  have hP : va_P (dC, dI) vwCl (rpW a cA w h wa ma ka li hk sh T kd rd dp) H := hP
  have hD : va_D A (rpW a cA w h wa ma ka li hk sh T kd rd dp) := hD
  refine z_iald (f := ma) (i := y * (w : Int) + x) hx hb hK hP 2 1 rfl rfl (z_ix (w := w) (h := h) hok3.1 hok3.2.1 hok3.2.2.1 hok3.2.2.2) (by have := z_wh hw.2 hh.2; omega) dX2_made_16 ?_
  refine vx_ret ?_
  subst hAe
  exact z_iret hx hb hr hlocks hP hK hD hS (hok3) dX2_made_17
theorem g_X2_76 : GoodIn wsAll (va_wsS RX2 76 yX2_needTool wsX2_needTool) := z_good (show ∀ w ∈ (Cond.methodLink RX2 76 yX2_needTool :: Cond.static yX2_needTool :: Cond.initialized RX2 :: Cond.code yX2_needTool prog_1_method_19_code 1 none :: wsAll), w ∈ wsAll from List.forall_mem_cons.mpr ⟨wm_253, List.forall_mem_cons.mpr ⟨wm_254, List.forall_mem_cons.mpr ⟨wm_109, List.forall_mem_cons.mpr ⟨wm_255, fun _ h => h⟩⟩⟩⟩)
abbrev r_X2_lift : Room := { frames := 7, cells := 2, slots := 12, locals := 113 }
set_option maxHeartbeats 4000000 in
set_option maxRecDepth 100000 in
theorem c_X2_lift (l : Launch) (hl9 : l.stackTraces = false) (dC : Nat → ClassId) (dI : Nat → Nat → Nat) (sz : Nat) (a : Nat → Nat) (cA : Nat → ClassId) (w h : Nat) (wa ma ka li : Nat → Int) (hk sh : Int) (T : TK) (kd rd : Nat → Int) (dp : Nat → Nat → Int) (x y t : Int) (hw : 1 ≤ w ∧ w ≤ 20) (hh : 1 ≤ h ∧ h ≤ 20) (hrd : ∀ j, j < 4 → 0 ≤ rd j ∧ rd j ≤ 5) (hdp : ∀ j, j < 4 → bd (dp j) (-1) 5) (h1 : rg x) (h2 : rg y) (h3 : rg t) (hwa : bd wa 0 1000) : vx_Met l yX2_lift wsX2_lift r_X2_lift (zP (dC, dI) vwCl (rpT cA) (rpW a cA w h wa ma ka li hk sh T kd rd dp) sz [.ref (a 0), .int (iI x), .int (iI y), .int (iI t)]) (zQi (dC, dI) vwCl (rpT cA) (rpW a cA w h wa ma ka li hk sh T kd rd dp) sz ((0 ≤ x ∧ x < (w : Int) ∧ 0 ≤ y ∧ y < (h : Int)) ∧ (0 ≤ t ∧ t ≤ 3)) (lfF w h wa (dp t.toNat) (rd t.toNat) x y (nB h (rd t.toNat) y)) (rpW a cA w h wa ma ka li hk sh T kd rd dp)) (zX (dC, dI) vwCl (rpT cA) (rpW a cA w h wa ma ka li hk sh T kd rd dp) sz (fun E => E = "java/lang/IndexOutOfBoundsException" ∧ ¬ ((0 ≤ x ∧ x < (w : Int) ∧ 0 ≤ y ∧ y < (h : Int)) ∧ (0 ≤ t ∧ t ≤ 3)))) 2 12 (va_A (rpW a cA w h wa ma ka li hk sh T kd rd dp) sz) := by
  refine vx_ofW (cc := cX2_lift) (maxL := 4) (ret := (some .int)) (by decide) rfl ?_
  intro p e s m args below meth c s₁ B hml ht9 hv
  obtain ⟨rfl, hsz, hP, hK, hD0, hZ⟩ := hv
  have hx := B.exec
  have hb := B.bytes
  have hr := B.returns
  have hts0 := atoms_spec (ws := wsX2_lift) B.pre
  have hts : ∀ w ∈ wsAll, w.before _ s = true := fun w h => hts0 w (List.mem_cons_of_mem _ h)
  have hown : s.vm.findClass RX2 = some m.cls := findClass_of_methodNamed B.named
  have hlocks := B.notSynchronized
  subst hsz
  have hD := hD0.self (sz := s.heap.size)
  obtain ⟨A, hAe⟩ : ∃ A, A = va_A (rpW a cA w h wa ma ka li hk sh T kd rd dp) s.heap.size := ⟨_, rfl⟩
  rw [← hAe] at hD hZ
  have hA : ∀ q : Nat, s.heap.size ≤ q → A q := fun q h => by rw [hAe]; exact Or.inr h
  have hS : va_S A s.heap s.heap [] := va_S.rf
  have hP : va_P (dC, dI) vwCl (rpW a cA w h wa ma ka li hk sh T kd rd dp) s.heap := hP
  have hl := lv_entry ([.ref (a 0), .int (iI x), .int (iI y), .int (iI t)]) (n := 4) (Nat.le_of_ble_eq_true rfl)
  rw [lg_entry_eq]
  generalize (lg_sl ([.ref (a 0), .int (iI x), .int (iI y), .int (iI t)]) ++ List.replicate (4 - (lg_sl ([.ref (a 0), .int (iI x), .int (iI y), .int (iI t)])).length) Slot.unset).toArray = ls at hl ⊢
  have hl : lv_has ls 4 [(0, .ref (a 0)), (1, .int (iI x)), (2, .int (iI y)), (3, .int (iI t))] := hl
  refine lv_aload_n hx hb dX2_lift_0 rfl (lv_at hl 0 rfl) ?_
  refine lv_iload_n hx hb dX2_lift_1 rfl (lv_at hl 1 rfl) ?_
  refine lv_iload_n hx hb dX2_lift_2 rfl (lv_at hl 2 rfl) ?_
  have hFc := z_freeR (wc := rpW a cA w h wa ma ka li hk sh T kd rd dp) (fun _ h => h) hD hS hA
  refine z_xrcallv (vx_runV (As := [.int (iI x), .int (iI y)]) (rest := []) ⟨hx, hb, hml, hown, hts⟩ (c_X2_needPlace l hl9 dC dI (s.heap).size a cA w h wa ma ka li hk sh T kd rd dp x y hw hh (by omega) (by omega)) (cwV 2 hts g_X2_60 rfl rfl rfl (by decide +kernel) ⟨Nat.le_of_ble_eq_true rfl, Nat.le_of_ble_eq_true rfl⟩) (zP_V (ci := 2) (q0 := 0) rfl rfl hP hK hD hS hFc hZ) rfl rfl hl.1 rfl (lv_room (Nat.le_of_ble_eq_true rfl)) dX2_lift_3 ⟨Nat.le_of_ble_eq_true rfl, Nat.le_of_ble_eq_true rfl⟩) hP hD hS hFc (fun _ h => h) (fun E ce q9 H locs hE hP hS _ h7 h8 h9 => by subst hAe; exact z_xout ht9 hlocks h7 h8 h9 (⟨hE.1, fun z9 => hE.2 z9.1⟩) hP hK hD hS (Nat.le_of_ble_eq_true rfl) (Nat.le_of_ble_eq_true rfl)) (fun H locs hok3 hP hD hS _ => ?_)
  refine lv_iload_n hx hb dX2_lift_6 rfl (lv_at hl 3 rfl) ?_
  refine z_xrcallv (vx_runS (As := [.int (iI t)]) (rest := []) ⟨hx, hb, hml, hown, hts⟩ (c_X2_needTool l hl9 dC dI (H).size t (by omega)) (va_cwS 1 hts g_X2_76 rfl rfl rfl (by decide +kernel) ⟨Nat.le_of_ble_eq_true rfl, Nat.le_of_ble_eq_true rfl⟩) (zP_S z_P0 (hK.sub [] rfl) z_D0 hS (z_free0 hS hA) hZ) rfl rfl hl.1 rfl (lv_room (Nat.le_of_ble_eq_true rfl)) dX2_lift_7 ⟨Nat.le_of_ble_eq_true rfl, Nat.le_of_ble_eq_true rfl⟩) hP hD hS (z_free0 hS hA) (fun _ h => by cases h) (fun E ce q9 H locs hE hP hS _ h7 h8 h9 => by subst hAe; exact z_xout ht9 hlocks h7 h8 h9 (⟨hE.1, fun z9 => hE.2 z9.2⟩) hP hK hD hS (Nat.le_of_ble_eq_true rfl) (Nat.le_of_ble_eq_true rfl)) (fun H locs hok7 hP hD hS _ => ?_)
  refine lv_aload_n hx hb dX2_lift_10 rfl (lv_at hl 0 rfl) ?_
  refine lv_aload_n hx hb dX2_lift_11 rfl (lv_at hl 0 rfl) ?_
  refine va_get (D := (dC, dI)) (ci := 2) (v := .ref (a 5)) (C := RX2) (T := TX2) (N := 10) hx hb hts inX2 hown hK hP 0 rfl rfl 6 (by decide) (hts _ wm_177) (fun _ h9 => h9) rfl dX2_lift_12 ?_
  refine lv_iload_n hx hb dX2_lift_15 rfl (lv_at hl 3 rfl) ?_
  have hj : t.toNat < 4 := by omega
  have hrd := hrd _ hj
  have hdp := hdp _ hj
  refine z_aald (f := fun j => a (8 + j)) (i := t) hx hb hK hP 5 4 rfl rfl (by omega) (by decide) dX2_lift_16 ?_
  refine lv_iload_n hx hb dX2_lift_17 rfl (lv_at hl 1 rfl) ?_
  refine lv_iload_n hx hb dX2_lift_18 rfl (lv_at hl 2 rfl) ?_
  have hFc := z_freeR (wc := rpW a cA w h wa ma ka li hk sh T kd rd dp) (fun _ h => h) hD hS hA
  refine z_wcalli (va_runV (As := [.ref (a (8 + t.toNat)), .int (iI x), .int (iI y)]) (rest := []) ⟨hx, hb, hml, hown, hts⟩ (c_X2_liftOver l dC dI (H).size a cA w h wa ma ka li hk sh T kd rd dp t.toNat x y hw hh hj hrd (by omega) (by omega) hdp hwa) (cwV 3 hts g_X2_94 rfl rfl rfl (by decide +kernel) ⟨Nat.le_of_ble_eq_true rfl, Nat.le_of_ble_eq_true rfl⟩) (zP_V (ci := 2) (q0 := 0) rfl rfl hP hK hD hS hFc hZ) rfl rfl hl.1 rfl (lv_room (Nat.le_of_ble_eq_true rfl)) dX2_lift_19 ⟨Nat.le_of_ble_eq_true rfl, Nat.le_of_ble_eq_true rfl⟩) hS hFc (fun H locs _ hP hD hS _ => ?_)
  have hP : va_P (dC, dI) vwCl (rpW a cA w h wa ma ka li hk sh T kd rd dp) H := hP
  have hD : va_D A (rpW a cA w h wa ma ka li hk sh T kd rd dp) := hD
  refine vx_ret ?_
  subst hAe
  exact z_iret hx hb hr hlocks hP hK hD hS (⟨hok3, hok7⟩) dX2_lift_22
abbrev r_X2_moves : Room := { frames := 0, cells := 0, slots := 0, locals := 0 }
set_option maxHeartbeats 4000000 in
set_option maxRecDepth 100000 in
theorem c_X2_moves (l : Launch) (dC : Nat → ClassId) (dI : Nat → Nat → Nat) (sz : Nat) (a : Nat → Nat) (cA : Nat → ClassId) (w h : Nat) (wa ma ka li : Nat → Int) (hk sh : Int) (T : TK) (kd rd : Nat → Int) (dp : Nat → Nat → Int) : Met l yX2_moves wsX2_moves r_X2_moves (zP (dC, dI) vwCl (rpT cA) (rpW a cA w h wa ma ka li hk sh T kd rd dp) sz [.ref (a 0)]) (zQi (dC, dI) vwCl (rpT cA) (rpW a cA w h wa ma ka li hk sh T kd rd dp) sz (True) T.2.1 (rpW a cA w h wa ma ka li hk sh T kd rd dp)) 0 0 (va_A (rpW a cA w h wa ma ka li hk sh T kd rd dp) sz) := by
  refine Met.ofW (cc := cX2_moves) (maxL := 1) (ret := (some .int)) (by decide) rfl ?_
  intro p e s m args below meth c s₁ B hml hv
  obtain ⟨rfl, hsz, hP, hK, hD0, hZ⟩ := hv
  have hx := B.exec
  have hb := B.bytes
  have hr := B.returns
  have hts0 := atoms_spec (ws := wsX2_moves) B.pre
  have hts : ∀ w ∈ wsAll, w.before _ s = true := fun w h => hts0 w (List.mem_cons_of_mem _ h)
  have hown : s.vm.findClass RX2 = some m.cls := findClass_of_methodNamed B.named
  have hlocks := B.notSynchronized
  subst hsz
  have hD := hD0.self (sz := s.heap.size)
  obtain ⟨A, hAe⟩ : ∃ A, A = va_A (rpW a cA w h wa ma ka li hk sh T kd rd dp) s.heap.size := ⟨_, rfl⟩
  rw [← hAe] at hD hZ
  have hA : ∀ q : Nat, s.heap.size ≤ q → A q := fun q h => by rw [hAe]; exact Or.inr h
  have hS : va_S A s.heap s.heap [] := va_S.rf
  have hP : va_P (dC, dI) vwCl (rpW a cA w h wa ma ka li hk sh T kd rd dp) s.heap := hP
  have hl := lv_entry ([.ref (a 0)]) (n := 1) (Nat.le_of_ble_eq_true rfl)
  rw [lg_entry_eq]
  generalize (lg_sl ([.ref (a 0)]) ++ List.replicate (1 - (lg_sl ([.ref (a 0)])).length) Slot.unset).toArray = ls at hl ⊢
  have hl : lv_has ls 1 [(0, .ref (a 0))] := hl
  refine lv_aload_n hx hb dX2_moves_0 rfl (lv_at hl 0 rfl) ?_
  refine va_get (D := (dC, dI)) (ci := 2) (v := .ref (a 6)) (C := RX2) (T := TX2) (N := 10) hx hb hts inX2 hown hK hP 0 rfl rfl 7 (by decide) (hts _ wm_178) (fun _ h9 => h9) rfl dX2_moves_1 ?_
  refine va_getN (D := (dC, dI)) (ci := 1) (v := .int (iI T.2.1)) (C := RX1) (T := TX1) (N := 6) hx hb hts inX1 hown hK hP 6 rfl rfl 1 (by decide) (va_Nw.use rfl (hZ.1 (.fieldLinkNest RX2 128 RX1 "count" "I" RX2) (by decide +kernel))) (fun _ h9 => h9) rfl dX2_moves_4 ?_
  subst hAe
  exact z_iret hx hb hr hlocks hP hK hD hS (trivial) dX2_moves_7
abbrev r_X2_way : Room := { frames := 0, cells := 0, slots := 0, locals := 0 }
set_option maxHeartbeats 4000000 in
set_option maxRecDepth 100000 in
theorem c_X2_way (l : Launch) (dC : Nat → ClassId) (dI : Nat → Nat → Nat) (sz : Nat) (a : Nat → Nat) (cA : Nat → ClassId) (w h : Nat) (wa ma ka li : Nat → Int) (hk sh : Int) (T : TK) (kd rd : Nat → Int) (dp : Nat → Nat → Int) : Met l yX2_way wsX2_way r_X2_way (zP (dC, dI) vwCl (rpT cA) (rpW a cA w h wa ma ka li hk sh T kd rd dp) sz [.ref (a 0)]) (zQl (dC, dI) vwCl (rpT cA) (rpW a cA w h wa ma ka li hk sh T kd rd dp) sz (True) T.2.2.1 (rpW a cA w h wa ma ka li hk sh T kd rd dp)) 0 0 (va_A (rpW a cA w h wa ma ka li hk sh T kd rd dp) sz) := by
  refine Met.ofW (cc := cX2_way) (maxL := 1) (ret := (some .long)) (by decide) rfl ?_
  intro p e s m args below meth c s₁ B hml hv
  obtain ⟨rfl, hsz, hP, hK, hD0, hZ⟩ := hv
  have hx := B.exec
  have hb := B.bytes
  have hr := B.returns
  have hts0 := atoms_spec (ws := wsX2_way) B.pre
  have hts : ∀ w ∈ wsAll, w.before _ s = true := fun w h => hts0 w (List.mem_cons_of_mem _ h)
  have hown : s.vm.findClass RX2 = some m.cls := findClass_of_methodNamed B.named
  have hlocks := B.notSynchronized
  subst hsz
  have hD := hD0.self (sz := s.heap.size)
  obtain ⟨A, hAe⟩ : ∃ A, A = va_A (rpW a cA w h wa ma ka li hk sh T kd rd dp) s.heap.size := ⟨_, rfl⟩
  rw [← hAe] at hD hZ
  have hA : ∀ q : Nat, s.heap.size ≤ q → A q := fun q h => by rw [hAe]; exact Or.inr h
  have hS : va_S A s.heap s.heap [] := va_S.rf
  have hP : va_P (dC, dI) vwCl (rpW a cA w h wa ma ka li hk sh T kd rd dp) s.heap := hP
  have hl := lv_entry ([.ref (a 0)]) (n := 1) (Nat.le_of_ble_eq_true rfl)
  rw [lg_entry_eq]
  generalize (lg_sl ([.ref (a 0)]) ++ List.replicate (1 - (lg_sl ([.ref (a 0)])).length) Slot.unset).toArray = ls at hl ⊢
  have hl : lv_has ls 1 [(0, .ref (a 0))] := hl
  refine lv_aload_n hx hb dX2_way_0 rfl (lv_at hl 0 rfl) ?_
  refine va_get (D := (dC, dI)) (ci := 2) (v := .ref (a 6)) (C := RX2) (T := TX2) (N := 10) hx hb hts inX2 hown hK hP 0 rfl rfl 7 (by decide) (hts _ wm_178) (fun _ h9 => h9) rfl dX2_way_1 ?_
  refine va_getN (D := (dC, dI)) (ci := 1) (v := .long (lI T.2.2.1)) (C := RX1) (T := TX1) (N := 6) hx hb hts inX1 hown hK hP 6 rfl rfl 2 (by decide) (va_Nw.use rfl (hZ.1 (.fieldLinkNest RX2 149 RX1 "length" "J" RX2) (by decide +kernel))) (fun _ h9 => h9) rfl dX2_way_4 ?_
  subst hAe
  exact z_lret hx hb hr hlocks hP hK hD hS (trivial) dX2_way_7
