theorem g_X0_26 : GoodIn wsAll (wsV RX0 26 RX0 yX0_depthAtSquare wsX0_depthAtSquare) := z_good (show ∀ w ∈ (Cond.methodLink RX0 26 yX0_depthAtSquare :: Cond.instanceMethod yX0_depthAtSquare :: Cond.selects RX0 yX0_depthAtSquare yX0_depthAtSquare :: Cond.initialized RX0 :: Cond.code yX0_depthAtSquare prog_2_method_5_code 3 (some .int) :: wsAll), w ∈ wsAll from List.forall_mem_cons.mpr ⟨wm_263, List.forall_mem_cons.mpr ⟨wm_264, List.forall_mem_cons.mpr ⟨wm_563, List.forall_mem_cons.mpr ⟨wm_111, List.forall_mem_cons.mpr ⟨wm_265, fun _ h => h⟩⟩⟩⟩⟩)
abbrev r_X0_become : Room := { frames := 2, cells := 0, slots := 0, locals := 43 }
set_option maxHeartbeats 4000000 in
set_option maxRecDepth 100000 in
theorem lp_X0_become_46 {p : Program} {l : Launch} {e : Env} {s : State} {m : MethodId} {args : Array Value} {below : List Frame} {meth : Method} {c : Code} {Q : State → Prop} {A : Nat → Prop} {dC : Nat → ClassId} {dI : Nat → Nat → Nat} (t d : Nat) (cd : ClassId) (k2 r2 y g : Int) (dp : Nat → Int) (hx : p.tables.exec = Jvm.exec) (hb : c.code = cX0_become) (hml : c.maxLocals = 6) (hown : s.vm.findClass RX0 = some m.cls) (hts : ∀ w ∈ wsAll, w.before args s = true) (hA : ∀ q : Nat, s.heap.size ≤ q → A q) (hZ : zZ A s s.heap) (hK : va_K (dC, dI) vwCl ([(cd, .int)]) s) (h3 : rg k2) (h4 : 0 ≤ r2 ∧ r2 ≤ 5) (hy : -r2 ≤ y ∧ y ≤ r2) (kk : ∀ (H : Heap) (locs : List Loc) (ls : Array Slot), va_P (dC, dI) vwCl ([(t, oI 0 [.int (iI k2), .int (iI r2), .ref d]), (d, aI cd 121 (becR k2 r2 (2 * r2 + 1).toNat y dp))]) H → va_D A ([(t, oI 0 [.int (iI k2), .int (iI r2), .ref d]), (d, aI cd 121 (becR k2 r2 (2 * r2 + 1).toNat y dp))]) → va_S A s.heap H locs → lv_has ls 6 [(0, .ref t), (1, .int (iI k2)), (2, .int (iI r2)), (3, .int (iI g)), (4, .int (iI y)), (5, .int (iI (-r2 + (((2 * r2 + 1).toNat : Nat) : Int))))] → W p l e r_X0_become s m args below meth c H locs 0 0 Q (F0 m 85 ls [])) : ∀ (n i : Nat), i + n = (2 * r2 + 1).toNat → ∀ (H : Heap) (locs : List Loc) (ls : Array Slot), va_P (dC, dI) vwCl ([(t, oI 0 [.int (iI k2), .int (iI r2), .ref d]), (d, aI cd 121 (becR k2 r2 i y dp))]) H → va_D A ([(t, oI 0 [.int (iI k2), .int (iI r2), .ref d]), (d, aI cd 121 (becR k2 r2 i y dp))]) → va_S A s.heap H locs → lv_has ls 6 [(0, .ref t), (1, .int (iI k2)), (2, .int (iI r2)), (3, .int (iI g)), (4, .int (iI y)), (5, .int (iI (-r2 + ((i : Nat) : Int))))] → W p l e r_X0_become s m args below meth c H locs 0 0 Q (F0 m 46 ls []) := by
  intro n
  induction n with
  | zero =>
    intro i hi H locs ls hP hD hS hl
    have hi9 : (2 * r2 + 1).toNat = i := by omega
    subst hi9
    refine lv_iload hx hb dX0_become_46 (lv_at hl 5 rfl) ?_
    refine lv_iload_n hx hb dX0_become_48 rfl (lv_at hl 2 rfl) ?_
    refine z_icmp_gt (tgt := 85) hx hb dX0_become_49 (by decide) (by omega) (by omega) (fun c49 => ?_) (fun c49 => by exfalso; omega)
    exact kk _ _ _ hP hD hS (lv_sub hl [0, 1, 2, 3, 4, 5] rfl)
  | succ n ih =>
    intro i hi H locs ls hP hD hS hl
    refine lv_iload hx hb dX0_become_46 (lv_at hl 5 rfl) ?_
    refine lv_iload_n hx hb dX0_become_48 rfl (lv_at hl 2 rfl) ?_
    refine z_icmp_gt (tgt := 85) hx hb dX0_become_49 (by decide) (by omega) (by omega) (fun c49 => by exfalso; omega) (fun c49 => ?_)
    refine lv_aload_n hx hb dX0_become_52 rfl (lv_at hl 0 rfl) ?_
    refine va_get (D := (dC, dI)) (ci := 0) (v := .ref d) (C := RX0) (T := TX0) (N := 3) hx hb hts inX0 hown hK hP 0 rfl rfl 2 (by decide) (hts _ wm_137) (fun _ h9 => h9) rfl dX0_become_53 ?_
    refine lv_iload hx hb dX0_become_56 (lv_at hl 5 rfl) ?_
    refine lv_iload hx hb dX0_become_58 (lv_at hl 4 rfl) ?_
    refine z_rcalli (va_runS (As := [.int (iI (-r2 + ((i : Nat) : Int))), .int (iI y)]) (rest := [.ref d]) ⟨hx, hb, hml, hown, hts⟩ (c_X0_cellOf l dC dI (H).size (-r2 + ((i : Nat) : Int)) y) (va_cwS 2 hts g_X0_22 rfl rfl rfl (by decide +kernel) ⟨Nat.le_of_ble_eq_true rfl, Nat.le_of_ble_eq_true rfl⟩) (zP_S z_P0 (hK.sub [] rfl) z_D0 hS (z_free0 hS hA) hZ) rfl rfl hl.1 rfl (lv_room (Nat.le_of_ble_eq_true rfl)) dX0_become_60 ⟨Nat.le_of_ble_eq_true rfl, Nat.le_of_ble_eq_true rfl⟩) hP hD hS (z_free0 hS hA) (fun _ h => by cases h) (fun H locs _ hP hD hS _ => ?_)
    have hyy := z_sqm (a := y) (r := r2) hy.1 hy.2 h4.2
    have hxx := z_sqm (a := -r2 + ((i : Nat) : Int)) (r := r2) (by omega) (by omega) h4.2
    have hq : 0 ≤ (-r2 + ((i : Nat) : Int)) * (-r2 + ((i : Nat) : Int)) + y * y ∧ (-r2 + ((i : Nat) : Int)) * (-r2 + ((i : Nat) : Int)) + y * y ≤ 50 := by omega
    refine lv_aload_n hx hb dX0_become_63 rfl (lv_at hl 0 rfl) ?_
    refine lv_iload hx hb dX0_become_64 (lv_at hl 5 rfl) ?_
    refine lv_iload hx hb dX0_become_66 (lv_at hl 5 rfl) ?_
    refine z_mul hx hb dX0_become_68 ?_
    refine lv_iload hx hb dX0_become_69 (lv_at hl 4 rfl) ?_
    refine lv_iload hx hb dX0_become_71 (lv_at hl 4 rfl) ?_
    refine z_mul hx hb dX0_become_73 ?_
    refine z_add hx hb dX0_become_74 ?_
    have hFc := z_freeR (wc := [(t, oI 0 [.int (iI k2), .int (iI r2), .ref d]), (d, aI cd 121 (becR k2 r2 i y dp))]) (fun _ h => h) hD hS hA
    refine z_wcalli (va_runV (As := [.int (iI (((-r2 + ((i : Nat) : Int)) * (-r2 + ((i : Nat) : Int))) + (y * y)))]) (rest := [.int (iI ((y + 5) * 11 + (-r2 + ((i : Nat) : Int)) + 5)), .ref d]) ⟨hx, hb, hml, hown, hts⟩ (c_X0_depthAtSquare l dC dI (H).size t d cd k2 r2 (becR k2 r2 i y dp) (((-r2 + ((i : Nat) : Int)) * (-r2 + ((i : Nat) : Int))) + (y * y)) h3 h4 hq) (cwV 1 hts g_X0_26 rfl rfl rfl (by decide +kernel) ⟨Nat.le_of_ble_eq_true rfl, Nat.le_of_ble_eq_true rfl⟩) (zP_V (ci := 0) (q0 := 0) rfl rfl hP hK hD hS hFc hZ) rfl rfl hl.1 rfl (lv_room (Nat.le_of_ble_eq_true rfl)) dX0_become_75 ⟨Nat.le_of_ble_eq_true rfl, Nat.le_of_ble_eq_true rfl⟩) hS hFc (fun H locs _ hP hD hS _ => ?_)
    refine z_iast (f := becR k2 r2 i y dp) (i := (y + 5) * 11 + (-r2 + ((i : Nat) : Int)) + 5) (x := das k2 r2 (((-r2 + ((i : Nat) : Int)) * (-r2 + ((i : Nat) : Int))) + (y * y))) hx hb hK hP hD hS 1 0 rfl rfl (by omega) (by decide) dX0_become_78 (fun H locs hP hD hS => ?_)
    have hP : va_P (dC, dI) vwCl ([(t, oI 0 [.int (iI k2), .int (iI r2), .ref d]), (d, aI cd 121 (uI (becR k2 r2 i y dp) ((y + 5) * 11 + (-r2 + ((i : Nat) : Int)) + 5).toNat (das k2 r2 (((-r2 + ((i : Nat) : Int)) * (-r2 + ((i : Nat) : Int))) + (y * y)))))]) H := hP
    have hD : va_D A ([(t, oI 0 [.int (iI k2), .int (iI r2), .ref d]), (d, aI cd 121 (uI (becR k2 r2 i y dp) ((y + 5) * 11 + (-r2 + ((i : Nat) : Int)) + 5).toNat (das k2 r2 (((-r2 + ((i : Nat) : Int)) * (-r2 + ((i : Nat) : Int))) + (y * y)))))]) := hD
    refine lv_iinc (v := iI (-r2 + (((i + 1) : Nat) : Int))) (lv' := [(5, .int (iI (-r2 + (((i + 1) : Nat) : Int)))), (0, .ref t), (1, .int (iI k2)), (2, .int (iI r2)), (3, .int (iI g)), (4, .int (iI y))]) hx hb dX0_become_79 hl (k := 5) rfl ((iI_add _ _).trans (congrArg iI (by omega))) (by decide) rfl (fun ls hl => ?_)
    refine lv_goto (tgt := 46) hx hb dX0_become_82 (by decide) ?_
    exact ih (i + 1) (by omega) _ _ _ hP hD hS (lv_sub hl [1, 2, 3, 4, 5, 0] rfl)
set_option maxHeartbeats 4000000 in
set_option maxRecDepth 100000 in
theorem lp_X0_become_36 {p : Program} {l : Launch} {e : Env} {s : State} {m : MethodId} {args : Array Value} {below : List Frame} {meth : Method} {c : Code} {Q : State → Prop} {A : Nat → Prop} {dC : Nat → ClassId} {dI : Nat → Nat → Nat} (t d : Nat) (cd : ClassId) (k2 r2 g : Int) (dp : Nat → Int) (hx : p.tables.exec = Jvm.exec) (hb : c.code = cX0_become) (hml : c.maxLocals = 6) (hown : s.vm.findClass RX0 = some m.cls) (hts : ∀ w ∈ wsAll, w.before args s = true) (hA : ∀ q : Nat, s.heap.size ≤ q → A q) (hZ : zZ A s s.heap) (hK : va_K (dC, dI) vwCl ([(cd, .int)]) s) (h3 : rg k2) (h4 : 0 ≤ r2 ∧ r2 ≤ 5) (kk : ∀ (H : Heap) (locs : List Loc) (ls : Array Slot), va_P (dC, dI) vwCl ([(t, oI 0 [.int (iI k2), .int (iI r2), .ref d]), (d, aI cd 121 (becF k2 r2 (2 * r2 + 1).toNat ((2 * r2 + 1).toNat) dp))]) H → va_D A ([(t, oI 0 [.int (iI k2), .int (iI r2), .ref d]), (d, aI cd 121 (becF k2 r2 (2 * r2 + 1).toNat ((2 * r2 + 1).toNat) dp))]) → va_S A s.heap H locs → lv_has ls 6 [(0, .ref t), (1, .int (iI k2)), (2, .int (iI r2)), (3, .int (iI g)), (4, .int (iI (-r2 + (((2 * r2 + 1).toNat : Nat) : Int))))] → W p l e r_X0_become s m args below meth c H locs 0 0 Q (F0 m 91 ls [])) : ∀ (n i : Nat), i + n = (2 * r2 + 1).toNat → ∀ (H : Heap) (locs : List Loc) (ls : Array Slot), va_P (dC, dI) vwCl ([(t, oI 0 [.int (iI k2), .int (iI r2), .ref d]), (d, aI cd 121 (becF k2 r2 (2 * r2 + 1).toNat i dp))]) H → va_D A ([(t, oI 0 [.int (iI k2), .int (iI r2), .ref d]), (d, aI cd 121 (becF k2 r2 (2 * r2 + 1).toNat i dp))]) → va_S A s.heap H locs → lv_has ls 6 [(0, .ref t), (1, .int (iI k2)), (2, .int (iI r2)), (3, .int (iI g)), (4, .int (iI (-r2 + ((i : Nat) : Int))))] → W p l e r_X0_become s m args below meth c H locs 0 0 Q (F0 m 36 ls []) := by
  intro n
  induction n with
  | zero =>
    intro i hi H locs ls hP hD hS hl
    have hi9 : (2 * r2 + 1).toNat = i := by omega
    subst hi9
    refine lv_iload hx hb dX0_become_36 (lv_at hl 4 rfl) ?_
    refine lv_iload_n hx hb dX0_become_38 rfl (lv_at hl 2 rfl) ?_
    refine z_icmp_gt (tgt := 91) hx hb dX0_become_39 (by decide) (by omega) (by omega) (fun c39 => ?_) (fun c39 => by exfalso; omega)
    exact kk _ _ _ hP hD hS (lv_sub hl [0, 1, 2, 3, 4] rfl)
  | succ n ih =>
    intro i hi H locs ls hP hD hS hl
    refine lv_iload hx hb dX0_become_36 (lv_at hl 4 rfl) ?_
    refine lv_iload_n hx hb dX0_become_38 rfl (lv_at hl 2 rfl) ?_
    refine z_icmp_gt (tgt := 91) hx hb dX0_become_39 (by decide) (by omega) (by omega) (fun c39 => by exfalso; omega) (fun c39 => ?_)
    refine lv_iload_n hx hb dX0_become_42 rfl (lv_at hl 2 rfl) ?_
    refine z_neg hx hb dX0_become_43 ?_
    refine z_top (b := -r2 + ((0 : Nat) : Int)) (by omega) ?_
    refine lv_istore (lv' := [(5, .int (iI (-r2 + ((0 : Nat) : Int)))), (0, .ref t), (1, .int (iI k2)), (2, .int (iI r2)), (3, .int (iI g)), (4, .int (iI (-r2 + ((i : Nat) : Int))))]) hx hb dX0_become_44 hl (by decide) rfl (fun ls hl => ?_)
    refine lp_X0_become_46 t d cd k2 r2 (-r2 + ((i : Nat) : Int)) g (becF k2 r2 (2 * r2 + 1).toNat i dp) hx hb hml hown hts hA hZ hK (h3) (h4) (by omega) (fun H locs ls hP hD hS hl => ?_)  ((2 * r2 + 1).toNat) 0 (by omega) _ _ _ hP hD hS (lv_sub hl [1, 2, 3, 4, 5, 0] rfl)
    have hP : va_P (dC, dI) vwCl ([(t, oI 0 [.int (iI k2), .int (iI r2), .ref d]), (d, aI cd 121 (becR k2 r2 (2 * r2 + 1).toNat (-r2 + ((i : Nat) : Int)) (becF k2 r2 (2 * r2 + 1).toNat i dp)))]) H := hP
    have hD : va_D A ([(t, oI 0 [.int (iI k2), .int (iI r2), .ref d]), (d, aI cd 121 (becR k2 r2 (2 * r2 + 1).toNat (-r2 + ((i : Nat) : Int)) (becF k2 r2 (2 * r2 + 1).toNat i dp)))]) := hD
    have hl : lv_has ls 6 [(0, .ref t), (1, .int (iI k2)), (2, .int (iI r2)), (3, .int (iI g)), (4, .int (iI (-r2 + ((i : Nat) : Int)))), (5, .int (iI (-r2 + (((2 * r2 + 1).toNat : Nat) : Int))))] := hl
    refine lv_iinc (v := iI (-r2 + (((i + 1) : Nat) : Int))) (lv' := [(4, .int (iI (-r2 + (((i + 1) : Nat) : Int)))), (0, .ref t), (1, .int (iI k2)), (2, .int (iI r2)), (3, .int (iI g)), (5, .int (iI (-r2 + (((2 * r2 + 1).toNat : Nat) : Int))))]) hx hb dX0_become_85 hl (k := 4) rfl ((iI_add _ _).trans (congrArg iI (by omega))) (by decide) rfl (fun ls hl => ?_)
    refine lv_goto (tgt := 36) hx hb dX0_become_88 (by decide) ?_
    exact ih (i + 1) (by omega) _ _ _ hP hD hS (lv_sub hl [1, 2, 3, 4, 0] rfl)
set_option maxHeartbeats 4000000 in
set_option maxRecDepth 100000 in
theorem c_X0_become (l : Launch) (dC : Nat → ClassId) (dI : Nat → Nat → Nat) (sz : Nat) (t d : Nat) (cd : ClassId) (kd r : Int) (dp : Nat → Int) (k2 r2 : Int) (h1 : rg kd) (h2 : rg r) (h3 : rg k2) (h4 : 0 ≤ r2 ∧ r2 ≤ 5) : Met l yX0_become wsX0_become r_X0_become (zP (dC, dI) vwCl ([(cd, .int)]) ([(t, oI 0 [.int (iI kd), .int (iI r), .ref d]), (d, aI cd 121 dp)]) sz [.ref t, .int (iI k2), .int (iI r2)]) (zQi (dC, dI) vwCl ([(cd, .int)]) ([(t, oI 0 [.int (iI kd), .int (iI r), .ref d]), (d, aI cd 121 dp)]) sz (True) (if kd = k2 ∧ r = r2 then 0 else 1) ([(t, oI 0 [.int (iI k2), .int (iI r2), .ref d]), (d, aI cd 121 (becF k2 r2 (2 * r2 + 1).toNat (2 * r2 + 1).toNat dp))])) 0 0 (va_A ([(t, oI 0 [.int (iI kd), .int (iI r), .ref d]), (d, aI cd 121 dp)]) sz) := by
  refine Met.ofW (cc := cX0_become) (maxL := 6) (ret := (some .boolean)) (by decide) rfl ?_
  intro p e s m args below meth c s₁ B hml hv
  obtain ⟨rfl, hsz, hP, hK, hD0, hZ⟩ := hv
  have hx := B.exec
  have hb := B.bytes
  have hr := B.returns
  have hts0 := atoms_spec (ws := wsX0_become) B.pre
  have hts : ∀ w ∈ wsAll, w.before _ s = true := fun w h => hts0 w (List.mem_cons_of_mem _ h)
  have hown : s.vm.findClass RX0 = some m.cls := findClass_of_methodNamed B.named
  have hlocks := B.notSynchronized
  subst hsz
  have hD := hD0.self (sz := s.heap.size)
  obtain ⟨A, hAe⟩ : ∃ A, A = va_A ([(t, oI 0 [.int (iI kd), .int (iI r), .ref d]), (d, aI cd 121 dp)]) s.heap.size := ⟨_, rfl⟩
  rw [← hAe] at hD hZ
  have hA : ∀ q : Nat, s.heap.size ≤ q → A q := fun q h => by rw [hAe]; exact Or.inr h
  have hS : va_S A s.heap s.heap [] := va_S.rf
  have hP : va_P (dC, dI) vwCl ([(t, oI 0 [.int (iI kd), .int (iI r), .ref d]), (d, aI cd 121 dp)]) s.heap := hP
  have hl := lv_entry ([.ref t, .int (iI k2), .int (iI r2)]) (n := 6) (Nat.le_of_ble_eq_true rfl)
  rw [lg_entry_eq]
  generalize (lg_sl ([.ref t, .int (iI k2), .int (iI r2)]) ++ List.replicate (6 - (lg_sl ([.ref t, .int (iI k2), .int (iI r2)])).length) Slot.unset).toArray = ls at hl ⊢
  have hl : lv_has ls 6 [(0, .ref t), (1, .int (iI k2)), (2, .int (iI r2))] := hl
  refine lv_aload_n hx hb dX0_become_0 rfl (lv_at hl 0 rfl) ?_
  refine va_get (D := (dC, dI)) (ci := 0) (v := .int (iI kd)) (C := RX0) (T := TX0) (N := 3) hx hb hts inX0 hown hK hP 0 rfl rfl 0 (by decide) (hts _ wm_135) (fun _ h9 => h9) rfl dX0_become_1 ?_
  refine lv_iload_n hx hb dX0_become_4 rfl (lv_at hl 1 rfl) ?_
  refine z_join (g0 := F0 m 21 ls [.int (iI (if kd = k2 ∧ r = r2 then 0 else 1))]) ?_ (fun J21 => ?_)
  · refine lv_istore_n (lv' := [(3, .int (iI (if kd = k2 ∧ r = r2 then 0 else 1))), (0, .ref t), (1, .int (iI k2)), (2, .int (iI r2))]) hx hb dX0_become_21 rfl hl (by decide) rfl (fun ls hl => ?_)
    refine lv_aload_n hx hb dX0_become_22 rfl (lv_at hl 1 rfl) ?_
    refine lv_iload_n hx hb dX0_become_23 rfl (lv_at hl 2 rfl) ?_
    refine va_put (D := (dC, dI)) (ci := 0) (v := .int (iI k2)) (ty := .int) (C := RX0) (T := TX0) (N := 3) hx hb hts inX0 tyX0 tyX0_ok nmX0 hown hK hP hD hS 0 rfl rfl 0 (by decide) (hts _ wm_135) (fun _ h9 => h9) rfl (by decide +kernel) rfl rfl (Nat.le_of_ble_eq_true rfl) dX0_become_24 (fun H locs hP hD hS => ?_)
    have hP : va_P (dC, dI) vwCl ([(t, oI 0 [.int (iI k2), .int (iI r), .ref d]), (d, aI cd 121 dp)]) H := hP
    have hD : va_D A ([(t, oI 0 [.int (iI k2), .int (iI r), .ref d]), (d, aI cd 121 dp)]) := hD
    refine lv_aload_n hx hb dX0_become_27 rfl (lv_at hl 1 rfl) ?_
    refine lv_iload_n hx hb dX0_become_28 rfl (lv_at hl 3 rfl) ?_
    refine va_put (D := (dC, dI)) (ci := 0) (v := .int (iI r2)) (ty := .int) (C := RX0) (T := TX0) (N := 3) hx hb hts inX0 tyX0 tyX0_ok nmX0 hown hK hP hD hS 0 rfl rfl 1 (by decide) (hts _ wm_136) (fun _ h9 => h9) rfl (by decide +kernel) rfl rfl (Nat.le_of_ble_eq_true rfl) dX0_become_29 (fun H locs hP hD hS => ?_)
    have hP : va_P (dC, dI) vwCl ([(t, oI 0 [.int (iI k2), .int (iI r2), .ref d]), (d, aI cd 121 dp)]) H := hP
    have hD : va_D A ([(t, oI 0 [.int (iI k2), .int (iI r2), .ref d]), (d, aI cd 121 dp)]) := hD
    refine lv_iload_n hx hb dX0_become_32 rfl (lv_at hl 3 rfl) ?_
    refine z_neg hx hb dX0_become_33 ?_
    refine z_top (b := -r2 + ((0 : Nat) : Int)) (by omega) ?_
    refine lv_istore (lv' := [(4, .int (iI (-r2 + ((0 : Nat) : Int)))), (3, .int (iI (if kd = k2 ∧ r = r2 then 0 else 1))), (0, .ref t), (1, .int (iI k2)), (2, .int (iI r2))]) hx hb dX0_become_34 hl (by decide) rfl (fun ls hl => ?_)
    refine lp_X0_become_36 t d cd k2 r2 (if kd = k2 ∧ r = r2 then 0 else 1) dp hx hb hml hown hts hA hZ hK (h3) (h4) (fun H locs ls hP hD hS hl => ?_)  ((2 * r2 + 1).toNat) 0 (by omega) _ _ _ hP hD hS (lv_sub hl [2, 3, 4, 1, 0] rfl)
    have hP : va_P (dC, dI) vwCl ([(t, oI 0 [.int (iI k2), .int (iI r2), .ref d]), (d, aI cd 121 (becF k2 r2 (2 * r2 + 1).toNat ((2 * r2 + 1).toNat) dp))]) H := hP
    have hD : va_D A ([(t, oI 0 [.int (iI k2), .int (iI r2), .ref d]), (d, aI cd 121 (becF k2 r2 (2 * r2 + 1).toNat ((2 * r2 + 1).toNat) dp))]) := hD
    have hl : lv_has ls 6 [(0, .ref t), (1, .int (iI k2)), (2, .int (iI r2)), (3, .int (iI (if kd = k2 ∧ r = r2 then 0 else 1))), (4, .int (iI (-r2 + (((2 * r2 + 1).toNat : Nat) : Int))))] := hl
    refine lv_iload_n hx hb dX0_become_91 rfl (lv_at hl 3 rfl) ?_
    subst hAe
    refine z_top (b := if kd = k2 ∧ r = r2 then 0 else 1) (rfl) ?_
    exact z_zret hx hb hr hlocks (by split <;> omega) hP hK hD hS (trivial) dX0_become_92
  · refine z_icmp_ne (tgt := 16) hx hb dX0_become_5 (by decide) (by omega) (by omega) (fun c5 => ?_) (fun c5 => ?_)
    · refine lv_iconst (v := iI 1) hx hb dX0_become_16 rfl ?_
      refine lv_goto (tgt := 21) hx hb dX0_become_17 (by decide) ?_
      exact z_top (b := if kd = k2 ∧ r = r2 then 0 else 1) (by (repeat' split) <;> omega) J21
    · refine lv_aload_n hx hb dX0_become_8 rfl (lv_at hl 0 rfl) ?_
      refine va_get (D := (dC, dI)) (ci := 0) (v := .int (iI r)) (C := RX0) (T := TX0) (N := 3) hx hb hts inX0 hown hK hP 0 rfl rfl 1 (by decide) (hts _ wm_136) (fun _ h9 => h9) rfl dX0_become_9 ?_
      refine lv_iload_n hx hb dX0_become_12 rfl (lv_at hl 2 rfl) ?_
      refine z_icmp_eq (tgt := 20) hx hb dX0_become_13 (by decide) (by omega) (by omega) (fun c13 => ?_) (fun c13 => ?_)
      · refine lv_iconst (v := iI 0) hx hb dX0_become_20 rfl ?_
        exact z_top (b := if kd = k2 ∧ r = r2 then 0 else 1) (by (repeat' split) <;> omega) J21
      · refine lv_iconst (v := iI 1) hx hb dX0_become_16 rfl ?_
        refine lv_goto (tgt := 21) hx hb dX0_become_17 (by decide) ?_
        exact z_top (b := if kd = k2 ∧ r = r2 then 0 else 1) (by (repeat' split) <;> omega) J21
