abbrev r_X0_init : Room := { frames := 1, cells := 1, slots := 121, locals := 20 }
set_option maxHeartbeats 4000000 in
set_option maxRecDepth 100000 in
theorem c_X0_init (l : Launch) (dC : Nat → ClassId) (dI : Nat → Nat → Nat) (sz : Nat) (t : Nat) : Met l yX0_init wsX0_init r_X0_init (zP (dC, dI) vwCl ([]) ([(t, oI 0 [.int 0, .int 0, .null])]) sz [.ref t]) (va_Qv (S := Nat × ClassId) (fun _ => True) (fun u t9 => zB (dC, dI) vwCl [(u.2, .int)] (va_A ([(t, oI 0 [.int 0, .int 0, .null])]) sz) (tlW t u.1 u.2 0 0 (fun _ => 0)) t9) (va_A ([(t, oI 0 [.int 0, .int 0, .null])]) sz)) 1 121 (va_A ([(t, oI 0 [.int 0, .int 0, .null])]) sz) := by
  refine Met.ofW (cc := cX0_init) (maxL := 1) (ret := none) (by decide) rfl ?_
  intro p e s m args below meth c s₁ B hml hv
  obtain ⟨rfl, hsz, hP, hK, hD0, hZ⟩ := hv
  have hx := B.exec
  have hb := B.bytes
  have hr := B.returns
  have hts0 := atoms_spec (ws := wsX0_init) B.pre
  have hts : ∀ w ∈ wsAll, w.before _ s = true := fun w h => hts0 w (List.mem_cons_of_mem _ h)
  have hown : s.vm.findClass RX0 = some m.cls := findClass_of_methodNamed B.named
  have hlocks := B.notSynchronized
  have hin : meth.name = "<init>" := (name_of_methodNamed B.named B.method).1
  subst hsz
  have hD := hD0.self (sz := s.heap.size)
  obtain ⟨A, hAe⟩ : ∃ A, A = va_A ([(t, oI 0 [.int 0, .int 0, .null])]) s.heap.size := ⟨_, rfl⟩
  rw [← hAe] at hD hZ
  have hA : ∀ q : Nat, s.heap.size ≤ q → A q := fun q h => by rw [hAe]; exact Or.inr h
  have hS : va_S A s.heap s.heap [] := va_S.rf
  have hP : va_P (dC, dI) vwCl ([(t, oI 0 [.int 0, .int 0, .null])]) s.heap := hP
  have hl := lv_entry ([.ref t]) (n := 1) (Nat.le_of_ble_eq_true rfl)
  rw [lg_entry_eq]
  generalize (lg_sl ([.ref t]) ++ List.replicate (1 - (lg_sl ([.ref t])).length) Slot.unset).toArray = ls at hl ⊢
  have hl : lv_has ls 1 [(0, .ref t)] := hl
  refine lv_aload_n hx hb dX0_init_0 rfl (lv_at hl 0 rfl) ?_
  refine W.objInit hx hb hown (hts _ wm_9) (hts _ wm_7) (hts _ wm_8) rfl (by rw [hml]; exact hl.1) rfl dX0_init_1 (Nat.le_of_ble_eq_true rfl) (Nat.le_of_ble_eq_true rfl) ?_
  refine W.eq (g2 := F0 m 4 ls []) rfl ?_
  refine lv_aload_n hx hb dX0_init_4 rfl (lv_at hl 0 rfl) ?_
  refine lv_iconst (v := iI 0) hx hb dX0_init_5 rfl ?_
  refine va_put (D := (dC, dI)) (ci := 0) (v := .int (iI 0)) (ty := .int) (C := RX0) (T := TX0) (N := 3) hx hb hts inX0 tyX0 tyX0_ok nmX0 hown hK hP hD hS 0 rfl rfl 0 (by decide) (hts _ wm_135) (fun _ h9 => h9) rfl (by decide +kernel) rfl rfl (Nat.le_of_ble_eq_true rfl) dX0_init_6 (fun H locs hP hD hS => ?_)
  have hP : va_P (dC, dI) vwCl ([(t, oI 0 [.int (iI 0), .int 0, .null])]) H := hP
  have hD : va_D A ([(t, oI 0 [.int (iI 0), .int 0, .null])]) := hD
  refine lv_aload_n hx hb dX0_init_9 rfl (lv_at hl 0 rfl) ?_
  refine lv_iconst (v := iI 0) hx hb dX0_init_10 rfl ?_
  refine va_put (D := (dC, dI)) (ci := 0) (v := .int (iI 0)) (ty := .int) (C := RX0) (T := TX0) (N := 3) hx hb hts inX0 tyX0 tyX0_ok nmX0 hown hK hP hD hS 0 rfl rfl 1 (by decide) (hts _ wm_136) (fun _ h9 => h9) rfl (by decide +kernel) rfl rfl (Nat.le_of_ble_eq_true rfl) dX0_init_11 (fun H locs hP hD hS => ?_)
  have hP : va_P (dC, dI) vwCl ([(t, oI 0 [.int (iI 0), .int (iI 0), .null])]) H := hP
  have hD : va_D A ([(t, oI 0 [.int (iI 0), .int (iI 0), .null])]) := hD
  refine lv_aload_n hx hb dX0_init_14 rfl (lv_at hl 0 rfl) ?_
  refine lv_bipush (v := iI 121) hx hb dX0_init_15 (by decide) ?_
  refine z_newa (N := 121) hx hb (hts _ wm_144) hK hP hD hS hA (rfl) (by decide) (by show _ ≤ 1; omega) (by show _ ≤ 121; omega) dX0_init_17 (fun q17 k17 H hK hP hD hS => ?_)
  have hK : va_K (dC, dI) vwCl [(k17, .int)] s := hK
  have hP : va_P (dC, dI) vwCl ([(t, oI 0 [.int (iI 0), .int (iI 0), .null]), (q17, aI k17 121 (fun _ => 0))]) H := hP
  have hD : va_D A ([(t, oI 0 [.int (iI 0), .int (iI 0), .null]), (q17, aI k17 121 (fun _ => 0))]) := hD
  refine va_putF (D := (dC, dI)) (ci := 0) (v := .ref q17) (ty := .array .int) (C := RX0) (T := TX0) (N := 3) hx hb hts inX0 tyX0 tyX0_ok nmX0 hown hK hP hD hS 0 rfl rfl 2 (by decide) (hts _ wm_137) (fun _ h9 => h9) rfl hin rfl (by decide +kernel) rfl rfl (Nat.le_of_ble_eq_true rfl) dX0_init_19 (fun H locs hP hD hS => ?_)
  have hP : va_P (dC, dI) vwCl ([(t, oI 0 [.int (iI 0), .int (iI 0), .ref q17]), (q17, aI k17 121 (fun _ => 0))]) H := hP
  have hD : va_D A ([(t, oI 0 [.int (iI 0), .int (iI 0), .ref q17]), (q17, aI k17 121 (fun _ => 0))]) := hD
  refine W.widen (k := 1) (n := 121) (by omega) (by omega) ?_
  subst hAe
  exact W.vret hx hb hr (fun t9 ht hW => ⟨⟨(q17, k17), rfl, trivial, by rw [ht]; exact hP, va_K.moved hW.alike hK, hD⟩, hS.F ht⟩) hS.2.2 dX0_init_22 hlocks
abbrev r_X1_init : Room := { frames := 1, cells := 1, slots := 2000, locals := 20 }
set_option maxHeartbeats 4000000 in
set_option maxRecDepth 100000 in
theorem c_X1_init (l : Launch) (dC : Nat → ClassId) (dI : Nat → Nat → Nat) (sz : Nat) (tr : Nat) : Met l yX1_init wsX1_init r_X1_init (zP (dC, dI) vwCl ([]) ([(tr, oI 1 [.null, .int 0, .long 0, .int 0, .int 0, .int 0])]) sz [.ref tr]) (va_Qv (S := Nat × ClassId) (fun _ => True) (fun u t9 => zB (dC, dI) vwCl [(u.2, .int)] (va_A ([(tr, oI 1 [.null, .int 0, .long 0, .int 0, .int 0, .int 0])]) sz) (tkW tr u.1 u.2 ((fun _ => 0), 0, 0, 0, 0, 0)) t9) (va_A ([(tr, oI 1 [.null, .int 0, .long 0, .int 0, .int 0, .int 0])]) sz)) 1 2000 (va_A ([(tr, oI 1 [.null, .int 0, .long 0, .int 0, .int 0, .int 0])]) sz) := by
  refine Met.ofW (cc := cX1_init) (maxL := 1) (ret := none) (by decide) rfl ?_
  intro p e s m args below meth c s₁ B hml hv
  obtain ⟨rfl, hsz, hP, hK, hD0, hZ⟩ := hv
  have hx := B.exec
  have hb := B.bytes
  have hr := B.returns
  have hts0 := atoms_spec (ws := wsX1_init) B.pre
  have hts : ∀ w ∈ wsAll, w.before _ s = true := fun w h => hts0 w (List.mem_cons_of_mem _ h)
  have hown : s.vm.findClass RX1 = some m.cls := findClass_of_methodNamed B.named
  have hlocks := B.notSynchronized
  have hin : meth.name = "<init>" := (name_of_methodNamed B.named B.method).1
  subst hsz
  have hD := hD0.self (sz := s.heap.size)
  obtain ⟨A, hAe⟩ : ∃ A, A = va_A ([(tr, oI 1 [.null, .int 0, .long 0, .int 0, .int 0, .int 0])]) s.heap.size := ⟨_, rfl⟩
  rw [← hAe] at hD hZ
  have hA : ∀ q : Nat, s.heap.size ≤ q → A q := fun q h => by rw [hAe]; exact Or.inr h
  have hS : va_S A s.heap s.heap [] := va_S.rf
  have hP : va_P (dC, dI) vwCl ([(tr, oI 1 [.null, .int 0, .long 0, .int 0, .int 0, .int 0])]) s.heap := hP
  have hl := lv_entry ([.ref tr]) (n := 1) (Nat.le_of_ble_eq_true rfl)
  rw [lg_entry_eq]
  generalize (lg_sl ([.ref tr]) ++ List.replicate (1 - (lg_sl ([.ref tr])).length) Slot.unset).toArray = ls at hl ⊢
  have hl : lv_has ls 1 [(0, .ref tr)] := hl
  refine lv_aload_n hx hb dX1_init_0 rfl (lv_at hl 0 rfl) ?_
  refine W.objInit hx hb hown (hts _ wm_11) (hts _ wm_7) (hts _ wm_8) rfl (by rw [hml]; exact hl.1) rfl dX1_init_1 (Nat.le_of_ble_eq_true rfl) (Nat.le_of_ble_eq_true rfl) ?_
  refine W.eq (g2 := F0 m 4 ls []) rfl ?_
  refine lv_aload_n hx hb dX1_init_4 rfl (lv_at hl 0 rfl) ?_
  refine lv_sipush (v := iI 2000) hx hb dX1_init_5 (by decide) ?_
  refine z_newa (N := 2000) hx hb (hts _ wm_144) hK hP hD hS hA (rfl) (by decide) (by show _ ≤ 1; omega) (by show _ ≤ 2000; omega) dX1_init_8 (fun q8 k8 H hK hP hD hS => ?_)
  have hK : va_K (dC, dI) vwCl [(k8, .int)] s := hK
  have hP : va_P (dC, dI) vwCl ([(tr, oI 1 [.null, .int 0, .long 0, .int 0, .int 0, .int 0]), (q8, aI k8 2000 (fun _ => 0))]) H := hP
  have hD : va_D A ([(tr, oI 1 [.null, .int 0, .long 0, .int 0, .int 0, .int 0]), (q8, aI k8 2000 (fun _ => 0))]) := hD
  refine va_putF (D := (dC, dI)) (ci := 1) (v := .ref q8) (ty := .array .int) (C := RX1) (T := TX1) (N := 6) hx hb hts inX1 tyX1 tyX1_ok nmX1 hown hK hP hD hS 0 rfl rfl 0 (by decide) (hts _ wm_150) (fun _ h9 => h9) rfl hin rfl (by decide +kernel) rfl rfl (Nat.le_of_ble_eq_true rfl) dX1_init_10 (fun H locs hP hD hS => ?_)
  have hP : va_P (dC, dI) vwCl ([(tr, oI 1 [.ref q8, .int 0, .long 0, .int 0, .int 0, .int 0]), (q8, aI k8 2000 (fun _ => 0))]) H := hP
  have hD : va_D A ([(tr, oI 1 [.ref q8, .int 0, .long 0, .int 0, .int 0, .int 0]), (q8, aI k8 2000 (fun _ => 0))]) := hD
  refine lv_aload_n hx hb dX1_init_13 rfl (lv_at hl 0 rfl) ?_
  refine lv_iconst (v := iI 0) hx hb dX1_init_14 rfl ?_
  refine va_put (D := (dC, dI)) (ci := 1) (v := .int (iI 0)) (ty := .int) (C := RX1) (T := TX1) (N := 6) hx hb hts inX1 tyX1 tyX1_ok nmX1 hown hK hP hD hS 0 rfl rfl 1 (by decide) (hts _ wm_151) (fun _ h9 => h9) rfl (by decide +kernel) rfl rfl (Nat.le_of_ble_eq_true rfl) dX1_init_15 (fun H locs hP hD hS => ?_)
  have hP : va_P (dC, dI) vwCl ([(tr, oI 1 [.ref q8, .int (iI 0), .long 0, .int 0, .int 0, .int 0]), (q8, aI k8 2000 (fun _ => 0))]) H := hP
  have hD : va_D A ([(tr, oI 1 [.ref q8, .int (iI 0), .long 0, .int 0, .int 0, .int 0]), (q8, aI k8 2000 (fun _ => 0))]) := hD
  refine lv_aload_n hx hb dX1_init_18 rfl (lv_at hl 0 rfl) ?_
  refine lv_lconst (v := lI 0) hx hb dX1_init_19 (by decide) ?_
  refine va_put (D := (dC, dI)) (ci := 1) (v := .long (lI 0)) (ty := .long) (C := RX1) (T := TX1) (N := 6) hx hb hts inX1 tyX1 tyX1_ok nmX1 hown hK hP hD hS 0 rfl rfl 2 (by decide) (hts _ wm_152) (fun _ h9 => h9) rfl (by decide +kernel) rfl rfl (Nat.le_of_ble_eq_true rfl) dX1_init_20 (fun H locs hP hD hS => ?_)
  have hP : va_P (dC, dI) vwCl ([(tr, oI 1 [.ref q8, .int (iI 0), .long (lI 0), .int 0, .int 0, .int 0]), (q8, aI k8 2000 (fun _ => 0))]) H := hP
  have hD : va_D A ([(tr, oI 1 [.ref q8, .int (iI 0), .long (lI 0), .int 0, .int 0, .int 0]), (q8, aI k8 2000 (fun _ => 0))]) := hD
  refine lv_aload_n hx hb dX1_init_23 rfl (lv_at hl 0 rfl) ?_
  refine lv_iconst (v := iI 0) hx hb dX1_init_24 rfl ?_
  refine va_put (D := (dC, dI)) (ci := 1) (v := .int (iI 0)) (ty := .int) (C := RX1) (T := TX1) (N := 6) hx hb hts inX1 tyX1 tyX1_ok nmX1 hown hK hP hD hS 0 rfl rfl 3 (by decide) (hts _ wm_153) (fun _ h9 => h9) rfl (by decide +kernel) rfl rfl (Nat.le_of_ble_eq_true rfl) dX1_init_25 (fun H locs hP hD hS => ?_)
  have hP : va_P (dC, dI) vwCl ([(tr, oI 1 [.ref q8, .int (iI 0), .long (lI 0), .int (iI 0), .int 0, .int 0]), (q8, aI k8 2000 (fun _ => 0))]) H := hP
  have hD : va_D A ([(tr, oI 1 [.ref q8, .int (iI 0), .long (lI 0), .int (iI 0), .int 0, .int 0]), (q8, aI k8 2000 (fun _ => 0))]) := hD
  refine lv_aload_n hx hb dX1_init_28 rfl (lv_at hl 0 rfl) ?_
  refine lv_iconst (v := iI 0) hx hb dX1_init_29 rfl ?_
  refine va_put (D := (dC, dI)) (ci := 1) (v := .int (iI 0)) (ty := .int) (C := RX1) (T := TX1) (N := 6) hx hb hts inX1 tyX1 tyX1_ok nmX1 hown hK hP hD hS 0 rfl rfl 4 (by decide) (hts _ wm_154) (fun _ h9 => h9) rfl (by decide +kernel) rfl rfl (Nat.le_of_ble_eq_true rfl) dX1_init_30 (fun H locs hP hD hS => ?_)
  have hP : va_P (dC, dI) vwCl ([(tr, oI 1 [.ref q8, .int (iI 0), .long (lI 0), .int (iI 0), .int (iI 0), .int 0]), (q8, aI k8 2000 (fun _ => 0))]) H := hP
  have hD : va_D A ([(tr, oI 1 [.ref q8, .int (iI 0), .long (lI 0), .int (iI 0), .int (iI 0), .int 0]), (q8, aI k8 2000 (fun _ => 0))]) := hD
  refine lv_aload_n hx hb dX1_init_33 rfl (lv_at hl 0 rfl) ?_
  refine lv_iconst (v := iI 0) hx hb dX1_init_34 rfl ?_
  refine va_put (D := (dC, dI)) (ci := 1) (v := .int (iI 0)) (ty := .int) (C := RX1) (T := TX1) (N := 6) hx hb hts inX1 tyX1 tyX1_ok nmX1 hown hK hP hD hS 0 rfl rfl 5 (by decide) (hts _ wm_155) (fun _ h9 => h9) rfl (by decide +kernel) rfl rfl (Nat.le_of_ble_eq_true rfl) dX1_init_35 (fun H locs hP hD hS => ?_)
  have hP : va_P (dC, dI) vwCl ([(tr, oI 1 [.ref q8, .int (iI 0), .long (lI 0), .int (iI 0), .int (iI 0), .int (iI 0)]), (q8, aI k8 2000 (fun _ => 0))]) H := hP
  have hD : va_D A ([(tr, oI 1 [.ref q8, .int (iI 0), .long (lI 0), .int (iI 0), .int (iI 0), .int (iI 0)]), (q8, aI k8 2000 (fun _ => 0))]) := hD
  refine W.widen (k := 1) (n := 2000) (by omega) (by omega) ?_
  subst hAe
  exact W.vret hx hb hr (fun t9 ht hW => ⟨⟨(q8, k8), rfl, trivial, by rw [ht]; exact hP, va_K.moved hW.alike hK, hD⟩, hS.F ht⟩) hS.2.2 dX1_init_38 hlocks
theorem g_X3_38 : GoodIn wsAll (va_wsS RX3 38 yX3_nearest wsX3_nearest) := z_good (show ∀ w ∈ (Cond.methodLink RX3 38 yX3_nearest :: Cond.static yX3_nearest :: Cond.initialized RX3 :: Cond.code yX3_nearest prog_5_method_2_code 1 (some .int) :: wsAll), w ∈ wsAll from List.forall_mem_cons.mpr ⟨wm_400, List.forall_mem_cons.mpr ⟨wm_401, List.forall_mem_cons.mpr ⟨wm_114, List.forall_mem_cons.mpr ⟨wm_402, fun _ h => h⟩⟩⟩⟩)
abbrev r_X3_init : Room := { frames := 1, cells := 8, slots := 8008, locals := 20 }
set_option maxHeartbeats 4000000 in
set_option maxRecDepth 100000 in
theorem lp_X3_init_97 {p : Program} {l : Launch} {e : Env} {s : State} {m : MethodId} {args : Array Value} {below : List Frame} {meth : Method} {c : Code} {Q : State → Prop} {A : Nat → Prop} {dC : Nat → ClassId} {dI : Nat → Nat → Nat} (x q1 q2 q3 q4 q5 q6 q7 q8 : Nat) (k1 k2 k3 k4 k5 k6 k7 k8 : ClassId) (n1 n2 : Int) (hx : p.tables.exec = Jvm.exec) (hb : c.code = cX3_init) (hml : c.maxLocals = 4) (hown : s.vm.findClass RX3 = some m.cls) (hts : ∀ w ∈ wsAll, w.before args s = true) (hA : ∀ q : Nat, s.heap.size ≤ q → A q) (hZ : zZ A s s.heap) (hK : va_K (dC, dI) vwCl ([(k1, .int), (k2, .int), (k3, .int), (k4, .int), (k5, .int), (k6, .int), (k7, .int), (k8, .int)]) s) (kk : ∀ (H : Heap) (locs : List Loc) (ls : Array Slot), va_P (dC, dI) vwCl ([(x, oI 3 [.int 0, .int (iI ((wN n1 : Nat) : Int)), .int (iI ((wN n2 : Nat) : Int)), .ref q1, .ref q2, .ref q3, .int 0, .int (iI 1000), .ref q4, .ref q5, .ref q6, .ref q7, .int 0, .ref q8, .long 0, .int 0, .int 0, .int 0]), (q1, aI k1 400 (fun _ => 0)), (q2, aI k2 400 (flF 1000 400 (fun _ => 0))), (q3, aI k3 400 (fun _ => 0)), (q4, aI k4 4 (fun _ => 0)), (q5, aI k5 4 (fun _ => 0)), (q6, aI k6 400 (fun _ => 0)), (q7, aI k7 400 (fun _ => 0)), (q8, aI k8 6000 (fun _ => 0))]) H → va_D A ([(x, oI 3 [.int 0, .int (iI ((wN n1 : Nat) : Int)), .int (iI ((wN n2 : Nat) : Int)), .ref q1, .ref q2, .ref q3, .int 0, .int (iI 1000), .ref q4, .ref q5, .ref q6, .ref q7, .int 0, .ref q8, .long 0, .int 0, .int 0, .int 0]), (q1, aI k1 400 (fun _ => 0)), (q2, aI k2 400 (flF 1000 400 (fun _ => 0))), (q3, aI k3 400 (fun _ => 0)), (q4, aI k4 4 (fun _ => 0)), (q5, aI k5 4 (fun _ => 0)), (q6, aI k6 400 (fun _ => 0)), (q7, aI k7 400 (fun _ => 0)), (q8, aI k8 6000 (fun _ => 0))]) → va_S A s.heap H locs → lv_has ls 4 [(0, .ref x), (3, .int (iI ((400 : Nat) : Int)))] → W p l e r_X3_init s m args below meth c H locs 8 8008 Q (F0 m 119 ls [])) : ∀ (n i : Nat), i + n = 400 → ∀ (H : Heap) (locs : List Loc) (ls : Array Slot), va_P (dC, dI) vwCl ([(x, oI 3 [.int 0, .int (iI ((wN n1 : Nat) : Int)), .int (iI ((wN n2 : Nat) : Int)), .ref q1, .ref q2, .ref q3, .int 0, .int (iI 1000), .ref q4, .ref q5, .ref q6, .ref q7, .int 0, .ref q8, .long 0, .int 0, .int 0, .int 0]), (q1, aI k1 400 (fun _ => 0)), (q2, aI k2 400 (flF 1000 i (fun _ => 0))), (q3, aI k3 400 (fun _ => 0)), (q4, aI k4 4 (fun _ => 0)), (q5, aI k5 4 (fun _ => 0)), (q6, aI k6 400 (fun _ => 0)), (q7, aI k7 400 (fun _ => 0)), (q8, aI k8 6000 (fun _ => 0))]) H → va_D A ([(x, oI 3 [.int 0, .int (iI ((wN n1 : Nat) : Int)), .int (iI ((wN n2 : Nat) : Int)), .ref q1, .ref q2, .ref q3, .int 0, .int (iI 1000), .ref q4, .ref q5, .ref q6, .ref q7, .int 0, .ref q8, .long 0, .int 0, .int 0, .int 0]), (q1, aI k1 400 (fun _ => 0)), (q2, aI k2 400 (flF 1000 i (fun _ => 0))), (q3, aI k3 400 (fun _ => 0)), (q4, aI k4 4 (fun _ => 0)), (q5, aI k5 4 (fun _ => 0)), (q6, aI k6 400 (fun _ => 0)), (q7, aI k7 400 (fun _ => 0)), (q8, aI k8 6000 (fun _ => 0))]) → va_S A s.heap H locs → lv_has ls 4 [(0, .ref x), (3, .int (iI ((i : Nat) : Int)))] → W p l e r_X3_init s m args below meth c H locs 8 8008 Q (F0 m 97 ls []) := by
  intro n
  induction n with
  | zero =>
    intro i hi H locs ls hP hD hS hl
    have hi9 : 400 = i := by omega
    subst hi9
    refine lv_iload_n hx hb dX3_init_97 rfl (lv_at hl 1 rfl) ?_
    refine lv_sipush (v := iI 400) hx hb dX3_init_98 (by decide) ?_
    refine z_icmp_ge (tgt := 119) hx hb dX3_init_101 (by decide) (by omega) (by omega) (fun c101 => ?_) (fun c101 => by exfalso; omega)
    exact kk _ _ _ hP hD hS (lv_sub hl [0, 1] rfl)
  | succ n ih =>
    intro i hi H locs ls hP hD hS hl
    refine lv_iload_n hx hb dX3_init_97 rfl (lv_at hl 1 rfl) ?_
    refine lv_sipush (v := iI 400) hx hb dX3_init_98 (by decide) ?_
    refine z_icmp_ge (tgt := 119) hx hb dX3_init_101 (by decide) (by omega) (by omega) (fun c101 => by exfalso; omega) (fun c101 => ?_)
    refine lv_aload_n hx hb dX3_init_104 rfl (lv_at hl 0 rfl) ?_
    refine va_get (D := (dC, dI)) (ci := 3) (v := .ref q2) (C := RX3) (T := TX3) (N := 18) hx hb hts inX3 hown hK hP 0 rfl rfl 4 (by decide) (hts _ wm_407) (fun _ h9 => h9) rfl dX3_init_105 ?_
    refine lv_iload_n hx hb dX3_init_108 rfl (lv_at hl 1 rfl) ?_
    refine lv_sipush (v := iI 1000) hx hb dX3_init_109 (by decide) ?_
    refine z_iast (f := flF 1000 i (fun _ => 0)) (i := ((i : Nat) : Int)) (x := 1000) hx hb hK hP hD hS 2 1 rfl rfl (by omega) (by decide) dX3_init_112 (fun H locs hP hD hS => ?_)
    have hP : va_P (dC, dI) vwCl ([(x, oI 3 [.int 0, .int (iI ((wN n1 : Nat) : Int)), .int (iI ((wN n2 : Nat) : Int)), .ref q1, .ref q2, .ref q3, .int 0, .int (iI 1000), .ref q4, .ref q5, .ref q6, .ref q7, .int 0, .ref q8, .long 0, .int 0, .int 0, .int 0]), (q1, aI k1 400 (fun _ => 0)), (q2, aI k2 400 (uI (flF 1000 i (fun _ => 0)) (((i : Nat) : Int)).toNat 1000)), (q3, aI k3 400 (fun _ => 0)), (q4, aI k4 4 (fun _ => 0)), (q5, aI k5 4 (fun _ => 0)), (q6, aI k6 400 (fun _ => 0)), (q7, aI k7 400 (fun _ => 0)), (q8, aI k8 6000 (fun _ => 0))]) H := hP
    have hD : va_D A ([(x, oI 3 [.int 0, .int (iI ((wN n1 : Nat) : Int)), .int (iI ((wN n2 : Nat) : Int)), .ref q1, .ref q2, .ref q3, .int 0, .int (iI 1000), .ref q4, .ref q5, .ref q6, .ref q7, .int 0, .ref q8, .long 0, .int 0, .int 0, .int 0]), (q1, aI k1 400 (fun _ => 0)), (q2, aI k2 400 (uI (flF 1000 i (fun _ => 0)) (((i : Nat) : Int)).toNat 1000)), (q3, aI k3 400 (fun _ => 0)), (q4, aI k4 4 (fun _ => 0)), (q5, aI k5 4 (fun _ => 0)), (q6, aI k6 400 (fun _ => 0)), (q7, aI k7 400 (fun _ => 0)), (q8, aI k8 6000 (fun _ => 0))]) := hD
    refine lv_iinc (v := iI (((i + 1) : Nat) : Int)) (lv' := [(3, .int (iI (((i + 1) : Nat) : Int))), (0, .ref x)]) hx hb dX3_init_113 hl (k := 1) rfl ((iI_add _ _).trans (congrArg iI (by omega))) (by decide) rfl (fun ls hl => ?_)
    refine lv_goto (tgt := 97) hx hb dX3_init_116 (by decide) ?_
    exact ih (i + 1) (by omega) _ _ _ hP hD hS (lv_sub hl [1, 0] rfl)
set_option maxHeartbeats 4000000 in
set_option maxRecDepth 100000 in
theorem c_X3_init (l : Launch) (dC : Nat → ClassId) (dI : Nat → Nat → Nat) (sz : Nat) (x : Nat) (n1 n2 : Int) (h1 : rg n1) (h2 : rg n2) : Met l yX3_init wsX3_init r_X3_init (zP (dC, dI) vwCl ([]) ([(x, oI 3 [.int 0, .int 0, .int 0, .null, .null, .null, .int 0, .int 0, .null, .null, .null, .null, .int 0, .null, .long 0, .int 0, .int 0, .int 0])]) sz [.ref x, .int (iI n1), .int (iI n2)]) (va_Qv (S := (Nat → Nat) × (Nat → ClassId)) (fun u => u.1 0 = x) (fun u t9 => zB (dC, dI) vwCl (mdT u.2) (va_A ([(x, oI 3 [.int 0, .int 0, .int 0, .null, .null, .null, .int 0, .int 0, .null, .null, .null, .null, .int 0, .null, .long 0, .int 0, .int 0, .int 0])]) sz) (mdW u.1 u.2 (wN n1) (wN n2) 0 (fun _ => 0) (flF 1000 400 (fun _ => 0)) (fun _ => 0) 0 1000 (fun _ => 0) (fun _ => 0) (fun _ => 0) ((fun _ => 0), (fun _ => 0), 0, 0, 0, 0, 0)) t9) (va_A ([(x, oI 3 [.int 0, .int 0, .int 0, .null, .null, .null, .int 0, .int 0, .null, .null, .null, .null, .int 0, .null, .long 0, .int 0, .int 0, .int 0])]) sz)) 8 8008 (va_A ([(x, oI 3 [.int 0, .int 0, .int 0, .null, .null, .null, .int 0, .int 0, .null, .null, .null, .null, .int 0, .null, .long 0, .int 0, .int 0, .int 0])]) sz) := by
  refine Met.ofW (cc := cX3_init) (maxL := 4) (ret := none) (by decide) rfl ?_
  intro p e s m args below meth c s₁ B hml hv
  obtain ⟨rfl, hsz, hP, hK, hD0, hZ⟩ := hv
  have hx := B.exec
  have hb := B.bytes
  have hr := B.returns
  have hts0 := atoms_spec (ws := wsX3_init) B.pre
  have hts : ∀ w ∈ wsAll, w.before _ s = true := fun w h => hts0 w (List.mem_cons_of_mem _ h)
  have hown : s.vm.findClass RX3 = some m.cls := findClass_of_methodNamed B.named
  have hlocks := B.notSynchronized
  have hin : meth.name = "<init>" := (name_of_methodNamed B.named B.method).1
  subst hsz
  have hD := hD0.self (sz := s.heap.size)
  obtain ⟨A, hAe⟩ : ∃ A, A = va_A ([(x, oI 3 [.int 0, .int 0, .int 0, .null, .null, .null, .int 0, .int 0, .null, .null, .null, .null, .int 0, .null, .long 0, .int 0, .int 0, .int 0])]) s.heap.size := ⟨_, rfl⟩
  rw [← hAe] at hD hZ
  have hA : ∀ q : Nat, s.heap.size ≤ q → A q := fun q h => by rw [hAe]; exact Or.inr h
  have hS : va_S A s.heap s.heap [] := va_S.rf
  have hP : va_P (dC, dI) vwCl ([(x, oI 3 [.int 0, .int 0, .int 0, .null, .null, .null, .int 0, .int 0, .null, .null, .null, .null, .int 0, .null, .long 0, .int 0, .int 0, .int 0])]) s.heap := hP
  have hl := lv_entry ([.ref x, .int (iI n1), .int (iI n2)]) (n := 4) (Nat.le_of_ble_eq_true rfl)
  rw [lg_entry_eq]
  generalize (lg_sl ([.ref x, .int (iI n1), .int (iI n2)]) ++ List.replicate (4 - (lg_sl ([.ref x, .int (iI n1), .int (iI n2)])).length) Slot.unset).toArray = ls at hl ⊢
  have hl : lv_has ls 4 [(0, .ref x), (1, .int (iI n1)), (2, .int (iI n2))] := hl
  refine lv_aload_n hx hb dX3_init_0 rfl (lv_at hl 0 rfl) ?_
  refine W.objInit hx hb hown (hts _ wm_104) (hts _ wm_7) (hts _ wm_8) rfl (by rw [hml]; exact hl.1) rfl dX3_init_1 (Nat.le_of_ble_eq_true rfl) (Nat.le_of_ble_eq_true rfl) ?_
  refine W.eq (g2 := F0 m 4 ls []) rfl ?_
  refine lv_aload_n hx hb dX3_init_4 rfl (lv_at hl 0 rfl) ?_
  refine lv_sipush (v := iI 400) hx hb dX3_init_5 (by decide) ?_
  refine z_newa (N := 400) hx hb (hts _ wm_144) hK hP hD hS hA (rfl) (by decide) (by show _ ≤ 8; omega) (by show _ ≤ 8008; omega) dX3_init_8 (fun q8 k8 H hK hP hD hS => ?_)
  have hK : va_K (dC, dI) vwCl [(k8, .int)] s := hK
  have hP : va_P (dC, dI) vwCl ([(x, oI 3 [.int 0, .int 0, .int 0, .null, .null, .null, .int 0, .int 0, .null, .null, .null, .null, .int 0, .null, .long 0, .int 0, .int 0, .int 0]), (q8, aI k8 400 (fun _ => 0))]) H := hP
  have hD : va_D A ([(x, oI 3 [.int 0, .int 0, .int 0, .null, .null, .null, .int 0, .int 0, .null, .null, .null, .null, .int 0, .null, .long 0, .int 0, .int 0, .int 0]), (q8, aI k8 400 (fun _ => 0))]) := hD
  refine va_putF (D := (dC, dI)) (ci := 3) (v := .ref q8) (ty := .array .int) (C := RX3) (T := TX3) (N := 18) hx hb hts inX3 tyX3 tyX3_ok nmX3 hown hK hP hD hS 0 rfl rfl 3 (by decide) (hts _ wm_406) (fun _ h9 => h9) rfl hin rfl (by decide +kernel) rfl rfl (Nat.le_of_ble_eq_true rfl) dX3_init_10 (fun H locs hP hD hS => ?_)
  have hP : va_P (dC, dI) vwCl ([(x, oI 3 [.int 0, .int 0, .int 0, .ref q8, .null, .null, .int 0, .int 0, .null, .null, .null, .null, .int 0, .null, .long 0, .int 0, .int 0, .int 0]), (q8, aI k8 400 (fun _ => 0))]) H := hP
  have hD : va_D A ([(x, oI 3 [.int 0, .int 0, .int 0, .ref q8, .null, .null, .int 0, .int 0, .null, .null, .null, .null, .int 0, .null, .long 0, .int 0, .int 0, .int 0]), (q8, aI k8 400 (fun _ => 0))]) := hD
  refine lv_aload_n hx hb dX3_init_13 rfl (lv_at hl 0 rfl) ?_
  refine lv_sipush (v := iI 400) hx hb dX3_init_14 (by decide) ?_
  refine z_newa (N := 400) hx hb (hts _ wm_144) hK hP hD hS hA (rfl) (by decide) (by show _ ≤ 8; omega) (by show _ ≤ 8008; omega) dX3_init_17 (fun q17 k17 H hK hP hD hS => ?_)
  have hK : va_K (dC, dI) vwCl [(k8, .int), (k17, .int)] s := hK
  have hP : va_P (dC, dI) vwCl ([(x, oI 3 [.int 0, .int 0, .int 0, .ref q8, .null, .null, .int 0, .int 0, .null, .null, .null, .null, .int 0, .null, .long 0, .int 0, .int 0, .int 0]), (q8, aI k8 400 (fun _ => 0)), (q17, aI k17 400 (fun _ => 0))]) H := hP
  have hD : va_D A ([(x, oI 3 [.int 0, .int 0, .int 0, .ref q8, .null, .null, .int 0, .int 0, .null, .null, .null, .null, .int 0, .null, .long 0, .int 0, .int 0, .int 0]), (q8, aI k8 400 (fun _ => 0)), (q17, aI k17 400 (fun _ => 0))]) := hD
  refine va_putF (D := (dC, dI)) (ci := 3) (v := .ref q17) (ty := .array .int) (C := RX3) (T := TX3) (N := 18) hx hb hts inX3 tyX3 tyX3_ok nmX3 hown hK hP hD hS 0 rfl rfl 4 (by decide) (hts _ wm_407) (fun _ h9 => h9) rfl hin rfl (by decide +kernel) rfl rfl (Nat.le_of_ble_eq_true rfl) dX3_init_19 (fun H locs hP hD hS => ?_)
  have hP : va_P (dC, dI) vwCl ([(x, oI 3 [.int 0, .int 0, .int 0, .ref q8, .ref q17, .null, .int 0, .int 0, .null, .null, .null, .null, .int 0, .null, .long 0, .int 0, .int 0, .int 0]), (q8, aI k8 400 (fun _ => 0)), (q17, aI k17 400 (fun _ => 0))]) H := hP
  have hD : va_D A ([(x, oI 3 [.int 0, .int 0, .int 0, .ref q8, .ref q17, .null, .int 0, .int 0, .null, .null, .null, .null, .int 0, .null, .long 0, .int 0, .int 0, .int 0]), (q8, aI k8 400 (fun _ => 0)), (q17, aI k17 400 (fun _ => 0))]) := hD
  refine lv_aload_n hx hb dX3_init_22 rfl (lv_at hl 0 rfl) ?_
  refine lv_sipush (v := iI 400) hx hb dX3_init_23 (by decide) ?_
  refine z_newa (N := 400) hx hb (hts _ wm_144) hK hP hD hS hA (rfl) (by decide) (by show _ ≤ 8; omega) (by show _ ≤ 8008; omega) dX3_init_26 (fun q26 k26 H hK hP hD hS => ?_)
  have hK : va_K (dC, dI) vwCl [(k8, .int), (k17, .int), (k26, .int)] s := hK
  have hP : va_P (dC, dI) vwCl ([(x, oI 3 [.int 0, .int 0, .int 0, .ref q8, .ref q17, .null, .int 0, .int 0, .null, .null, .null, .null, .int 0, .null, .long 0, .int 0, .int 0, .int 0]), (q8, aI k8 400 (fun _ => 0)), (q17, aI k17 400 (fun _ => 0)), (q26, aI k26 400 (fun _ => 0))]) H := hP
  have hD : va_D A ([(x, oI 3 [.int 0, .int 0, .int 0, .ref q8, .ref q17, .null, .int 0, .int 0, .null, .null, .null, .null, .int 0, .null, .long 0, .int 0, .int 0, .int 0]), (q8, aI k8 400 (fun _ => 0)), (q17, aI k17 400 (fun _ => 0)), (q26, aI k26 400 (fun _ => 0))]) := hD
  refine va_putF (D := (dC, dI)) (ci := 3) (v := .ref q26) (ty := .array .int) (C := RX3) (T := TX3) (N := 18) hx hb hts inX3 tyX3 tyX3_ok nmX3 hown hK hP hD hS 0 rfl rfl 5 (by decide) (hts _ wm_408) (fun _ h9 => h9) rfl hin rfl (by decide +kernel) rfl rfl (Nat.le_of_ble_eq_true rfl) dX3_init_28 (fun H locs hP hD hS => ?_)
  have hP : va_P (dC, dI) vwCl ([(x, oI 3 [.int 0, .int 0, .int 0, .ref q8, .ref q17, .ref q26, .int 0, .int 0, .null, .null, .null, .null, .int 0, .null, .long 0, .int 0, .int 0, .int 0]), (q8, aI k8 400 (fun _ => 0)), (q17, aI k17 400 (fun _ => 0)), (q26, aI k26 400 (fun _ => 0))]) H := hP
  have hD : va_D A ([(x, oI 3 [.int 0, .int 0, .int 0, .ref q8, .ref q17, .ref q26, .int 0, .int 0, .null, .null, .null, .null, .int 0, .null, .long 0, .int 0, .int 0, .int 0]), (q8, aI k8 400 (fun _ => 0)), (q17, aI k17 400 (fun _ => 0)), (q26, aI k26 400 (fun _ => 0))]) := hD
  refine lv_aload_n hx hb dX3_init_31 rfl (lv_at hl 0 rfl) ?_
  refine lv_sipush (v := iI 1000) hx hb dX3_init_32 (by decide) ?_
  refine va_put (D := (dC, dI)) (ci := 3) (v := .int (iI 1000)) (ty := .int) (C := RX3) (T := TX3) (N := 18) hx hb hts inX3 tyX3 tyX3_ok nmX3 hown hK hP hD hS 0 rfl rfl 7 (by decide) (hts _ wm_410) (fun _ h9 => h9) rfl (by decide +kernel) rfl rfl (Nat.le_of_ble_eq_true rfl) dX3_init_35 (fun H locs hP hD hS => ?_)
  have hP : va_P (dC, dI) vwCl ([(x, oI 3 [.int 0, .int 0, .int 0, .ref q8, .ref q17, .ref q26, .int 0, .int (iI 1000), .null, .null, .null, .null, .int 0, .null, .long 0, .int 0, .int 0, .int 0]), (q8, aI k8 400 (fun _ => 0)), (q17, aI k17 400 (fun _ => 0)), (q26, aI k26 400 (fun _ => 0))]) H := hP
  have hD : va_D A ([(x, oI 3 [.int 0, .int 0, .int 0, .ref q8, .ref q17, .ref q26, .int 0, .int (iI 1000), .null, .null, .null, .null, .int 0, .null, .long 0, .int 0, .int 0, .int 0]), (q8, aI k8 400 (fun _ => 0)), (q17, aI k17 400 (fun _ => 0)), (q26, aI k26 400 (fun _ => 0))]) := hD
  refine lv_aload_n hx hb dX3_init_38 rfl (lv_at hl 0 rfl) ?_
  refine lv_iconst (v := iI 4) hx hb dX3_init_39 rfl ?_
  refine z_newa (N := 4) hx hb (hts _ wm_144) hK hP hD hS hA (rfl) (by decide) (by show _ ≤ 8; omega) (by show _ ≤ 8008; omega) dX3_init_40 (fun q40 k40 H hK hP hD hS => ?_)
  have hK : va_K (dC, dI) vwCl [(k8, .int), (k17, .int), (k26, .int), (k40, .int)] s := hK
  have hP : va_P (dC, dI) vwCl ([(x, oI 3 [.int 0, .int 0, .int 0, .ref q8, .ref q17, .ref q26, .int 0, .int (iI 1000), .null, .null, .null, .null, .int 0, .null, .long 0, .int 0, .int 0, .int 0]), (q8, aI k8 400 (fun _ => 0)), (q17, aI k17 400 (fun _ => 0)), (q26, aI k26 400 (fun _ => 0)), (q40, aI k40 4 (fun _ => 0))]) H := hP
  have hD : va_D A ([(x, oI 3 [.int 0, .int 0, .int 0, .ref q8, .ref q17, .ref q26, .int 0, .int (iI 1000), .null, .null, .null, .null, .int 0, .null, .long 0, .int 0, .int 0, .int 0]), (q8, aI k8 400 (fun _ => 0)), (q17, aI k17 400 (fun _ => 0)), (q26, aI k26 400 (fun _ => 0)), (q40, aI k40 4 (fun _ => 0))]) := hD
  refine va_putF (D := (dC, dI)) (ci := 3) (v := .ref q40) (ty := .array .int) (C := RX3) (T := TX3) (N := 18) hx hb hts inX3 tyX3 tyX3_ok nmX3 hown hK hP hD hS 0 rfl rfl 8 (by decide) (hts _ wm_411) (fun _ h9 => h9) rfl hin rfl (by decide +kernel) rfl rfl (Nat.le_of_ble_eq_true rfl) dX3_init_42 (fun H locs hP hD hS => ?_)
  have hP : va_P (dC, dI) vwCl ([(x, oI 3 [.int 0, .int 0, .int 0, .ref q8, .ref q17, .ref q26, .int 0, .int (iI 1000), .ref q40, .null, .null, .null, .int 0, .null, .long 0, .int 0, .int 0, .int 0]), (q8, aI k8 400 (fun _ => 0)), (q17, aI k17 400 (fun _ => 0)), (q26, aI k26 400 (fun _ => 0)), (q40, aI k40 4 (fun _ => 0))]) H := hP
  have hD : va_D A ([(x, oI 3 [.int 0, .int 0, .int 0, .ref q8, .ref q17, .ref q26, .int 0, .int (iI 1000), .ref q40, .null, .null, .null, .int 0, .null, .long 0, .int 0, .int 0, .int 0]), (q8, aI k8 400 (fun _ => 0)), (q17, aI k17 400 (fun _ => 0)), (q26, aI k26 400 (fun _ => 0)), (q40, aI k40 4 (fun _ => 0))]) := hD
  refine lv_aload_n hx hb dX3_init_45 rfl (lv_at hl 0 rfl) ?_
  refine lv_iconst (v := iI 4) hx hb dX3_init_46 rfl ?_
  refine z_newa (N := 4) hx hb (hts _ wm_144) hK hP hD hS hA (rfl) (by decide) (by show _ ≤ 8; omega) (by show _ ≤ 8008; omega) dX3_init_47 (fun q47 k47 H hK hP hD hS => ?_)
  have hK : va_K (dC, dI) vwCl [(k8, .int), (k17, .int), (k26, .int), (k40, .int), (k47, .int)] s := hK
  have hP : va_P (dC, dI) vwCl ([(x, oI 3 [.int 0, .int 0, .int 0, .ref q8, .ref q17, .ref q26, .int 0, .int (iI 1000), .ref q40, .null, .null, .null, .int 0, .null, .long 0, .int 0, .int 0, .int 0]), (q8, aI k8 400 (fun _ => 0)), (q17, aI k17 400 (fun _ => 0)), (q26, aI k26 400 (fun _ => 0)), (q40, aI k40 4 (fun _ => 0)), (q47, aI k47 4 (fun _ => 0))]) H := hP
  have hD : va_D A ([(x, oI 3 [.int 0, .int 0, .int 0, .ref q8, .ref q17, .ref q26, .int 0, .int (iI 1000), .ref q40, .null, .null, .null, .int 0, .null, .long 0, .int 0, .int 0, .int 0]), (q8, aI k8 400 (fun _ => 0)), (q17, aI k17 400 (fun _ => 0)), (q26, aI k26 400 (fun _ => 0)), (q40, aI k40 4 (fun _ => 0)), (q47, aI k47 4 (fun _ => 0))]) := hD
  refine va_putF (D := (dC, dI)) (ci := 3) (v := .ref q47) (ty := .array .int) (C := RX3) (T := TX3) (N := 18) hx hb hts inX3 tyX3 tyX3_ok nmX3 hown hK hP hD hS 0 rfl rfl 9 (by decide) (hts _ wm_412) (fun _ h9 => h9) rfl hin rfl (by decide +kernel) rfl rfl (Nat.le_of_ble_eq_true rfl) dX3_init_49 (fun H locs hP hD hS => ?_)
  have hP : va_P (dC, dI) vwCl ([(x, oI 3 [.int 0, .int 0, .int 0, .ref q8, .ref q17, .ref q26, .int 0, .int (iI 1000), .ref q40, .ref q47, .null, .null, .int 0, .null, .long 0, .int 0, .int 0, .int 0]), (q8, aI k8 400 (fun _ => 0)), (q17, aI k17 400 (fun _ => 0)), (q26, aI k26 400 (fun _ => 0)), (q40, aI k40 4 (fun _ => 0)), (q47, aI k47 4 (fun _ => 0))]) H := hP
  have hD : va_D A ([(x, oI 3 [.int 0, .int 0, .int 0, .ref q8, .ref q17, .ref q26, .int 0, .int (iI 1000), .ref q40, .ref q47, .null, .null, .int 0, .null, .long 0, .int 0, .int 0, .int 0]), (q8, aI k8 400 (fun _ => 0)), (q17, aI k17 400 (fun _ => 0)), (q26, aI k26 400 (fun _ => 0)), (q40, aI k40 4 (fun _ => 0)), (q47, aI k47 4 (fun _ => 0))]) := hD
  refine lv_aload_n hx hb dX3_init_52 rfl (lv_at hl 0 rfl) ?_
  refine lv_sipush (v := iI 400) hx hb dX3_init_53 (by decide) ?_
  refine z_newa (N := 400) hx hb (hts _ wm_144) hK hP hD hS hA (rfl) (by decide) (by show _ ≤ 8; omega) (by show _ ≤ 8008; omega) dX3_init_56 (fun q56 k56 H hK hP hD hS => ?_)
  have hK : va_K (dC, dI) vwCl [(k8, .int), (k17, .int), (k26, .int), (k40, .int), (k47, .int), (k56, .int)] s := hK
  have hP : va_P (dC, dI) vwCl ([(x, oI 3 [.int 0, .int 0, .int 0, .ref q8, .ref q17, .ref q26, .int 0, .int (iI 1000), .ref q40, .ref q47, .null, .null, .int 0, .null, .long 0, .int 0, .int 0, .int 0]), (q8, aI k8 400 (fun _ => 0)), (q17, aI k17 400 (fun _ => 0)), (q26, aI k26 400 (fun _ => 0)), (q40, aI k40 4 (fun _ => 0)), (q47, aI k47 4 (fun _ => 0)), (q56, aI k56 400 (fun _ => 0))]) H := hP
  have hD : va_D A ([(x, oI 3 [.int 0, .int 0, .int 0, .ref q8, .ref q17, .ref q26, .int 0, .int (iI 1000), .ref q40, .ref q47, .null, .null, .int 0, .null, .long 0, .int 0, .int 0, .int 0]), (q8, aI k8 400 (fun _ => 0)), (q17, aI k17 400 (fun _ => 0)), (q26, aI k26 400 (fun _ => 0)), (q40, aI k40 4 (fun _ => 0)), (q47, aI k47 4 (fun _ => 0)), (q56, aI k56 400 (fun _ => 0))]) := hD
  refine va_putF (D := (dC, dI)) (ci := 3) (v := .ref q56) (ty := .array .int) (C := RX3) (T := TX3) (N := 18) hx hb hts inX3 tyX3 tyX3_ok nmX3 hown hK hP hD hS 0 rfl rfl 10 (by decide) (hts _ wm_413) (fun _ h9 => h9) rfl hin rfl (by decide +kernel) rfl rfl (Nat.le_of_ble_eq_true rfl) dX3_init_58 (fun H locs hP hD hS => ?_)
  have hP : va_P (dC, dI) vwCl ([(x, oI 3 [.int 0, .int 0, .int 0, .ref q8, .ref q17, .ref q26, .int 0, .int (iI 1000), .ref q40, .ref q47, .ref q56, .null, .int 0, .null, .long 0, .int 0, .int 0, .int 0]), (q8, aI k8 400 (fun _ => 0)), (q17, aI k17 400 (fun _ => 0)), (q26, aI k26 400 (fun _ => 0)), (q40, aI k40 4 (fun _ => 0)), (q47, aI k47 4 (fun _ => 0)), (q56, aI k56 400 (fun _ => 0))]) H := hP
  have hD : va_D A ([(x, oI 3 [.int 0, .int 0, .int 0, .ref q8, .ref q17, .ref q26, .int 0, .int (iI 1000), .ref q40, .ref q47, .ref q56, .null, .int 0, .null, .long 0, .int 0, .int 0, .int 0]), (q8, aI k8 400 (fun _ => 0)), (q17, aI k17 400 (fun _ => 0)), (q26, aI k26 400 (fun _ => 0)), (q40, aI k40 4 (fun _ => 0)), (q47, aI k47 4 (fun _ => 0)), (q56, aI k56 400 (fun _ => 0))]) := hD
  refine lv_aload_n hx hb dX3_init_61 rfl (lv_at hl 0 rfl) ?_
  refine lv_sipush (v := iI 400) hx hb dX3_init_62 (by decide) ?_
  refine z_newa (N := 400) hx hb (hts _ wm_144) hK hP hD hS hA (rfl) (by decide) (by show _ ≤ 8; omega) (by show _ ≤ 8008; omega) dX3_init_65 (fun q65 k65 H hK hP hD hS => ?_)
  have hK : va_K (dC, dI) vwCl [(k8, .int), (k17, .int), (k26, .int), (k40, .int), (k47, .int), (k56, .int), (k65, .int)] s := hK
  have hP : va_P (dC, dI) vwCl ([(x, oI 3 [.int 0, .int 0, .int 0, .ref q8, .ref q17, .ref q26, .int 0, .int (iI 1000), .ref q40, .ref q47, .ref q56, .null, .int 0, .null, .long 0, .int 0, .int 0, .int 0]), (q8, aI k8 400 (fun _ => 0)), (q17, aI k17 400 (fun _ => 0)), (q26, aI k26 400 (fun _ => 0)), (q40, aI k40 4 (fun _ => 0)), (q47, aI k47 4 (fun _ => 0)), (q56, aI k56 400 (fun _ => 0)), (q65, aI k65 400 (fun _ => 0))]) H := hP
  have hD : va_D A ([(x, oI 3 [.int 0, .int 0, .int 0, .ref q8, .ref q17, .ref q26, .int 0, .int (iI 1000), .ref q40, .ref q47, .ref q56, .null, .int 0, .null, .long 0, .int 0, .int 0, .int 0]), (q8, aI k8 400 (fun _ => 0)), (q17, aI k17 400 (fun _ => 0)), (q26, aI k26 400 (fun _ => 0)), (q40, aI k40 4 (fun _ => 0)), (q47, aI k47 4 (fun _ => 0)), (q56, aI k56 400 (fun _ => 0)), (q65, aI k65 400 (fun _ => 0))]) := hD
  refine va_putF (D := (dC, dI)) (ci := 3) (v := .ref q65) (ty := .array .int) (C := RX3) (T := TX3) (N := 18) hx hb hts inX3 tyX3 tyX3_ok nmX3 hown hK hP hD hS 0 rfl rfl 11 (by decide) (hts _ wm_414) (fun _ h9 => h9) rfl hin rfl (by decide +kernel) rfl rfl (Nat.le_of_ble_eq_true rfl) dX3_init_67 (fun H locs hP hD hS => ?_)
  have hP : va_P (dC, dI) vwCl ([(x, oI 3 [.int 0, .int 0, .int 0, .ref q8, .ref q17, .ref q26, .int 0, .int (iI 1000), .ref q40, .ref q47, .ref q56, .ref q65, .int 0, .null, .long 0, .int 0, .int 0, .int 0]), (q8, aI k8 400 (fun _ => 0)), (q17, aI k17 400 (fun _ => 0)), (q26, aI k26 400 (fun _ => 0)), (q40, aI k40 4 (fun _ => 0)), (q47, aI k47 4 (fun _ => 0)), (q56, aI k56 400 (fun _ => 0)), (q65, aI k65 400 (fun _ => 0))]) H := hP
  have hD : va_D A ([(x, oI 3 [.int 0, .int 0, .int 0, .ref q8, .ref q17, .ref q26, .int 0, .int (iI 1000), .ref q40, .ref q47, .ref q56, .ref q65, .int 0, .null, .long 0, .int 0, .int 0, .int 0]), (q8, aI k8 400 (fun _ => 0)), (q17, aI k17 400 (fun _ => 0)), (q26, aI k26 400 (fun _ => 0)), (q40, aI k40 4 (fun _ => 0)), (q47, aI k47 4 (fun _ => 0)), (q56, aI k56 400 (fun _ => 0)), (q65, aI k65 400 (fun _ => 0))]) := hD
  refine lv_aload_n hx hb dX3_init_70 rfl (lv_at hl 0 rfl) ?_
  refine lv_sipush (v := iI 6000) hx hb dX3_init_71 (by decide) ?_
  refine z_newa (N := 6000) hx hb (hts _ wm_144) hK hP hD hS hA (rfl) (by decide) (by show _ ≤ 8; omega) (by show _ ≤ 8008; omega) dX3_init_74 (fun q74 k74 H hK hP hD hS => ?_)
  have hK : va_K (dC, dI) vwCl [(k8, .int), (k17, .int), (k26, .int), (k40, .int), (k47, .int), (k56, .int), (k65, .int), (k74, .int)] s := hK
  have hP : va_P (dC, dI) vwCl ([(x, oI 3 [.int 0, .int 0, .int 0, .ref q8, .ref q17, .ref q26, .int 0, .int (iI 1000), .ref q40, .ref q47, .ref q56, .ref q65, .int 0, .null, .long 0, .int 0, .int 0, .int 0]), (q8, aI k8 400 (fun _ => 0)), (q17, aI k17 400 (fun _ => 0)), (q26, aI k26 400 (fun _ => 0)), (q40, aI k40 4 (fun _ => 0)), (q47, aI k47 4 (fun _ => 0)), (q56, aI k56 400 (fun _ => 0)), (q65, aI k65 400 (fun _ => 0)), (q74, aI k74 6000 (fun _ => 0))]) H := hP
  have hD : va_D A ([(x, oI 3 [.int 0, .int 0, .int 0, .ref q8, .ref q17, .ref q26, .int 0, .int (iI 1000), .ref q40, .ref q47, .ref q56, .ref q65, .int 0, .null, .long 0, .int 0, .int 0, .int 0]), (q8, aI k8 400 (fun _ => 0)), (q17, aI k17 400 (fun _ => 0)), (q26, aI k26 400 (fun _ => 0)), (q40, aI k40 4 (fun _ => 0)), (q47, aI k47 4 (fun _ => 0)), (q56, aI k56 400 (fun _ => 0)), (q65, aI k65 400 (fun _ => 0)), (q74, aI k74 6000 (fun _ => 0))]) := hD
  refine va_putF (D := (dC, dI)) (ci := 3) (v := .ref q74) (ty := .array .int) (C := RX3) (T := TX3) (N := 18) hx hb hts inX3 tyX3 tyX3_ok nmX3 hown hK hP hD hS 0 rfl rfl 13 (by decide) (hts _ wm_416) (fun _ h9 => h9) rfl hin rfl (by decide +kernel) rfl rfl (Nat.le_of_ble_eq_true rfl) dX3_init_76 (fun H locs hP hD hS => ?_)
  have hP : va_P (dC, dI) vwCl ([(x, oI 3 [.int 0, .int 0, .int 0, .ref q8, .ref q17, .ref q26, .int 0, .int (iI 1000), .ref q40, .ref q47, .ref q56, .ref q65, .int 0, .ref q74, .long 0, .int 0, .int 0, .int 0]), (q8, aI k8 400 (fun _ => 0)), (q17, aI k17 400 (fun _ => 0)), (q26, aI k26 400 (fun _ => 0)), (q40, aI k40 4 (fun _ => 0)), (q47, aI k47 4 (fun _ => 0)), (q56, aI k56 400 (fun _ => 0)), (q65, aI k65 400 (fun _ => 0)), (q74, aI k74 6000 (fun _ => 0))]) H := hP
  have hD : va_D A ([(x, oI 3 [.int 0, .int 0, .int 0, .ref q8, .ref q17, .ref q26, .int 0, .int (iI 1000), .ref q40, .ref q47, .ref q56, .ref q65, .int 0, .ref q74, .long 0, .int 0, .int 0, .int 0]), (q8, aI k8 400 (fun _ => 0)), (q17, aI k17 400 (fun _ => 0)), (q26, aI k26 400 (fun _ => 0)), (q40, aI k40 4 (fun _ => 0)), (q47, aI k47 4 (fun _ => 0)), (q56, aI k56 400 (fun _ => 0)), (q65, aI k65 400 (fun _ => 0)), (q74, aI k74 6000 (fun _ => 0))]) := hD
  refine lv_aload_n hx hb dX3_init_79 rfl (lv_at hl 0 rfl) ?_
  refine lv_iload_n hx hb dX3_init_80 rfl (lv_at hl 1 rfl) ?_
  refine z_rcalli (va_runS (As := [.int (iI n1)]) (rest := [.ref x]) ⟨hx, hb, hml, hown, hts⟩ (c_X3_nearest l dC dI (H).size n1 (by omega)) (va_cwS 1 hts g_X3_38 rfl rfl rfl (by decide +kernel) ⟨Nat.le_of_ble_eq_true rfl, Nat.le_of_ble_eq_true rfl⟩) (zP_S z_P0 (hK.sub [] rfl) z_D0 hS (z_free0 hS hA) hZ) rfl rfl hl.1 rfl (lv_room (Nat.le_of_ble_eq_true rfl)) dX3_init_81 ⟨Nat.le_of_ble_eq_true rfl, Nat.le_of_ble_eq_true rfl⟩) hP hD hS (z_free0 hS hA) (fun _ h => by cases h) (fun H locs _ hP hD hS _ => ?_)
  refine z_top (b := ((wN n1 : Nat) : Int)) (wN_eq n1) ?_
  refine va_putF (D := (dC, dI)) (ci := 3) (v := .int (iI ((wN n1 : Nat) : Int))) (ty := .int) (C := RX3) (T := TX3) (N := 18) hx hb hts inX3 tyX3 tyX3_ok nmX3 hown hK hP hD hS 0 rfl rfl 1 (by decide) (hts _ wm_404) (fun _ h9 => h9) rfl hin rfl (by decide +kernel) rfl rfl (Nat.le_of_ble_eq_true rfl) dX3_init_84 (fun H locs hP hD hS => ?_)
  have hP : va_P (dC, dI) vwCl ([(x, oI 3 [.int 0, .int (iI ((wN n1 : Nat) : Int)), .int 0, .ref q8, .ref q17, .ref q26, .int 0, .int (iI 1000), .ref q40, .ref q47, .ref q56, .ref q65, .int 0, .ref q74, .long 0, .int 0, .int 0, .int 0]), (q8, aI k8 400 (fun _ => 0)), (q17, aI k17 400 (fun _ => 0)), (q26, aI k26 400 (fun _ => 0)), (q40, aI k40 4 (fun _ => 0)), (q47, aI k47 4 (fun _ => 0)), (q56, aI k56 400 (fun _ => 0)), (q65, aI k65 400 (fun _ => 0)), (q74, aI k74 6000 (fun _ => 0))]) H := hP
  have hD : va_D A ([(x, oI 3 [.int 0, .int (iI ((wN n1 : Nat) : Int)), .int 0, .ref q8, .ref q17, .ref q26, .int 0, .int (iI 1000), .ref q40, .ref q47, .ref q56, .ref q65, .int 0, .ref q74, .long 0, .int 0, .int 0, .int 0]), (q8, aI k8 400 (fun _ => 0)), (q17, aI k17 400 (fun _ => 0)), (q26, aI k26 400 (fun _ => 0)), (q40, aI k40 4 (fun _ => 0)), (q47, aI k47 4 (fun _ => 0)), (q56, aI k56 400 (fun _ => 0)), (q65, aI k65 400 (fun _ => 0)), (q74, aI k74 6000 (fun _ => 0))]) := hD
  refine lv_aload_n hx hb dX3_init_87 rfl (lv_at hl 0 rfl) ?_
  refine lv_iload_n hx hb dX3_init_88 rfl (lv_at hl 2 rfl) ?_
  refine z_rcalli (va_runS (As := [.int (iI n2)]) (rest := [.ref x]) ⟨hx, hb, hml, hown, hts⟩ (c_X3_nearest l dC dI (H).size n2 (by omega)) (va_cwS 1 hts g_X3_38 rfl rfl rfl (by decide +kernel) ⟨Nat.le_of_ble_eq_true rfl, Nat.le_of_ble_eq_true rfl⟩) (zP_S z_P0 (hK.sub [] rfl) z_D0 hS (z_free0 hS hA) hZ) rfl rfl hl.1 rfl (lv_room (Nat.le_of_ble_eq_true rfl)) dX3_init_89 ⟨Nat.le_of_ble_eq_true rfl, Nat.le_of_ble_eq_true rfl⟩) hP hD hS (z_free0 hS hA) (fun _ h => by cases h) (fun H locs _ hP hD hS _ => ?_)
  refine z_top (b := ((wN n2 : Nat) : Int)) (wN_eq n2) ?_
  refine va_putF (D := (dC, dI)) (ci := 3) (v := .int (iI ((wN n2 : Nat) : Int))) (ty := .int) (C := RX3) (T := TX3) (N := 18) hx hb hts inX3 tyX3 tyX3_ok nmX3 hown hK hP hD hS 0 rfl rfl 2 (by decide) (hts _ wm_405) (fun _ h9 => h9) rfl hin rfl (by decide +kernel) rfl rfl (Nat.le_of_ble_eq_true rfl) dX3_init_92 (fun H locs hP hD hS => ?_)
  have hP : va_P (dC, dI) vwCl ([(x, oI 3 [.int 0, .int (iI ((wN n1 : Nat) : Int)), .int (iI ((wN n2 : Nat) : Int)), .ref q8, .ref q17, .ref q26, .int 0, .int (iI 1000), .ref q40, .ref q47, .ref q56, .ref q65, .int 0, .ref q74, .long 0, .int 0, .int 0, .int 0]), (q8, aI k8 400 (fun _ => 0)), (q17, aI k17 400 (fun _ => 0)), (q26, aI k26 400 (fun _ => 0)), (q40, aI k40 4 (fun _ => 0)), (q47, aI k47 4 (fun _ => 0)), (q56, aI k56 400 (fun _ => 0)), (q65, aI k65 400 (fun _ => 0)), (q74, aI k74 6000 (fun _ => 0))]) H := hP
  have hD : va_D A ([(x, oI 3 [.int 0, .int (iI ((wN n1 : Nat) : Int)), .int (iI ((wN n2 : Nat) : Int)), .ref q8, .ref q17, .ref q26, .int 0, .int (iI 1000), .ref q40, .ref q47, .ref q56, .ref q65, .int 0, .ref q74, .long 0, .int 0, .int 0, .int 0]), (q8, aI k8 400 (fun _ => 0)), (q17, aI k17 400 (fun _ => 0)), (q26, aI k26 400 (fun _ => 0)), (q40, aI k40 4 (fun _ => 0)), (q47, aI k47 4 (fun _ => 0)), (q56, aI k56 400 (fun _ => 0)), (q65, aI k65 400 (fun _ => 0)), (q74, aI k74 6000 (fun _ => 0))]) := hD
  refine lv_iconst (v := iI 0) hx hb dX3_init_95 rfl ?_
  refine lv_istore_n (lv' := [(3, .int (iI 0)), (0, .ref x), (1, .int (iI n1)), (2, .int (iI n2))]) hx hb dX3_init_96 rfl hl (by decide) rfl (fun ls hl => ?_)
  refine W.widen (k := 8) (n := 8008) (by omega) (by omega) ?_
  refine lp_X3_init_97 x q8 q17 q26 q40 q47 q56 q65 q74 k8 k17 k26 k40 k47 k56 k65 k74 n1 n2 hx hb hml hown hts hA hZ hK  (fun H locs ls hP hD hS hl => ?_)  400 0 (by omega) _ _ _ hP hD hS (lv_sub hl [1, 0] rfl)
  have hP : va_P (dC, dI) vwCl ([(x, oI 3 [.int 0, .int (iI ((wN n1 : Nat) : Int)), .int (iI ((wN n2 : Nat) : Int)), .ref q8, .ref q17, .ref q26, .int 0, .int (iI 1000), .ref q40, .ref q47, .ref q56, .ref q65, .int 0, .ref q74, .long 0, .int 0, .int 0, .int 0]), (q8, aI k8 400 (fun _ => 0)), (q17, aI k17 400 (flF 1000 400 (fun _ => 0))), (q26, aI k26 400 (fun _ => 0)), (q40, aI k40 4 (fun _ => 0)), (q47, aI k47 4 (fun _ => 0)), (q56, aI k56 400 (fun _ => 0)), (q65, aI k65 400 (fun _ => 0)), (q74, aI k74 6000 (fun _ => 0))]) H := hP
  have hD : va_D A ([(x, oI 3 [.int 0, .int (iI ((wN n1 : Nat) : Int)), .int (iI ((wN n2 : Nat) : Int)), .ref q8, .ref q17, .ref q26, .int 0, .int (iI 1000), .ref q40, .ref q47, .ref q56, .ref q65, .int 0, .ref q74, .long 0, .int 0, .int 0, .int 0]), (q8, aI k8 400 (fun _ => 0)), (q17, aI k17 400 (flF 1000 400 (fun _ => 0))), (q26, aI k26 400 (fun _ => 0)), (q40, aI k40 4 (fun _ => 0)), (q47, aI k47 4 (fun _ => 0)), (q56, aI k56 400 (fun _ => 0)), (q65, aI k65 400 (fun _ => 0)), (q74, aI k74 6000 (fun _ => 0))]) := hD
  have hl : lv_has ls 4 [(0, .ref x), (3, .int (iI ((400 : Nat) : Int)))] := hl
  subst hAe
  exact W.vret hx hb hr (fun t9 ht hW => ⟨⟨((fun k => ([x, q8, q17, q26, q40, q47, q56, q65, q74] : List Nat).getD k 0), (fun k => ([k8, k17, k26, k40, k47, k56, k65, k74] : List ClassId).getD k k8)), rfl, rfl, by rw [ht]; exact hP, va_K.moved hW.alike hK, hD⟩, hS.F ht⟩) hS.2.2 dX3_init_119 hlocks
