abbrev r_X3_nearest : Room := { frames := 0, cells := 0, slots := 0, locals := 0 }
set_option maxHeartbeats 4000000 in
set_option maxRecDepth 100000 in
theorem c_X3_nearest (l : Launch) (dC : Nat → ClassId) (dI : Nat → Nat → Nat) (sz : Nat) (v : Int) (h1 : rg v) : Met l yX3_nearest wsX3_nearest r_X3_nearest (zP (dC, dI) vwCl ([]) ([]) sz [.int (iI v)]) (zQi (dC, dI) vwCl ([]) ([]) sz (True) (max 1 (min 20 v)) ([])) 0 0 (va_A ([]) sz) := by
  refine Met.ofW (cc := cX3_nearest) (maxL := 1) (ret := (some .int)) (by decide) rfl ?_
  intro p e s m args below meth c s₁ B hml hv
  obtain ⟨rfl, hsz, hP, hK, hD0, hZ⟩ := hv
  have hx := B.exec
  have hb := B.bytes
  have hr := B.returns
  have hts0 := atoms_spec (ws := wsX3_nearest) B.pre
  have hts : ∀ w ∈ wsAll, w.before _ s = true := fun w h => hts0 w (List.mem_cons_of_mem _ h)
  have hown : s.vm.findClass RX3 = some m.cls := findClass_of_methodNamed B.named
  have hlocks := B.notSynchronized
  subst hsz
  have hD := hD0.self (sz := s.heap.size)
  obtain ⟨A, hAe⟩ : ∃ A, A = va_A ([]) s.heap.size := ⟨_, rfl⟩
  rw [← hAe] at hD hZ
  have hA : ∀ q : Nat, s.heap.size ≤ q → A q := fun q h => by rw [hAe]; exact Or.inr h
  have hS : va_S A s.heap s.heap [] := va_S.rf
  have hP : va_P (dC, dI) vwCl ([]) s.heap := hP
  have hl := lv_entry ([.int (iI v)]) (n := 1) (Nat.le_of_ble_eq_true rfl)
  rw [lg_entry_eq]
  generalize (lg_sl ([.int (iI v)]) ++ List.replicate (1 - (lg_sl ([.int (iI v)])).length) Slot.unset).toArray = ls at hl ⊢
  have hl : lv_has ls 1 [(0, .int (iI v))] := hl
  refine lv_iload_n hx hb dX3_nearest_0 rfl (lv_at hl 0 rfl) ?_
  refine lv_iconst (v := iI 1) hx hb dX3_nearest_1 rfl ?_
  refine z_icmp_ge (tgt := 9) hx hb dX3_nearest_2 (by decide) (by omega) (by omega) (fun c2 => ?_) (fun c2 => ?_)
  · refine lv_iload_n hx hb dX3_nearest_9 rfl (lv_at hl 0 rfl) ?_
    refine lv_bipush (v := iI 20) hx hb dX3_nearest_10 (by decide) ?_
    refine z_icmp_le (tgt := 20) hx hb dX3_nearest_12 (by decide) (by omega) (by omega) (fun c12 => ?_) (fun c12 => ?_)
    · refine lv_iload_n hx hb dX3_nearest_20 rfl (lv_at hl 0 rfl) ?_
      subst hAe
      refine z_top (b := max 1 (min 20 v)) (by omega) ?_
      exact z_iret hx hb hr hlocks hP hK hD hS (trivial) dX3_nearest_21
    · refine lv_bipush (v := iI 20) hx hb dX3_nearest_15 (by decide) ?_
      refine lv_goto (tgt := 21) hx hb dX3_nearest_17 (by decide) ?_
      subst hAe
      refine z_top (b := max 1 (min 20 v)) (by omega) ?_
      exact z_iret hx hb hr hlocks hP hK hD hS (trivial) dX3_nearest_21
  · refine lv_iconst (v := iI 1) hx hb dX3_nearest_5 rfl ?_
    refine lv_goto (tgt := 21) hx hb dX3_nearest_6 (by decide) ?_
    subst hAe
    refine z_top (b := max 1 (min 20 v)) (by omega) ?_
    exact z_iret hx hb hr hlocks hP hK hD hS (trivial) dX3_nearest_21
abbrev r_X3_isIn : Room := { frames := 0, cells := 0, slots := 0, locals := 0 }
set_option maxHeartbeats 4000000 in
set_option maxRecDepth 100000 in
theorem c_X3_isIn (l : Launch) (dC : Nat → ClassId) (dI : Nat → Nat → Nat) (sz : Nat) (n a b : Int) (h1 : rg n) (h2 : rg a) (h3 : rg b) : Met l yX3_isIn wsX3_isIn r_X3_isIn (zP (dC, dI) vwCl ([]) ([]) sz [.int (iI n), .int (iI a), .int (iI b)]) (zQi (dC, dI) vwCl ([]) ([]) sz (True) (isW n a b) ([])) 0 0 (va_A ([]) sz) := by
  refine Met.ofW (cc := cX3_isIn) (maxL := 3) (ret := (some .boolean)) (by decide) rfl ?_
  intro p e s m args below meth c s₁ B hml hv
  obtain ⟨rfl, hsz, hP, hK, hD0, hZ⟩ := hv
  have hx := B.exec
  have hb := B.bytes
  have hr := B.returns
  have hts0 := atoms_spec (ws := wsX3_isIn) B.pre
  have hts : ∀ w ∈ wsAll, w.before _ s = true := fun w h => hts0 w (List.mem_cons_of_mem _ h)
  have hown : s.vm.findClass RX3 = some m.cls := findClass_of_methodNamed B.named
  have hlocks := B.notSynchronized
  subst hsz
  have hD := hD0.self (sz := s.heap.size)
  obtain ⟨A, hAe⟩ : ∃ A, A = va_A ([]) s.heap.size := ⟨_, rfl⟩
  rw [← hAe] at hD hZ
  have hA : ∀ q : Nat, s.heap.size ≤ q → A q := fun q h => by rw [hAe]; exact Or.inr h
  have hS : va_S A s.heap s.heap [] := va_S.rf
  have hP : va_P (dC, dI) vwCl ([]) s.heap := hP
  have hl := lv_entry ([.int (iI n), .int (iI a), .int (iI b)]) (n := 3) (Nat.le_of_ble_eq_true rfl)
  rw [lg_entry_eq]
  generalize (lg_sl ([.int (iI n), .int (iI a), .int (iI b)]) ++ List.replicate (3 - (lg_sl ([.int (iI n), .int (iI a), .int (iI b)])).length) Slot.unset).toArray = ls at hl ⊢
  have hl : lv_has ls 3 [(0, .int (iI n)), (1, .int (iI a)), (2, .int (iI b))] := hl
  refine lv_iload_n hx hb dX3_isIn_0 rfl (lv_at hl 0 rfl) ?_
  refine lv_iload_n hx hb dX3_isIn_1 rfl (lv_at hl 1 rfl) ?_
  refine z_icmp_lt (tgt := 14) hx hb dX3_isIn_2 (by decide) (by omega) (by omega) (fun c2 => ?_) (fun c2 => ?_)
  · refine lv_iconst (v := iI 0) hx hb dX3_isIn_14 rfl ?_
    subst hAe
    refine z_top (b := isW n a b) (by unfold isW; split <;> omega) ?_
    exact z_zret hx hb hr hlocks (isW_01 _ _ _) hP hK hD hS (trivial) dX3_isIn_15
  · refine lv_iload_n hx hb dX3_isIn_5 rfl (lv_at hl 0 rfl) ?_
    refine lv_iload_n hx hb dX3_isIn_6 rfl (lv_at hl 2 rfl) ?_
    refine z_icmp_gt (tgt := 14) hx hb dX3_isIn_7 (by decide) (by omega) (by omega) (fun c7 => ?_) (fun c7 => ?_)
    · refine lv_iconst (v := iI 0) hx hb dX3_isIn_14 rfl ?_
      subst hAe
      refine z_top (b := isW n a b) (by unfold isW; split <;> omega) ?_
      exact z_zret hx hb hr hlocks (isW_01 _ _ _) hP hK hD hS (trivial) dX3_isIn_15
    · refine lv_iconst (v := iI 1) hx hb dX3_isIn_10 rfl ?_
      refine lv_goto (tgt := 15) hx hb dX3_isIn_11 (by decide) ?_
      subst hAe
      refine z_top (b := isW n a b) (by unfold isW; split <;> omega) ?_
      exact z_zret hx hb hr hlocks (isW_01 _ _ _) hP hK hD hS (trivial) dX3_isIn_15
abbrev r_X3_size : Room := { frames := 0, cells := 0, slots := 0, locals := 0 }
set_option maxHeartbeats 4000000 in
set_option maxRecDepth 100000 in
theorem c_X3_size (l : Launch) (dC : Nat → ClassId) (dI : Nat → Nat → Nat) (sz : Nat) (v : Int) (h1 : rg v) : Met l yX3_size wsX3_size r_X3_size (zP (dC, dI) vwCl ([]) ([]) sz [.int (iI v)]) (zQi (dC, dI) vwCl ([]) ([]) sz (True) (zab v) ([])) 0 0 (va_A ([]) sz) := by
  refine Met.ofW (cc := cX3_size) (maxL := 1) (ret := (some .int)) (by decide) rfl ?_
  intro p e s m args below meth c s₁ B hml hv
  obtain ⟨rfl, hsz, hP, hK, hD0, hZ⟩ := hv
  have hx := B.exec
  have hb := B.bytes
  have hr := B.returns
  have hts0 := atoms_spec (ws := wsX3_size) B.pre
  have hts : ∀ w ∈ wsAll, w.before _ s = true := fun w h => hts0 w (List.mem_cons_of_mem _ h)
  have hown : s.vm.findClass RX3 = some m.cls := findClass_of_methodNamed B.named
  have hlocks := B.notSynchronized
  subst hsz
  have hD := hD0.self (sz := s.heap.size)
  obtain ⟨A, hAe⟩ : ∃ A, A = va_A ([]) s.heap.size := ⟨_, rfl⟩
  rw [← hAe] at hD hZ
  have hA : ∀ q : Nat, s.heap.size ≤ q → A q := fun q h => by rw [hAe]; exact Or.inr h
  have hS : va_S A s.heap s.heap [] := va_S.rf
  have hP : va_P (dC, dI) vwCl ([]) s.heap := hP
  have hl := lv_entry ([.int (iI v)]) (n := 1) (Nat.le_of_ble_eq_true rfl)
  rw [lg_entry_eq]
  generalize (lg_sl ([.int (iI v)]) ++ List.replicate (1 - (lg_sl ([.int (iI v)])).length) Slot.unset).toArray = ls at hl ⊢
  have hl : lv_has ls 1 [(0, .int (iI v))] := hl
  refine lv_iload_n hx hb dX3_size_0 rfl (lv_at hl 0 rfl) ?_
  refine z_if_ge (tgt := 9) hx hb dX3_size_1 (by decide) (by omega) (fun c1 => ?_) (fun c1 => ?_)
  · refine lv_iload_n hx hb dX3_size_9 rfl (lv_at hl 0 rfl) ?_
    subst hAe
    refine z_top (b := zab v) (by unfold zab; split <;> omega) ?_
    exact z_iret hx hb hr hlocks hP hK hD hS (trivial) dX3_size_10
  · refine lv_iload_n hx hb dX3_size_4 rfl (lv_at hl 0 rfl) ?_
    refine z_neg hx hb dX3_size_5 ?_
    refine lv_goto (tgt := 10) hx hb dX3_size_6 (by decide) ?_
    subst hAe
    refine z_top (b := zab v) (by unfold zab; split <;> omega) ?_
    exact z_iret hx hb hr hlocks hP hK hD hS (trivial) dX3_size_10
abbrev r_X3_thrown : Room := { frames := 0, cells := 0, slots := 0, locals := 0 }
set_option maxHeartbeats 4000000 in
set_option maxRecDepth 100000 in
theorem c_X3_thrown (l : Launch) (dC : Nat → ClassId) (dI : Nat → Nat → Nat) (sz : Nat) (b : Nat → Nat) (cB : Nat → ClassId) (w h : Nat) (cd : Int) (wn mn kn : Nat → Int) (ik so : Int) (ks rs lf : Nat → Int) (K : MK) : Met l yX3_thrown wsX3_thrown r_X3_thrown (zP (dC, dI) vwCl (mdT cB) (mdW b cB w h cd wn mn kn ik so ks rs lf K) sz [.ref (b 0)]) (zQi (dC, dI) vwCl (mdT cB) (mdW b cB w h cd wn mn kn ik so ks rs lf K) sz (True) cd (mdW b cB w h cd wn mn kn ik so ks rs lf K)) 0 0 (va_A (mdW b cB w h cd wn mn kn ik so ks rs lf K) sz) := by
  refine Met.ofW (cc := cX3_thrown) (maxL := 1) (ret := (some .int)) (by decide) rfl ?_
  intro p e s m args below meth c s₁ B hml hv
  obtain ⟨rfl, hsz, hP, hK, hD0, hZ⟩ := hv
  have hx := B.exec
  have hb := B.bytes
  have hr := B.returns
  have hts0 := atoms_spec (ws := wsX3_thrown) B.pre
  have hts : ∀ w ∈ wsAll, w.before _ s = true := fun w h => hts0 w (List.mem_cons_of_mem _ h)
  have hown : s.vm.findClass RX3 = some m.cls := findClass_of_methodNamed B.named
  have hlocks := B.notSynchronized
  subst hsz
  have hD := hD0.self (sz := s.heap.size)
  obtain ⟨A, hAe⟩ : ∃ A, A = va_A (mdW b cB w h cd wn mn kn ik so ks rs lf K) s.heap.size := ⟨_, rfl⟩
  rw [← hAe] at hD hZ
  have hA : ∀ q : Nat, s.heap.size ≤ q → A q := fun q h => by rw [hAe]; exact Or.inr h
  have hS : va_S A s.heap s.heap [] := va_S.rf
  have hP : va_P (dC, dI) vwCl (mdW b cB w h cd wn mn kn ik so ks rs lf K) s.heap := hP
  have hl := lv_entry ([.ref (b 0)]) (n := 1) (Nat.le_of_ble_eq_true rfl)
  rw [lg_entry_eq]
  generalize (lg_sl ([.ref (b 0)]) ++ List.replicate (1 - (lg_sl ([.ref (b 0)])).length) Slot.unset).toArray = ls at hl ⊢
  have hl : lv_has ls 1 [(0, .ref (b 0))] := hl
  refine lv_aload_n hx hb dX3_thrown_0 rfl (lv_at hl 0 rfl) ?_
  refine va_get (D := (dC, dI)) (ci := 3) (v := .int (iI cd)) (C := RX3) (T := TX3) (N := 18) hx hb hts inX3 hown hK hP 0 rfl rfl 0 (by decide) (hts _ wm_403) (fun _ h9 => h9) rfl dX3_thrown_1 ?_
  subst hAe
  exact z_iret hx hb hr hlocks hP hK hD hS (trivial) dX3_thrown_4
abbrev r_X3_isPlace : Room := { frames := 0, cells := 0, slots := 0, locals := 0 }
set_option maxHeartbeats 4000000 in
set_option maxRecDepth 100000 in
theorem c_X3_isPlace (l : Launch) (dC : Nat → ClassId) (dI : Nat → Nat → Nat) (sz : Nat) (b : Nat → Nat) (cB : Nat → ClassId) (w h : Nat) (cd : Int) (wn mn kn : Nat → Int) (ik so : Int) (ks rs lf : Nat → Int) (K : MK) (x y : Int) (hw : 1 ≤ w ∧ w ≤ 20) (hh : 1 ≤ h ∧ h ≤ 20) (h1 : rg x) (h2 : rg y) : Met l yX3_isPlace wsX3_isPlace r_X3_isPlace (zP (dC, dI) vwCl (mdT cB) (mdW b cB w h cd wn mn kn ik so ks rs lf K) sz [.ref (b 0), .int (iI x), .int (iI y)]) (zQi (dC, dI) vwCl (mdT cB) (mdW b cB w h cd wn mn kn ik so ks rs lf K) sz (True) (plB w h x y) (mdW b cB w h cd wn mn kn ik so ks rs lf K)) 0 0 (va_A (mdW b cB w h cd wn mn kn ik so ks rs lf K) sz) := by
  refine Met.ofW (cc := cX3_isPlace) (maxL := 3) (ret := (some .boolean)) (by decide) rfl ?_
  intro p e s m args below meth c s₁ B hml hv
  obtain ⟨rfl, hsz, hP, hK, hD0, hZ⟩ := hv
  have hx := B.exec
  have hb := B.bytes
  have hr := B.returns
  have hts0 := atoms_spec (ws := wsX3_isPlace) B.pre
  have hts : ∀ w ∈ wsAll, w.before _ s = true := fun w h => hts0 w (List.mem_cons_of_mem _ h)
  have hown : s.vm.findClass RX3 = some m.cls := findClass_of_methodNamed B.named
  have hlocks := B.notSynchronized
  subst hsz
  have hD := hD0.self (sz := s.heap.size)
  obtain ⟨A, hAe⟩ : ∃ A, A = va_A (mdW b cB w h cd wn mn kn ik so ks rs lf K) s.heap.size := ⟨_, rfl⟩
  rw [← hAe] at hD hZ
  have hA : ∀ q : Nat, s.heap.size ≤ q → A q := fun q h => by rw [hAe]; exact Or.inr h
  have hS : va_S A s.heap s.heap [] := va_S.rf
  have hP : va_P (dC, dI) vwCl (mdW b cB w h cd wn mn kn ik so ks rs lf K) s.heap := hP
  have hl := lv_entry ([.ref (b 0), .int (iI x), .int (iI y)]) (n := 3) (Nat.le_of_ble_eq_true rfl)
  rw [lg_entry_eq]
  generalize (lg_sl ([.ref (b 0), .int (iI x), .int (iI y)]) ++ List.replicate (3 - (lg_sl ([.ref (b 0), .int (iI x), .int (iI y)])).length) Slot.unset).toArray = ls at hl ⊢
  have hl : lv_has ls 3 [(0, .ref (b 0)), (1, .int (iI x)), (2, .int (iI y))] := hl
  refine lv_iload_n hx hb dX3_isPlace_0 rfl (lv_at hl 1 rfl) ?_
  refine z_if_lt (tgt := 28) hx hb dX3_isPlace_1 (by decide) (by omega) (fun c1 => ?_) (fun c1 => ?_)
  · refine lv_iconst (v := iI 0) hx hb dX3_isPlace_28 rfl ?_
    subst hAe
    refine z_top (b := plB w h x y) (by unfold plB; split <;> omega) ?_
    exact z_zret hx hb hr hlocks (plB_01 _ _ _ _) hP hK hD hS (trivial) dX3_isPlace_29
  · refine lv_iload_n hx hb dX3_isPlace_4 rfl (lv_at hl 1 rfl) ?_
    refine lv_aload_n hx hb dX3_isPlace_5 rfl (lv_at hl 0 rfl) ?_
    refine va_get (D := (dC, dI)) (ci := 3) (v := .int (iI (w : Int))) (C := RX3) (T := TX3) (N := 18) hx hb hts inX3 hown hK hP 0 rfl rfl 1 (by decide) (hts _ wm_404) (fun _ h9 => h9) rfl dX3_isPlace_6 ?_
    refine z_icmp_ge (tgt := 28) hx hb dX3_isPlace_9 (by decide) (by omega) (by omega) (fun c9 => ?_) (fun c9 => ?_)
    · refine lv_iconst (v := iI 0) hx hb dX3_isPlace_28 rfl ?_
      subst hAe
      refine z_top (b := plB w h x y) (by unfold plB; split <;> omega) ?_
      exact z_zret hx hb hr hlocks (plB_01 _ _ _ _) hP hK hD hS (trivial) dX3_isPlace_29
    · refine lv_iload_n hx hb dX3_isPlace_12 rfl (lv_at hl 2 rfl) ?_
      refine z_if_lt (tgt := 28) hx hb dX3_isPlace_13 (by decide) (by omega) (fun c13 => ?_) (fun c13 => ?_)
      · refine lv_iconst (v := iI 0) hx hb dX3_isPlace_28 rfl ?_
        subst hAe
        refine z_top (b := plB w h x y) (by unfold plB; split <;> omega) ?_
        exact z_zret hx hb hr hlocks (plB_01 _ _ _ _) hP hK hD hS (trivial) dX3_isPlace_29
      · refine lv_iload_n hx hb dX3_isPlace_16 rfl (lv_at hl 2 rfl) ?_
        refine lv_aload_n hx hb dX3_isPlace_17 rfl (lv_at hl 0 rfl) ?_
        refine va_get (D := (dC, dI)) (ci := 3) (v := .int (iI (h : Int))) (C := RX3) (T := TX3) (N := 18) hx hb hts inX3 hown hK hP 0 rfl rfl 2 (by decide) (hts _ wm_405) (fun _ h9 => h9) rfl dX3_isPlace_18 ?_
        refine z_icmp_ge (tgt := 28) hx hb dX3_isPlace_21 (by decide) (by omega) (by omega) (fun c21 => ?_) (fun c21 => ?_)
        · refine lv_iconst (v := iI 0) hx hb dX3_isPlace_28 rfl ?_
          subst hAe
          refine z_top (b := plB w h x y) (by unfold plB; split <;> omega) ?_
          exact z_zret hx hb hr hlocks (plB_01 _ _ _ _) hP hK hD hS (trivial) dX3_isPlace_29
        · refine lv_iconst (v := iI 1) hx hb dX3_isPlace_24 rfl ?_
          refine lv_goto (tgt := 29) hx hb dX3_isPlace_25 (by decide) ?_
          subst hAe
          refine z_top (b := plB w h x y) (by unfold plB; split <;> omega) ?_
          exact z_zret hx hb hr hlocks (plB_01 _ _ _ _) hP hK hD hS (trivial) dX3_isPlace_29
abbrev r_X3_begin : Room := { frames := 0, cells := 0, slots := 0, locals := 0 }
set_option maxHeartbeats 4000000 in
set_option maxRecDepth 100000 in
theorem c_X3_begin (l : Launch) (dC : Nat → ClassId) (dI : Nat → Nat → Nat) (sz : Nat) (b : Nat → Nat) (cB : Nat → ClassId) (w h : Nat) (cd : Int) (wn mn kn : Nat → Int) (ik so : Int) (ks rs lf : Nat → Int) (K : MK) : Met l yX3_begin wsX3_begin r_X3_begin (zP (dC, dI) vwCl (mdT cB) (mdW b cB w h cd wn mn kn ik so ks rs lf K) sz [.ref (b 0)]) (zQv (dC, dI) vwCl (mdT cB) (mdW b cB w h cd wn mn kn ik so ks rs lf K) sz (True) (mdW b cB w h cd wn mn kn ik so ks rs lf (mkB K))) 0 0 (va_A (mdW b cB w h cd wn mn kn ik so ks rs lf K) sz) := by
  refine Met.ofW (cc := cX3_begin) (maxL := 1) (ret := none) (by decide) rfl ?_
  intro p e s m args below meth c s₁ B hml hv
  obtain ⟨rfl, hsz, hP, hK, hD0, hZ⟩ := hv
  have hx := B.exec
  have hb := B.bytes
  have hr := B.returns
  have hts0 := atoms_spec (ws := wsX3_begin) B.pre
  have hts : ∀ w ∈ wsAll, w.before _ s = true := fun w h => hts0 w (List.mem_cons_of_mem _ h)
  have hown : s.vm.findClass RX3 = some m.cls := findClass_of_methodNamed B.named
  have hlocks := B.notSynchronized
  subst hsz
  have hD := hD0.self (sz := s.heap.size)
  obtain ⟨A, hAe⟩ : ∃ A, A = va_A (mdW b cB w h cd wn mn kn ik so ks rs lf K) s.heap.size := ⟨_, rfl⟩
  rw [← hAe] at hD hZ
  have hA : ∀ q : Nat, s.heap.size ≤ q → A q := fun q h => by rw [hAe]; exact Or.inr h
  have hS : va_S A s.heap s.heap [] := va_S.rf
  have hP : va_P (dC, dI) vwCl (mdW b cB w h cd wn mn kn ik so ks rs lf K) s.heap := hP
  have hl := lv_entry ([.ref (b 0)]) (n := 1) (Nat.le_of_ble_eq_true rfl)
  rw [lg_entry_eq]
  generalize (lg_sl ([.ref (b 0)]) ++ List.replicate (1 - (lg_sl ([.ref (b 0)])).length) Slot.unset).toArray = ls at hl ⊢
  have hl : lv_has ls 1 [(0, .ref (b 0))] := hl
  refine lv_aload_n hx hb dX3_begin_0 rfl (lv_at hl 0 rfl) ?_
  refine lv_iconst (v := iI 0) hx hb dX3_begin_1 rfl ?_
  refine va_put (D := (dC, dI)) (ci := 3) (v := .int (iI 0)) (ty := .int) (C := RX3) (T := TX3) (N := 18) hx hb hts inX3 tyX3 tyX3_ok nmX3 hown hK hP hD hS 0 rfl rfl 12 (by decide) (hts _ wm_415) (fun _ h9 => h9) rfl (by decide +kernel) rfl rfl (Nat.le_of_ble_eq_true rfl) dX3_begin_2 (fun H locs hP hD hS => ?_)
  have hP : va_P (dC, dI) vwCl (mdW b cB w h cd wn mn kn ik so ks rs lf (K.1, K.2.1, 0, K.2.2.2.1, K.2.2.2.2.1, K.2.2.2.2.2.1, K.2.2.2.2.2.2)) H := hP
  have hD : va_D A (mdW b cB w h cd wn mn kn ik so ks rs lf (K.1, K.2.1, 0, K.2.2.2.1, K.2.2.2.2.1, K.2.2.2.2.2.1, K.2.2.2.2.2.2)) := hD
  refine lv_aload_n hx hb dX3_begin_5 rfl (lv_at hl 0 rfl) ?_
  refine lv_lconst (v := lI 0) hx hb dX3_begin_6 (by decide) ?_
  refine va_put (D := (dC, dI)) (ci := 3) (v := .long (lI 0)) (ty := .long) (C := RX3) (T := TX3) (N := 18) hx hb hts inX3 tyX3 tyX3_ok nmX3 hown hK hP hD hS 0 rfl rfl 14 (by decide) (hts _ wm_417) (fun _ h9 => h9) rfl (by decide +kernel) rfl rfl (Nat.le_of_ble_eq_true rfl) dX3_begin_7 (fun H locs hP hD hS => ?_)
  have hP : va_P (dC, dI) vwCl (mdW b cB w h cd wn mn kn ik so ks rs lf (K.1, K.2.1, 0, 0, K.2.2.2.2.1, K.2.2.2.2.2.1, K.2.2.2.2.2.2)) H := hP
  have hD : va_D A (mdW b cB w h cd wn mn kn ik so ks rs lf (K.1, K.2.1, 0, 0, K.2.2.2.2.1, K.2.2.2.2.2.1, K.2.2.2.2.2.2)) := hD
  subst hAe
  exact z_vret hx hb hr hlocks hP hK hD hS (trivial) dX3_begin_10
abbrev r_X3_leftAt : Room := { frames := 0, cells := 0, slots := 0, locals := 0 }
set_option maxHeartbeats 4000000 in
set_option maxRecDepth 100000 in
theorem c_X3_leftAt (l : Launch) (dC : Nat → ClassId) (dI : Nat → Nat → Nat) (sz : Nat) (b : Nat → Nat) (cB : Nat → ClassId) (w h : Nat) (cd : Int) (wn mn kn : Nat → Int) (ik so : Int) (ks rs lf : Nat → Int) (K : MK) (k : Int) (hk0 : 0 ≤ k ∧ k < 400) : Met l yX3_leftAt wsX3_leftAt r_X3_leftAt (zP (dC, dI) vwCl (mdT cB) (mdW b cB w h cd wn mn kn ik so ks rs lf K) sz [.ref (b 0), .int (iI k)]) (zQi (dC, dI) vwCl (mdT cB) (mdW b cB w h cd wn mn kn ik so ks rs lf K) sz (True) (mn k.toNat - wn k.toNat) (mdW b cB w h cd wn mn kn ik so ks rs lf K)) 0 0 (va_A (mdW b cB w h cd wn mn kn ik so ks rs lf K) sz) := by
  refine Met.ofW (cc := cX3_leftAt) (maxL := 2) (ret := (some .int)) (by decide) rfl ?_
  intro p e s m args below meth c s₁ B hml hv
  obtain ⟨rfl, hsz, hP, hK, hD0, hZ⟩ := hv
  have hx := B.exec
  have hb := B.bytes
  have hr := B.returns
  have hts0 := atoms_spec (ws := wsX3_leftAt) B.pre
  have hts : ∀ w ∈ wsAll, w.before _ s = true := fun w h => hts0 w (List.mem_cons_of_mem _ h)
  have hown : s.vm.findClass RX3 = some m.cls := findClass_of_methodNamed B.named
  have hlocks := B.notSynchronized
  subst hsz
  have hD := hD0.self (sz := s.heap.size)
  obtain ⟨A, hAe⟩ : ∃ A, A = va_A (mdW b cB w h cd wn mn kn ik so ks rs lf K) s.heap.size := ⟨_, rfl⟩
  rw [← hAe] at hD hZ
  have hA : ∀ q : Nat, s.heap.size ≤ q → A q := fun q h => by rw [hAe]; exact Or.inr h
  have hS : va_S A s.heap s.heap [] := va_S.rf
  have hP : va_P (dC, dI) vwCl (mdW b cB w h cd wn mn kn ik so ks rs lf K) s.heap := hP
  have hl := lv_entry ([.ref (b 0), .int (iI k)]) (n := 2) (Nat.le_of_ble_eq_true rfl)
  rw [lg_entry_eq]
  generalize (lg_sl ([.ref (b 0), .int (iI k)]) ++ List.replicate (2 - (lg_sl ([.ref (b 0), .int (iI k)])).length) Slot.unset).toArray = ls at hl ⊢
  have hl : lv_has ls 2 [(0, .ref (b 0)), (1, .int (iI k))] := hl
  refine lv_aload_n hx hb dX3_leftAt_0 rfl (lv_at hl 0 rfl) ?_
  refine va_get (D := (dC, dI)) (ci := 3) (v := .ref (b 2)) (C := RX3) (T := TX3) (N := 18) hx hb hts inX3 hown hK hP 0 rfl rfl 4 (by decide) (hts _ wm_407) (fun _ h9 => h9) rfl dX3_leftAt_1 ?_
  refine lv_iload_n hx hb dX3_leftAt_4 rfl (lv_at hl 1 rfl) ?_
  refine z_iald (f := mn) (i := k) hx hb hK hP 2 1 rfl rfl (by omega) (by decide) dX3_leftAt_5 ?_
  refine lv_aload_n hx hb dX3_leftAt_6 rfl (lv_at hl 0 rfl) ?_
  refine va_get (D := (dC, dI)) (ci := 3) (v := .ref (b 1)) (C := RX3) (T := TX3) (N := 18) hx hb hts inX3 hown hK hP 0 rfl rfl 3 (by decide) (hts _ wm_406) (fun _ h9 => h9) rfl dX3_leftAt_7 ?_
  refine lv_iload_n hx hb dX3_leftAt_10 rfl (lv_at hl 1 rfl) ?_
  refine z_iald (f := wn) (i := k) hx hb hK hP 1 0 rfl rfl (by omega) (by decide) dX3_leftAt_11 ?_
  refine z_sub hx hb dX3_leftAt_12 ?_
  subst hAe
  refine z_top (b := mn k.toNat - wn k.toNat) (rfl) ?_
  exact z_iret hx hb hr hlocks hP hK hD hS (trivial) dX3_leftAt_13
theorem g_X3_51 : GoodIn wsAll (wsV RX3 51 RX3 yX3_isPlace wsX3_isPlace) := z_good (show ∀ w ∈ (Cond.methodLink RX3 51 yX3_isPlace :: Cond.instanceMethod yX3_isPlace :: Cond.selects RX3 yX3_isPlace yX3_isPlace :: Cond.initialized RX3 :: Cond.code yX3_isPlace prog_5_method_5_code 3 (some .boolean) :: wsAll), w ∈ wsAll from List.forall_mem_cons.mpr ⟨wm_465, List.forall_mem_cons.mpr ⟨wm_466, List.forall_mem_cons.mpr ⟨wm_570, List.forall_mem_cons.mpr ⟨wm_114, List.forall_mem_cons.mpr ⟨wm_467, fun _ h => h⟩⟩⟩⟩⟩)
theorem g_X3_55 : GoodIn wsAll (va_wsS RX3 55 yX3_isIn wsX3_isIn) := z_good (show ∀ w ∈ (Cond.methodLink RX3 55 yX3_isIn :: Cond.static yX3_isIn :: Cond.initialized RX3 :: Cond.code yX3_isIn prog_5_method_4_code 3 (some .boolean) :: wsAll), w ∈ wsAll from List.forall_mem_cons.mpr ⟨wm_468, List.forall_mem_cons.mpr ⟨wm_469, List.forall_mem_cons.mpr ⟨wm_114, List.forall_mem_cons.mpr ⟨wm_470, fun _ h => h⟩⟩⟩⟩)
abbrev r_X3_put : Room := { frames := 1, cells := 0, slots := 0, locals := 22 }
set_option maxHeartbeats 4000000 in
set_option maxRecDepth 100000 in
theorem c_X3_put (l : Launch) (dC : Nat → ClassId) (dI : Nat → Nat → Nat) (sz : Nat) (b : Nat → Nat) (cB : Nat → ClassId) (w h : Nat) (cd : Int) (wn mn kn : Nat → Int) (ik so : Int) (ks rs lf : Nat → Int) (K : MK) (x y v : Int) (hw : 1 ≤ w ∧ w ≤ 20) (hh : 1 ≤ h ∧ h ≤ 20) (h1 : rg x) (h2 : rg y) (h3 : rg v) (hwn : bd wn 0 1000) : Met l yX3_put wsX3_put r_X3_put (zP (dC, dI) vwCl (mdT cB) (mdW b cB w h cd wn mn kn ik so ks rs lf K) sz [.ref (b 0), .int (iI x), .int (iI y), .int (iI v)]) (zQi (dC, dI) vwCl (mdT cB) (mdW b cB w h cd wn mn kn ik so ks rs lf K) sz (True) (if cod2 (plB w h x y) (isW v 0 1000) ≤ 0 ∧ ¬ wn (20 * y + x).toNat = v then 1 else 0) (mdW b cB w h (cod2 (plB w h x y) (isW v 0 1000)) (puM wn (20 * y + x).toNat v (cod2 (plB w h x y) (isW v 0 1000))) mn kn ik so ks rs lf K)) 0 0 (va_A (mdW b cB w h cd wn mn kn ik so ks rs lf K) sz) := by
  refine Met.ofW (cc := cX3_put) (maxL := 4) (ret := (some .boolean)) (by decide) rfl ?_
  intro p e s m args below meth c s₁ B hml hv
  obtain ⟨rfl, hsz, hP, hK, hD0, hZ⟩ := hv
  have hx := B.exec
  have hb := B.bytes
  have hr := B.returns
  have hts0 := atoms_spec (ws := wsX3_put) B.pre
  have hts : ∀ w ∈ wsAll, w.before _ s = true := fun w h => hts0 w (List.mem_cons_of_mem _ h)
  have hown : s.vm.findClass RX3 = some m.cls := findClass_of_methodNamed B.named
  have hlocks := B.notSynchronized
  subst hsz
  have hD := hD0.self (sz := s.heap.size)
  obtain ⟨A, hAe⟩ : ∃ A, A = va_A (mdW b cB w h cd wn mn kn ik so ks rs lf K) s.heap.size := ⟨_, rfl⟩
  rw [← hAe] at hD hZ
  have hA : ∀ q : Nat, s.heap.size ≤ q → A q := fun q h => by rw [hAe]; exact Or.inr h
  have hS : va_S A s.heap s.heap [] := va_S.rf
  have hP : va_P (dC, dI) vwCl (mdW b cB w h cd wn mn kn ik so ks rs lf K) s.heap := hP
  have hl := lv_entry ([.ref (b 0), .int (iI x), .int (iI y), .int (iI v)]) (n := 4) (Nat.le_of_ble_eq_true rfl)
  rw [lg_entry_eq]
  generalize (lg_sl ([.ref (b 0), .int (iI x), .int (iI y), .int (iI v)]) ++ List.replicate (4 - (lg_sl ([.ref (b 0), .int (iI x), .int (iI y), .int (iI v)])).length) Slot.unset).toArray = ls at hl ⊢
  have hl : lv_has ls 4 [(0, .ref (b 0)), (1, .int (iI x)), (2, .int (iI y)), (3, .int (iI v))] := hl
  refine lv_aload_n hx hb dX3_put_0 rfl (lv_at hl 0 rfl) ?_
  refine lv_aload_n hx hb dX3_put_1 rfl (lv_at hl 0 rfl) ?_
  refine lv_iload_n hx hb dX3_put_2 rfl (lv_at hl 1 rfl) ?_
  refine lv_iload_n hx hb dX3_put_3 rfl (lv_at hl 2 rfl) ?_
  have hFc := z_freeR (wc := mdW b cB w h cd wn mn kn ik so ks rs lf K) (fun _ h => h) hD hS hA
  refine z_wcalli (va_runV (As := [.int (iI x), .int (iI y)]) (rest := [.ref (b 0)]) ⟨hx, hb, hml, hown, hts⟩ (c_X3_isPlace l dC dI (s.heap).size b cB w h cd wn mn kn ik so ks rs lf K x y hw hh (by omega) (by omega)) (cwV 2 hts g_X3_51 rfl rfl rfl (by decide +kernel) ⟨Nat.le_of_ble_eq_true rfl, Nat.le_of_ble_eq_true rfl⟩) (zP_V (ci := 3) (q0 := 0) rfl rfl hP hK hD hS hFc hZ) rfl rfl hl.1 rfl (lv_room (Nat.le_of_ble_eq_true rfl)) dX3_put_4 ⟨Nat.le_of_ble_eq_true rfl, Nat.le_of_ble_eq_true rfl⟩) hS hFc (fun H locs _ hP hD hS _ => ?_)
  have hP : va_P (dC, dI) vwCl (mdW b cB w h cd wn mn kn ik so ks rs lf K) H := hP
  have hD : va_D A (mdW b cB w h cd wn mn kn ik so ks rs lf K) := hD
  refine z_joinH (D := (dC, dI)) (cl := vwCl) (A := A) (ws := mdW b cB w h cd wn mn kn ik so ks rs lf K) (g0 := F0 m 30 ls [.int (iI (cod2 (plB w h x y) (isW v 0 1000))), .ref (b 0)]) (fun H locs hP hD hS => ?_) (fun J30 => ?_)
  · refine va_put (D := (dC, dI)) (ci := 3) (v := .int (iI (cod2 (plB w h x y) (isW v 0 1000)))) (ty := .int) (C := RX3) (T := TX3) (N := 18) hx hb hts inX3 tyX3 tyX3_ok nmX3 hown hK hP hD hS 0 rfl rfl 0 (by decide) (hts _ wm_403) (fun _ h9 => h9) rfl (by decide +kernel) rfl rfl (Nat.le_of_ble_eq_true rfl) dX3_put_30 (fun H locs hP hD hS => ?_)
    have hP : va_P (dC, dI) vwCl (mdW b cB w h (cod2 (plB w h x y) (isW v 0 1000)) wn mn kn ik so ks rs lf K) H := hP
    have hD : va_D A (mdW b cB w h (cod2 (plB w h x y) (isW v 0 1000)) wn mn kn ik so ks rs lf K) := hD
    refine lv_aload_n hx hb dX3_put_33 rfl (lv_at hl 0 rfl) ?_
    refine va_get (D := (dC, dI)) (ci := 3) (v := .int (iI (cod2 (plB w h x y) (isW v 0 1000)))) (C := RX3) (T := TX3) (N := 18) hx hb hts inX3 hown hK hP 0 rfl rfl 0 (by decide) (hts _ wm_403) (fun _ h9 => h9) rfl dX3_put_34 ?_
    have hcr := cod2_rg (plB w h x y) (isW v 0 1000)
    refine z_if_gt (tgt := 55) hx hb dX3_put_37 (by decide) (by omega) (fun c37 => ?_) (fun c37 => ?_)
    · refine lv_iconst (v := iI 0) hx hb dX3_put_55 rfl ?_
      subst hAe
      first | rw [show puM wn (20 * y + x).toNat v (cod2 (plB w h x y) (isW v 0 1000)) = wn from if_neg (by omega)] | rw [show puM wn (20 * y + x).toNat v (cod2 (plB w h x y) (isW v 0 1000)) = wn from by unfold puM; rw [if_pos (by omega), ← c52, uI_id]]
      refine z_top (b := if cod2 (plB w h x y) (isW v 0 1000) ≤ 0 ∧ ¬ wn (20 * y + x).toNat = v then 1 else 0) (by first | (rw [if_neg (fun z9 => by omega)]) | (rw [if_neg (fun z9 => z9.2 c52)])) ?_
      exact z_zret hx hb hr hlocks (by split <;> omega) hP hK hD hS (trivial) dX3_put_56
    · have hok := cod2_ok c37
      have hpl := plB_t.mp hok.1
      have hvr := isW_t.mp hok.2
      have hix := z_i20 hw.2 hh.2 hpl.1 hpl.2.1 hpl.2.2.1 hpl.2.2.2
      refine lv_aload_n hx hb dX3_put_40 rfl (lv_at hl 0 rfl) ?_
      refine va_get (D := (dC, dI)) (ci := 3) (v := .ref (b 1)) (C := RX3) (T := TX3) (N := 18) hx hb hts inX3 hown hK hP 0 rfl rfl 3 (by decide) (hts _ wm_406) (fun _ h9 => h9) rfl dX3_put_41 ?_
      refine lv_bipush (v := iI 20) hx hb dX3_put_44 (by decide) ?_
      refine lv_iload_n hx hb dX3_put_46 rfl (lv_at hl 2 rfl) ?_
      refine z_mul hx hb dX3_put_47 ?_
      refine lv_iload_n hx hb dX3_put_48 rfl (lv_at hl 1 rfl) ?_
      refine z_add hx hb dX3_put_49 ?_
      refine z_iald (f := wn) (i := (20 * y) + x) hx hb hK hP 1 0 rfl rfl (hix) (by decide) dX3_put_50 ?_
      have hb9 := hwn (20 * y + x).toNat
      refine lv_iload_n hx hb dX3_put_51 rfl (lv_at hl 3 rfl) ?_
      refine z_icmp_ne (tgt := 57) hx hb dX3_put_52 (by decide) (by omega) (by omega) (fun c52 => ?_) (fun c52 => ?_)
      · refine lv_aload_n hx hb dX3_put_57 rfl (lv_at hl 0 rfl) ?_
        refine va_get (D := (dC, dI)) (ci := 3) (v := .ref (b 1)) (C := RX3) (T := TX3) (N := 18) hx hb hts inX3 hown hK hP 0 rfl rfl 3 (by decide) (hts _ wm_406) (fun _ h9 => h9) rfl dX3_put_58 ?_
        refine lv_bipush (v := iI 20) hx hb dX3_put_61 (by decide) ?_
        refine lv_iload_n hx hb dX3_put_63 rfl (lv_at hl 2 rfl) ?_
        refine z_mul hx hb dX3_put_64 ?_
        refine lv_iload_n hx hb dX3_put_65 rfl (lv_at hl 1 rfl) ?_
        refine z_add hx hb dX3_put_66 ?_
        refine lv_iload_n hx hb dX3_put_67 rfl (lv_at hl 3 rfl) ?_
        refine z_iast (f := wn) (i := (20 * y) + x) (x := v) hx hb hK hP hD hS 1 0 rfl rfl (hix) (by decide) dX3_put_68 (fun H locs hP hD hS => ?_)
        have hP : va_P (dC, dI) vwCl (mdW b cB w h (cod2 (plB w h x y) (isW v 0 1000)) (uI wn ((20 * y) + x).toNat v) mn kn ik so ks rs lf K) H := hP
        have hD : va_D A (mdW b cB w h (cod2 (plB w h x y) (isW v 0 1000)) (uI wn ((20 * y) + x).toNat v) mn kn ik so ks rs lf K) := hD
        refine lv_iconst (v := iI 1) hx hb dX3_put_69 rfl ?_
        subst hAe
        rw [show puM wn (20 * y + x).toNat v (cod2 (plB w h x y) (isW v 0 1000)) = uI wn (20 * y + x).toNat v from if_pos (by omega)]
        refine z_top (b := if cod2 (plB w h x y) (isW v 0 1000) ≤ 0 ∧ ¬ wn (20 * y + x).toNat = v then 1 else 0) (by rw [if_pos ⟨by omega, c52⟩]) ?_
        exact z_zret hx hb hr hlocks (by split <;> omega) hP hK hD hS (trivial) dX3_put_70
      · refine lv_iconst (v := iI 0) hx hb dX3_put_55 rfl ?_
        subst hAe
        first | rw [show puM wn (20 * y + x).toNat v (cod2 (plB w h x y) (isW v 0 1000)) = wn from if_neg (by omega)] | rw [show puM wn (20 * y + x).toNat v (cod2 (plB w h x y) (isW v 0 1000)) = wn from by unfold puM; rw [if_pos (by omega), ← c52, uI_id]]
        refine z_top (b := if cod2 (plB w h x y) (isW v 0 1000) ≤ 0 ∧ ¬ wn (20 * y + x).toNat = v then 1 else 0) (by first | (rw [if_neg (fun z9 => by omega)]) | (rw [if_neg (fun z9 => z9.2 c52)])) ?_
        exact z_zret hx hb hr hlocks (by split <;> omega) hP hK hD hS (trivial) dX3_put_56
  · refine z_if_ne (tgt := 14) hx hb dX3_put_7 (by decide) (plB_rg _ _ _ _) (fun c7 => ?_) (fun c7 => ?_)
    · refine lv_iload_n hx hb dX3_put_14 rfl (lv_at hl 3 rfl) ?_
      refine lv_iconst (v := iI 0) hx hb dX3_put_15 rfl ?_
      refine lv_sipush (v := iI 1000) hx hb dX3_put_16 (by decide) ?_
      refine z_rcalli (va_runS (As := [.int (iI v), .int (iI 0), .int (iI 1000)]) (rest := [.ref (b 0)]) ⟨hx, hb, hml, hown, hts⟩ (c_X3_isIn l dC dI (H).size v 0 1000 (by omega) (by omega) (by omega)) (va_cwS 3 hts g_X3_55 rfl rfl rfl (by decide +kernel) ⟨Nat.le_of_ble_eq_true rfl, Nat.le_of_ble_eq_true rfl⟩) (zP_S z_P0 (hK.sub [] rfl) z_D0 hS (z_free0 hS hA) hZ) rfl rfl hl.1 rfl (lv_room (Nat.le_of_ble_eq_true rfl)) dX3_put_19 ⟨Nat.le_of_ble_eq_true rfl, Nat.le_of_ble_eq_true rfl⟩) hP hD hS (z_free0 hS hA) (fun _ h => by cases h) (fun H locs _ hP hD hS _ => ?_)
      refine z_if_eq (tgt := 29) hx hb dX3_put_22 (by decide) (isW_rg _ _ _) (fun c22 => ?_) (fun c22 => ?_)
      · refine lv_iconst (v := iI 2) hx hb dX3_put_29 rfl ?_
        exact z_top (b := cod2 (plB w h x y) (isW v 0 1000)) (by unfold cod2; (repeat' split) <;> omega) (J30 _ _ hP hD hS)
      · refine lv_iconst (v := iI 0) hx hb dX3_put_25 rfl ?_
        refine lv_goto (tgt := 30) hx hb dX3_put_26 (by decide) ?_
        exact z_top (b := cod2 (plB w h x y) (isW v 0 1000)) (by unfold cod2; (repeat' split) <;> omega) (J30 _ _ hP hD hS)
    · refine lv_iconst (v := iI 1) hx hb dX3_put_10 rfl ?_
      refine lv_goto (tgt := 30) hx hb dX3_put_11 (by decide) ?_
      exact z_top (b := cod2 (plB w h x y) (isW v 0 1000)) (by unfold cod2; (repeat' split) <;> omega) (J30 _ _ hP hD hS)
