abbrev r_X2_isWithin : Room := { frames := 0, cells := 0, slots := 0, locals := 0 }
set_option maxHeartbeats 4000000 in
set_option maxRecDepth 100000 in
theorem c_X2_isWithin (l : Launch) (dC : Nat → ClassId) (dI : Nat → Nat → Nat) (sz : Nat) (n a b : Int) (h1 : rg n) (h2 : rg a) (h3 : rg b) : Met l yX2_isWithin wsX2_isWithin r_X2_isWithin (zP (dC, dI) vwCl ([]) ([]) sz [.int (iI n), .int (iI a), .int (iI b)]) (zQi (dC, dI) vwCl ([]) ([]) sz (True) (isW n a b) ([])) 0 0 (va_A ([]) sz) := by
  refine Met.ofW (cc := cX2_isWithin) (maxL := 3) (ret := (some .boolean)) (by decide) rfl ?_
  intro p e s m args below meth c s₁ B hml hv
  obtain ⟨rfl, hsz, hP, hK, hD0, hZ⟩ := hv
  have hx := B.exec
  have hb := B.bytes
  have hr := B.returns
  have hts0 := atoms_spec (ws := wsX2_isWithin) B.pre
  have hts : ∀ w ∈ wsAll, w.before _ s = true := fun w h => hts0 w (List.mem_cons_of_mem _ h)
  have hown : s.vm.findClass RX2 = some m.cls := findClass_of_methodNamed B.named
  have hlocks := B.notSynchronized
  subst hsz
  have hD := hD0.self (sz := s.heap.size)
  obtain ⟨A, hAe⟩ : ∃ A, A = va_A ([]) s.heap.size := ⟨_, rfl⟩
  rw [← hAe] at hD hZ
  have hA : ∀ q : Nat, s.heap.size ≤ q → A q := fun q h => by rw [hAe]; exact Or.inr h
  have hS : va_S A s.heap s.heap [] := va_S.rf
  have hP : va_P (dC, dI) vwCl ([]) s.heap := hP
  have hl := lv_entry ([.int (iI n), .int (iI a), .int (iI b)]) (n := 3) (Nat.le_of_ble_eq_true rfl)
  rw [lg_entry_eq]
  generalize (lg_sl ([.int (iI n), .int (iI a), .int (iI b)]) ++ List.replicate (3 - (lg_sl ([.int (iI n), .int (iI a), .int (iI b)])).length) Slot.unset).toArray = ls at hl ⊢
  have hl : lv_has ls 3 [(0, .int (iI n)), (1, .int (iI a)), (2, .int (iI b))] := hl
  refine lv_iload_n hx hb dX2_isWithin_0 rfl (lv_at hl 0 rfl) ?_
  refine lv_iload_n hx hb dX2_isWithin_1 rfl (lv_at hl 1 rfl) ?_
  refine z_icmp_lt (tgt := 14) hx hb dX2_isWithin_2 (by decide) (by omega) (by omega) (fun c2 => ?_) (fun c2 => ?_)
  · refine lv_iconst (v := iI 0) hx hb dX2_isWithin_14 rfl ?_
    subst hAe
    refine z_top (b := isW n a b) (by unfold isW; split <;> omega) ?_
    exact z_zret hx hb hr hlocks (isW_01 _ _ _) hP hK hD hS (trivial) dX2_isWithin_15
  · refine lv_iload_n hx hb dX2_isWithin_5 rfl (lv_at hl 0 rfl) ?_
    refine lv_iload_n hx hb dX2_isWithin_6 rfl (lv_at hl 2 rfl) ?_
    refine z_icmp_gt (tgt := 14) hx hb dX2_isWithin_7 (by decide) (by omega) (by omega) (fun c7 => ?_) (fun c7 => ?_)
    · refine lv_iconst (v := iI 0) hx hb dX2_isWithin_14 rfl ?_
      subst hAe
      refine z_top (b := isW n a b) (by unfold isW; split <;> omega) ?_
      exact z_zret hx hb hr hlocks (isW_01 _ _ _) hP hK hD hS (trivial) dX2_isWithin_15
    · refine lv_iconst (v := iI 1) hx hb dX2_isWithin_10 rfl ?_
      refine lv_goto (tgt := 15) hx hb dX2_isWithin_11 (by decide) ?_
      subst hAe
      refine z_top (b := isW n a b) (by unfold isW; split <;> omega) ?_
      exact z_zret hx hb hr hlocks (isW_01 _ _ _) hP hK hD hS (trivial) dX2_isWithin_15
abbrev r_X2_nearest : Room := { frames := 1, cells := 0, slots := 0, locals := 24 }
set_option maxHeartbeats 4000000 in
set_option maxRecDepth 100000 in
theorem c_X2_nearest (l : Launch) (dC : Nat → ClassId) (dI : Nat → Nat → Nat) (sz : Nat) (n a b : Int) (h1 : rg n) (h2 : rg a) (h3 : rg b) : Met l yX2_nearest wsX2_nearest r_X2_nearest (zP (dC, dI) vwCl ([]) ([]) sz [.int (iI n), .int (iI a), .int (iI b)]) (zQi (dC, dI) vwCl ([]) ([]) sz (True) (max a (min b n)) ([])) 0 0 (va_A ([]) sz) := by
  refine Met.ofW (cc := cX2_nearest) (maxL := 3) (ret := (some .int)) (by decide) rfl ?_
  intro p e s m args below meth c s₁ B hml hv
  obtain ⟨rfl, hsz, hP, hK, hD0, hZ⟩ := hv
  have hx := B.exec
  have hb := B.bytes
  have hr := B.returns
  have hts0 := atoms_spec (ws := wsX2_nearest) B.pre
  have hts : ∀ w ∈ wsAll, w.before _ s = true := fun w h => hts0 w (List.mem_cons_of_mem _ h)
  have hown : s.vm.findClass RX2 = some m.cls := findClass_of_methodNamed B.named
  have hlocks := B.notSynchronized
  subst hsz
  have hD := hD0.self (sz := s.heap.size)
  obtain ⟨A, hAe⟩ : ∃ A, A = va_A ([]) s.heap.size := ⟨_, rfl⟩
  rw [← hAe] at hD hZ
  have hA : ∀ q : Nat, s.heap.size ≤ q → A q := fun q h => by rw [hAe]; exact Or.inr h
  have hS : va_S A s.heap s.heap [] := va_S.rf
  have hP : va_P (dC, dI) vwCl ([]) s.heap := hP
  have hl := lv_entry ([.int (iI n), .int (iI a), .int (iI b)]) (n := 3) (Nat.le_of_ble_eq_true rfl)
  rw [lg_entry_eq]
  generalize (lg_sl ([.int (iI n), .int (iI a), .int (iI b)]) ++ List.replicate (3 - (lg_sl ([.int (iI n), .int (iI a), .int (iI b)])).length) Slot.unset).toArray = ls at hl ⊢
  have hl : lv_has ls 3 [(0, .int (iI n)), (1, .int (iI a)), (2, .int (iI b))] := hl
  refine lv_iload_n hx hb dX2_nearest_0 rfl (lv_at hl 1 rfl) ?_
  refine lv_iload_n hx hb dX2_nearest_1 rfl (lv_at hl 2 rfl) ?_
  refine lv_iload_n hx hb dX2_nearest_2 rfl (lv_at hl 0 rfl) ?_
  refine z_min hx hb (hml.trans hl.1.symm) hown (hts _ wm_124) (hts _ wm_125) (hts _ wm_110) (hts _ wm_126) (Nat.le_of_ble_eq_true rfl) (Nat.le_of_ble_eq_true rfl) (Nat.le_of_ble_eq_true rfl) (Nat.le_of_ble_eq_true rfl) dX2_nearest_3 (by omega) (by omega) ?_
  refine z_max hx hb (hml.trans hl.1.symm) hown (hts _ wm_127) (hts _ wm_128) (hts _ wm_110) (hts _ wm_129) (Nat.le_of_ble_eq_true rfl) (Nat.le_of_ble_eq_true rfl) (Nat.le_of_ble_eq_true rfl) (Nat.le_of_ble_eq_true rfl) dX2_nearest_6 (by omega) (by omega) ?_
  subst hAe
  exact z_iret hx hb hr hlocks hP hK hD hS (trivial) dX2_nearest_9
abbrev r_X0_cellOf : Room := { frames := 0, cells := 0, slots := 0, locals := 0 }
set_option maxHeartbeats 4000000 in
set_option maxRecDepth 100000 in
theorem c_X0_cellOf (l : Launch) (dC : Nat → ClassId) (dI : Nat → Nat → Nat) (sz : Nat) (x y : Int) : Met l yX0_cellOf wsX0_cellOf r_X0_cellOf (zP (dC, dI) vwCl ([]) ([]) sz [.int (iI x), .int (iI y)]) (zQi (dC, dI) vwCl ([]) ([]) sz (True) ((y + 5) * 11 + x + 5) ([])) 0 0 (va_A ([]) sz) := by
  refine Met.ofW (cc := cX0_cellOf) (maxL := 2) (ret := (some .int)) (by decide) rfl ?_
  intro p e s m args below meth c s₁ B hml hv
  obtain ⟨rfl, hsz, hP, hK, hD0, hZ⟩ := hv
  have hx := B.exec
  have hb := B.bytes
  have hr := B.returns
  have hts0 := atoms_spec (ws := wsX0_cellOf) B.pre
  have hts : ∀ w ∈ wsAll, w.before _ s = true := fun w h => hts0 w (List.mem_cons_of_mem _ h)
  have hown : s.vm.findClass RX0 = some m.cls := findClass_of_methodNamed B.named
  have hlocks := B.notSynchronized
  subst hsz
  have hD := hD0.self (sz := s.heap.size)
  obtain ⟨A, hAe⟩ : ∃ A, A = va_A ([]) s.heap.size := ⟨_, rfl⟩
  rw [← hAe] at hD hZ
  have hA : ∀ q : Nat, s.heap.size ≤ q → A q := fun q h => by rw [hAe]; exact Or.inr h
  have hS : va_S A s.heap s.heap [] := va_S.rf
  have hP : va_P (dC, dI) vwCl ([]) s.heap := hP
  have hl := lv_entry ([.int (iI x), .int (iI y)]) (n := 2) (Nat.le_of_ble_eq_true rfl)
  rw [lg_entry_eq]
  generalize (lg_sl ([.int (iI x), .int (iI y)]) ++ List.replicate (2 - (lg_sl ([.int (iI x), .int (iI y)])).length) Slot.unset).toArray = ls at hl ⊢
  have hl : lv_has ls 2 [(0, .int (iI x)), (1, .int (iI y))] := hl
  refine lv_iload_n hx hb dX0_cellOf_0 rfl (lv_at hl 1 rfl) ?_
  refine lv_iconst (v := iI 5) hx hb dX0_cellOf_1 rfl ?_
  refine z_add hx hb dX0_cellOf_2 ?_
  refine lv_bipush (v := iI 11) hx hb dX0_cellOf_3 (by decide) ?_
  refine z_mul hx hb dX0_cellOf_5 ?_
  refine lv_iload_n hx hb dX0_cellOf_6 rfl (lv_at hl 0 rfl) ?_
  refine z_add hx hb dX0_cellOf_7 ?_
  refine lv_iconst (v := iI 5) hx hb dX0_cellOf_8 rfl ?_
  refine z_add hx hb dX0_cellOf_9 ?_
  subst hAe
  refine z_top (b := (y + 5) * 11 + x + 5) (by omega) ?_
  exact z_iret hx hb hr hlocks hP hK hD hS (trivial) dX0_cellOf_10
