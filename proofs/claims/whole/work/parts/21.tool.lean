abbrev r_X0_floorRoot : Room := { frames := 0, cells := 0, slots := 0, locals := 0 }
set_option maxHeartbeats 4000000 in
set_option maxRecDepth 100000 in
theorem c_X0_floorRoot (l : Launch) (dC : Nat → ClassId) (dI : Nat → Nat → Nat) (sz : Nat) (q : Int) (h1 : rg q) : Met l yX0_floorRoot wsX0_floorRoot r_X0_floorRoot (zP (dC, dI) vwCl ([]) ([]) sz [.int (iI q)]) (zQi (dC, dI) vwCl ([]) ([]) sz (True) (flR q) ([])) 0 0 (va_A ([]) sz) := by
  refine Met.ofW (cc := cX0_floorRoot) (maxL := 2) (ret := (some .int)) (by decide) rfl ?_
  intro p e s m args below meth c s₁ B hml hv
  obtain ⟨rfl, hsz, hP, hK, hD0, hZ⟩ := hv
  have hx := B.exec
  have hb := B.bytes
  have hr := B.returns
  have hts0 := atoms_spec (ws := wsX0_floorRoot) B.pre
  have hts : ∀ w ∈ wsAll, w.before _ s = true := fun w h => hts0 w (List.mem_cons_of_mem _ h)
  have hown : s.vm.findClass RX0 = some m.cls := findClass_of_methodNamed B.named
  have hlocks := B.notSynchronized
  subst hsz
  have hD := hD0.self (sz := s.heap.size)
  obtain ⟨A, hAe⟩ : ∃ A, A = va_A ([]) s.heap.size := ⟨_, rfl⟩
  rw [← hAe] at hD hZ
  have hA : ∀ q : Nat, s.heap.size ≤ q → A q := fun q h => by rw [hAe]; exact Or.inr h
  have hS : va_S A s.heap s.heap [] := va_S.rf
  have hP : va_P (dC, dI) vwCl ([]) s.heap := hP
  have hl := lv_entry ([.int (iI q)]) (n := 2) (Nat.le_of_ble_eq_true rfl)
  rw [lg_entry_eq]
  generalize (lg_sl ([.int (iI q)]) ++ List.replicate (2 - (lg_sl ([.int (iI q)])).length) Slot.unset).toArray = ls at hl ⊢
  have hl : lv_has ls 2 [(0, .int (iI q))] := hl
  refine lv_iconst (v := iI 0) hx hb dX0_floorRoot_0 rfl ?_
  refine lv_istore_n (lv' := [(1, .int (iI 0)), (0, .int (iI q))]) hx hb dX0_floorRoot_1 rfl hl (by decide) rfl (fun ls hl => ?_)
  refine lv_iload_n hx hb dX0_floorRoot_2 rfl (lv_at hl 0 rfl) ?_
  refine lv_iconst (v := iI 5) hx hb dX0_floorRoot_3 rfl ?_
  refine z_icmp_ge (tgt := 24) hx hb dX0_floorRoot_4 (by decide) (by omega) (by omega) (fun c4 => by exfalso; omega) (fun c4 => ?_)
  refine lv_iload_n hx hb dX0_floorRoot_7 rfl (lv_at hl 0 rfl) ?_
  refine lv_iconst (v := iI 1) hx hb dX0_floorRoot_8 rfl ?_
  refine z_add hx hb dX0_floorRoot_9 ?_
  refine lv_iload_n hx hb dX0_floorRoot_10 rfl (lv_at hl 0 rfl) ?_
  refine lv_iconst (v := iI 1) hx hb dX0_floorRoot_11 rfl ?_
  refine z_add hx hb dX0_floorRoot_12 ?_
  refine z_mul hx hb dX0_floorRoot_13 ?_
  refine lv_iload_n hx hb dX0_floorRoot_14 rfl (lv_at hl 1 rfl) ?_
  refine z_icmp_gt (tgt := 24) hx hb dX0_floorRoot_15 (by decide) (by omega) (by omega) (fun c15 => ?_) (fun c15 => ?_)
  · refine lv_iload_n hx hb dX0_floorRoot_24 rfl (lv_at hl 0 rfl) ?_
    subst hAe
    refine z_top (b := flR q) (by unfold flR; (repeat' split) <;> omega) ?_
    exact z_iret hx hb hr hlocks hP hK hD hS (trivial) dX0_floorRoot_25
  · refine lv_iinc (v := iI 1) (lv' := [(1, .int (iI 1)), (0, .int (iI q))]) hx hb dX0_floorRoot_18 hl (k := 0) rfl ((iI_add _ _).trans (congrArg iI (by omega))) (by decide) rfl (fun ls hl => ?_)
    refine lv_goto (tgt := 2) hx hb dX0_floorRoot_21 (by decide) ?_
    refine lv_iload_n hx hb dX0_floorRoot_2 rfl (lv_at hl 0 rfl) ?_
    refine lv_iconst (v := iI 5) hx hb dX0_floorRoot_3 rfl ?_
    refine z_icmp_ge (tgt := 24) hx hb dX0_floorRoot_4 (by decide) (by omega) (by omega) (fun c4 => by exfalso; omega) (fun c4 => ?_)
    refine lv_iload_n hx hb dX0_floorRoot_7 rfl (lv_at hl 0 rfl) ?_
    refine lv_iconst (v := iI 1) hx hb dX0_floorRoot_8 rfl ?_
    refine z_add hx hb dX0_floorRoot_9 ?_
    refine lv_iload_n hx hb dX0_floorRoot_10 rfl (lv_at hl 0 rfl) ?_
    refine lv_iconst (v := iI 1) hx hb dX0_floorRoot_11 rfl ?_
    refine z_add hx hb dX0_floorRoot_12 ?_
    refine z_mul hx hb dX0_floorRoot_13 ?_
    refine lv_iload_n hx hb dX0_floorRoot_14 rfl (lv_at hl 1 rfl) ?_
    refine z_icmp_gt (tgt := 24) hx hb dX0_floorRoot_15 (by decide) (by omega) (by omega) (fun c15 => ?_) (fun c15 => ?_)
    · refine lv_iload_n hx hb dX0_floorRoot_24 rfl (lv_at hl 0 rfl) ?_
      subst hAe
      refine z_top (b := flR q) (by unfold flR; (repeat' split) <;> omega) ?_
      exact z_iret hx hb hr hlocks hP hK hD hS (trivial) dX0_floorRoot_25
    · refine lv_iinc (v := iI 2) (lv' := [(1, .int (iI 2)), (0, .int (iI q))]) hx hb dX0_floorRoot_18 hl (k := 0) rfl ((iI_add _ _).trans (congrArg iI (by omega))) (by decide) rfl (fun ls hl => ?_)
      refine lv_goto (tgt := 2) hx hb dX0_floorRoot_21 (by decide) ?_
      refine lv_iload_n hx hb dX0_floorRoot_2 rfl (lv_at hl 0 rfl) ?_
      refine lv_iconst (v := iI 5) hx hb dX0_floorRoot_3 rfl ?_
      refine z_icmp_ge (tgt := 24) hx hb dX0_floorRoot_4 (by decide) (by omega) (by omega) (fun c4 => by exfalso; omega) (fun c4 => ?_)
      refine lv_iload_n hx hb dX0_floorRoot_7 rfl (lv_at hl 0 rfl) ?_
      refine lv_iconst (v := iI 1) hx hb dX0_floorRoot_8 rfl ?_
      refine z_add hx hb dX0_floorRoot_9 ?_
      refine lv_iload_n hx hb dX0_floorRoot_10 rfl (lv_at hl 0 rfl) ?_
      refine lv_iconst (v := iI 1) hx hb dX0_floorRoot_11 rfl ?_
      refine z_add hx hb dX0_floorRoot_12 ?_
      refine z_mul hx hb dX0_floorRoot_13 ?_
      refine lv_iload_n hx hb dX0_floorRoot_14 rfl (lv_at hl 1 rfl) ?_
      refine z_icmp_gt (tgt := 24) hx hb dX0_floorRoot_15 (by decide) (by omega) (by omega) (fun c15 => ?_) (fun c15 => ?_)
      · refine lv_iload_n hx hb dX0_floorRoot_24 rfl (lv_at hl 0 rfl) ?_
        subst hAe
        refine z_top (b := flR q) (by unfold flR; (repeat' split) <;> omega) ?_
        exact z_iret hx hb hr hlocks hP hK hD hS (trivial) dX0_floorRoot_25
      · refine lv_iinc (v := iI 3) (lv' := [(1, .int (iI 3)), (0, .int (iI q))]) hx hb dX0_floorRoot_18 hl (k := 0) rfl ((iI_add _ _).trans (congrArg iI (by omega))) (by decide) rfl (fun ls hl => ?_)
        refine lv_goto (tgt := 2) hx hb dX0_floorRoot_21 (by decide) ?_
        refine lv_iload_n hx hb dX0_floorRoot_2 rfl (lv_at hl 0 rfl) ?_
        refine lv_iconst (v := iI 5) hx hb dX0_floorRoot_3 rfl ?_
        refine z_icmp_ge (tgt := 24) hx hb dX0_floorRoot_4 (by decide) (by omega) (by omega) (fun c4 => by exfalso; omega) (fun c4 => ?_)
        refine lv_iload_n hx hb dX0_floorRoot_7 rfl (lv_at hl 0 rfl) ?_
        refine lv_iconst (v := iI 1) hx hb dX0_floorRoot_8 rfl ?_
        refine z_add hx hb dX0_floorRoot_9 ?_
        refine lv_iload_n hx hb dX0_floorRoot_10 rfl (lv_at hl 0 rfl) ?_
        refine lv_iconst (v := iI 1) hx hb dX0_floorRoot_11 rfl ?_
        refine z_add hx hb dX0_floorRoot_12 ?_
        refine z_mul hx hb dX0_floorRoot_13 ?_
        refine lv_iload_n hx hb dX0_floorRoot_14 rfl (lv_at hl 1 rfl) ?_
        refine z_icmp_gt (tgt := 24) hx hb dX0_floorRoot_15 (by decide) (by omega) (by omega) (fun c15 => ?_) (fun c15 => ?_)
        · refine lv_iload_n hx hb dX0_floorRoot_24 rfl (lv_at hl 0 rfl) ?_
          subst hAe
          refine z_top (b := flR q) (by unfold flR; (repeat' split) <;> omega) ?_
          exact z_iret hx hb hr hlocks hP hK hD hS (trivial) dX0_floorRoot_25
        · refine lv_iinc (v := iI 4) (lv' := [(1, .int (iI 4)), (0, .int (iI q))]) hx hb dX0_floorRoot_18 hl (k := 0) rfl ((iI_add _ _).trans (congrArg iI (by omega))) (by decide) rfl (fun ls hl => ?_)
          refine lv_goto (tgt := 2) hx hb dX0_floorRoot_21 (by decide) ?_
          refine lv_iload_n hx hb dX0_floorRoot_2 rfl (lv_at hl 0 rfl) ?_
          refine lv_iconst (v := iI 5) hx hb dX0_floorRoot_3 rfl ?_
          refine z_icmp_ge (tgt := 24) hx hb dX0_floorRoot_4 (by decide) (by omega) (by omega) (fun c4 => by exfalso; omega) (fun c4 => ?_)
          refine lv_iload_n hx hb dX0_floorRoot_7 rfl (lv_at hl 0 rfl) ?_
          refine lv_iconst (v := iI 1) hx hb dX0_floorRoot_8 rfl ?_
          refine z_add hx hb dX0_floorRoot_9 ?_
          refine lv_iload_n hx hb dX0_floorRoot_10 rfl (lv_at hl 0 rfl) ?_
          refine lv_iconst (v := iI 1) hx hb dX0_floorRoot_11 rfl ?_
          refine z_add hx hb dX0_floorRoot_12 ?_
          refine z_mul hx hb dX0_floorRoot_13 ?_
          refine lv_iload_n hx hb dX0_floorRoot_14 rfl (lv_at hl 1 rfl) ?_
          refine z_icmp_gt (tgt := 24) hx hb dX0_floorRoot_15 (by decide) (by omega) (by omega) (fun c15 => ?_) (fun c15 => ?_)
          · refine lv_iload_n hx hb dX0_floorRoot_24 rfl (lv_at hl 0 rfl) ?_
            subst hAe
            refine z_top (b := flR q) (by unfold flR; (repeat' split) <;> omega) ?_
            exact z_iret hx hb hr hlocks hP hK hD hS (trivial) dX0_floorRoot_25
          · refine lv_iinc (v := iI 5) (lv' := [(1, .int (iI 5)), (0, .int (iI q))]) hx hb dX0_floorRoot_18 hl (k := 0) rfl ((iI_add _ _).trans (congrArg iI (by omega))) (by decide) rfl (fun ls hl => ?_)
            refine lv_goto (tgt := 2) hx hb dX0_floorRoot_21 (by decide) ?_
            refine lv_iload_n hx hb dX0_floorRoot_2 rfl (lv_at hl 0 rfl) ?_
            refine lv_iconst (v := iI 5) hx hb dX0_floorRoot_3 rfl ?_
            refine z_icmp_ge (tgt := 24) hx hb dX0_floorRoot_4 (by decide) (by omega) (by omega) (fun c4 => ?_) (fun c4 => by exfalso; omega)
            refine lv_iload_n hx hb dX0_floorRoot_24 rfl (lv_at hl 0 rfl) ?_
            subst hAe
            refine z_top (b := flR q) (by unfold flR; (repeat' split) <;> omega) ?_
            exact z_iret hx hb hr hlocks hP hK hD hS (trivial) dX0_floorRoot_25
abbrev r_X0_ceilRoot : Room := { frames := 0, cells := 0, slots := 0, locals := 0 }
set_option maxHeartbeats 4000000 in
set_option maxRecDepth 100000 in
theorem c_X0_ceilRoot (l : Launch) (dC : Nat → ClassId) (dI : Nat → Nat → Nat) (sz : Nat) (q : Int) (h1 : rg q) : Met l yX0_ceilRoot wsX0_ceilRoot r_X0_ceilRoot (zP (dC, dI) vwCl ([]) ([]) sz [.int (iI q)]) (zQi (dC, dI) vwCl ([]) ([]) sz (True) (clR q) ([])) 0 0 (va_A ([]) sz) := by
  refine Met.ofW (cc := cX0_ceilRoot) (maxL := 2) (ret := (some .int)) (by decide) rfl ?_
  intro p e s m args below meth c s₁ B hml hv
  obtain ⟨rfl, hsz, hP, hK, hD0, hZ⟩ := hv
  have hx := B.exec
  have hb := B.bytes
  have hr := B.returns
  have hts0 := atoms_spec (ws := wsX0_ceilRoot) B.pre
  have hts : ∀ w ∈ wsAll, w.before _ s = true := fun w h => hts0 w (List.mem_cons_of_mem _ h)
  have hown : s.vm.findClass RX0 = some m.cls := findClass_of_methodNamed B.named
  have hlocks := B.notSynchronized
  subst hsz
  have hD := hD0.self (sz := s.heap.size)
  obtain ⟨A, hAe⟩ : ∃ A, A = va_A ([]) s.heap.size := ⟨_, rfl⟩
  rw [← hAe] at hD hZ
  have hA : ∀ q : Nat, s.heap.size ≤ q → A q := fun q h => by rw [hAe]; exact Or.inr h
  have hS : va_S A s.heap s.heap [] := va_S.rf
  have hP : va_P (dC, dI) vwCl ([]) s.heap := hP
  have hl := lv_entry ([.int (iI q)]) (n := 2) (Nat.le_of_ble_eq_true rfl)
  rw [lg_entry_eq]
  generalize (lg_sl ([.int (iI q)]) ++ List.replicate (2 - (lg_sl ([.int (iI q)])).length) Slot.unset).toArray = ls at hl ⊢
  have hl : lv_has ls 2 [(0, .int (iI q))] := hl
  refine lv_iconst (v := iI 0) hx hb dX0_ceilRoot_0 rfl ?_
  refine lv_istore_n (lv' := [(1, .int (iI 0)), (0, .int (iI q))]) hx hb dX0_ceilRoot_1 rfl hl (by decide) rfl (fun ls hl => ?_)
  refine lv_iload_n hx hb dX0_ceilRoot_2 rfl (lv_at hl 0 rfl) ?_
  refine lv_iconst (v := iI 5) hx hb dX0_ceilRoot_3 rfl ?_
  refine z_icmp_ge (tgt := 20) hx hb dX0_ceilRoot_4 (by decide) (by omega) (by omega) (fun c4 => by exfalso; omega) (fun c4 => ?_)
  refine lv_iload_n hx hb dX0_ceilRoot_7 rfl (lv_at hl 0 rfl) ?_
  refine lv_iload_n hx hb dX0_ceilRoot_8 rfl (lv_at hl 0 rfl) ?_
  refine z_mul hx hb dX0_ceilRoot_9 ?_
  refine lv_iload_n hx hb dX0_ceilRoot_10 rfl (lv_at hl 1 rfl) ?_
  refine z_icmp_ge (tgt := 20) hx hb dX0_ceilRoot_11 (by decide) (by omega) (by omega) (fun c11 => ?_) (fun c11 => ?_)
  · refine lv_iload_n hx hb dX0_ceilRoot_20 rfl (lv_at hl 0 rfl) ?_
    subst hAe
    refine z_top (b := clR q) (by unfold clR; (repeat' split) <;> omega) ?_
    exact z_iret hx hb hr hlocks hP hK hD hS (trivial) dX0_ceilRoot_21
  · refine lv_iinc (v := iI 1) (lv' := [(1, .int (iI 1)), (0, .int (iI q))]) hx hb dX0_ceilRoot_14 hl (k := 0) rfl ((iI_add _ _).trans (congrArg iI (by omega))) (by decide) rfl (fun ls hl => ?_)
    refine lv_goto (tgt := 2) hx hb dX0_ceilRoot_17 (by decide) ?_
    refine lv_iload_n hx hb dX0_ceilRoot_2 rfl (lv_at hl 0 rfl) ?_
    refine lv_iconst (v := iI 5) hx hb dX0_ceilRoot_3 rfl ?_
    refine z_icmp_ge (tgt := 20) hx hb dX0_ceilRoot_4 (by decide) (by omega) (by omega) (fun c4 => by exfalso; omega) (fun c4 => ?_)
    refine lv_iload_n hx hb dX0_ceilRoot_7 rfl (lv_at hl 0 rfl) ?_
    refine lv_iload_n hx hb dX0_ceilRoot_8 rfl (lv_at hl 0 rfl) ?_
    refine z_mul hx hb dX0_ceilRoot_9 ?_
    refine lv_iload_n hx hb dX0_ceilRoot_10 rfl (lv_at hl 1 rfl) ?_
    refine z_icmp_ge (tgt := 20) hx hb dX0_ceilRoot_11 (by decide) (by omega) (by omega) (fun c11 => ?_) (fun c11 => ?_)
    · refine lv_iload_n hx hb dX0_ceilRoot_20 rfl (lv_at hl 0 rfl) ?_
      subst hAe
      refine z_top (b := clR q) (by unfold clR; (repeat' split) <;> omega) ?_
      exact z_iret hx hb hr hlocks hP hK hD hS (trivial) dX0_ceilRoot_21
    · refine lv_iinc (v := iI 2) (lv' := [(1, .int (iI 2)), (0, .int (iI q))]) hx hb dX0_ceilRoot_14 hl (k := 0) rfl ((iI_add _ _).trans (congrArg iI (by omega))) (by decide) rfl (fun ls hl => ?_)
      refine lv_goto (tgt := 2) hx hb dX0_ceilRoot_17 (by decide) ?_
      refine lv_iload_n hx hb dX0_ceilRoot_2 rfl (lv_at hl 0 rfl) ?_
      refine lv_iconst (v := iI 5) hx hb dX0_ceilRoot_3 rfl ?_
      refine z_icmp_ge (tgt := 20) hx hb dX0_ceilRoot_4 (by decide) (by omega) (by omega) (fun c4 => by exfalso; omega) (fun c4 => ?_)
      refine lv_iload_n hx hb dX0_ceilRoot_7 rfl (lv_at hl 0 rfl) ?_
      refine lv_iload_n hx hb dX0_ceilRoot_8 rfl (lv_at hl 0 rfl) ?_
      refine z_mul hx hb dX0_ceilRoot_9 ?_
      refine lv_iload_n hx hb dX0_ceilRoot_10 rfl (lv_at hl 1 rfl) ?_
      refine z_icmp_ge (tgt := 20) hx hb dX0_ceilRoot_11 (by decide) (by omega) (by omega) (fun c11 => ?_) (fun c11 => ?_)
      · refine lv_iload_n hx hb dX0_ceilRoot_20 rfl (lv_at hl 0 rfl) ?_
        subst hAe
        refine z_top (b := clR q) (by unfold clR; (repeat' split) <;> omega) ?_
        exact z_iret hx hb hr hlocks hP hK hD hS (trivial) dX0_ceilRoot_21
      · refine lv_iinc (v := iI 3) (lv' := [(1, .int (iI 3)), (0, .int (iI q))]) hx hb dX0_ceilRoot_14 hl (k := 0) rfl ((iI_add _ _).trans (congrArg iI (by omega))) (by decide) rfl (fun ls hl => ?_)
        refine lv_goto (tgt := 2) hx hb dX0_ceilRoot_17 (by decide) ?_
        refine lv_iload_n hx hb dX0_ceilRoot_2 rfl (lv_at hl 0 rfl) ?_
        refine lv_iconst (v := iI 5) hx hb dX0_ceilRoot_3 rfl ?_
        refine z_icmp_ge (tgt := 20) hx hb dX0_ceilRoot_4 (by decide) (by omega) (by omega) (fun c4 => by exfalso; omega) (fun c4 => ?_)
        refine lv_iload_n hx hb dX0_ceilRoot_7 rfl (lv_at hl 0 rfl) ?_
        refine lv_iload_n hx hb dX0_ceilRoot_8 rfl (lv_at hl 0 rfl) ?_
        refine z_mul hx hb dX0_ceilRoot_9 ?_
        refine lv_iload_n hx hb dX0_ceilRoot_10 rfl (lv_at hl 1 rfl) ?_
        refine z_icmp_ge (tgt := 20) hx hb dX0_ceilRoot_11 (by decide) (by omega) (by omega) (fun c11 => ?_) (fun c11 => ?_)
        · refine lv_iload_n hx hb dX0_ceilRoot_20 rfl (lv_at hl 0 rfl) ?_
          subst hAe
          refine z_top (b := clR q) (by unfold clR; (repeat' split) <;> omega) ?_
          exact z_iret hx hb hr hlocks hP hK hD hS (trivial) dX0_ceilRoot_21
        · refine lv_iinc (v := iI 4) (lv' := [(1, .int (iI 4)), (0, .int (iI q))]) hx hb dX0_ceilRoot_14 hl (k := 0) rfl ((iI_add _ _).trans (congrArg iI (by omega))) (by decide) rfl (fun ls hl => ?_)
          refine lv_goto (tgt := 2) hx hb dX0_ceilRoot_17 (by decide) ?_
          refine lv_iload_n hx hb dX0_ceilRoot_2 rfl (lv_at hl 0 rfl) ?_
          refine lv_iconst (v := iI 5) hx hb dX0_ceilRoot_3 rfl ?_
          refine z_icmp_ge (tgt := 20) hx hb dX0_ceilRoot_4 (by decide) (by omega) (by omega) (fun c4 => by exfalso; omega) (fun c4 => ?_)
          refine lv_iload_n hx hb dX0_ceilRoot_7 rfl (lv_at hl 0 rfl) ?_
          refine lv_iload_n hx hb dX0_ceilRoot_8 rfl (lv_at hl 0 rfl) ?_
          refine z_mul hx hb dX0_ceilRoot_9 ?_
          refine lv_iload_n hx hb dX0_ceilRoot_10 rfl (lv_at hl 1 rfl) ?_
          refine z_icmp_ge (tgt := 20) hx hb dX0_ceilRoot_11 (by decide) (by omega) (by omega) (fun c11 => ?_) (fun c11 => ?_)
          · refine lv_iload_n hx hb dX0_ceilRoot_20 rfl (lv_at hl 0 rfl) ?_
            subst hAe
            refine z_top (b := clR q) (by unfold clR; (repeat' split) <;> omega) ?_
            exact z_iret hx hb hr hlocks hP hK hD hS (trivial) dX0_ceilRoot_21
          · refine lv_iinc (v := iI 5) (lv' := [(1, .int (iI 5)), (0, .int (iI q))]) hx hb dX0_ceilRoot_14 hl (k := 0) rfl ((iI_add _ _).trans (congrArg iI (by omega))) (by decide) rfl (fun ls hl => ?_)
            refine lv_goto (tgt := 2) hx hb dX0_ceilRoot_17 (by decide) ?_
            refine lv_iload_n hx hb dX0_ceilRoot_2 rfl (lv_at hl 0 rfl) ?_
            refine lv_iconst (v := iI 5) hx hb dX0_ceilRoot_3 rfl ?_
            refine z_icmp_ge (tgt := 20) hx hb dX0_ceilRoot_4 (by decide) (by omega) (by omega) (fun c4 => ?_) (fun c4 => by exfalso; omega)
            refine lv_iload_n hx hb dX0_ceilRoot_20 rfl (lv_at hl 0 rfl) ?_
            subst hAe
            refine z_top (b := clR q) (by unfold clR; (repeat' split) <;> omega) ?_
            exact z_iret hx hb hr hlocks hP hK hD hS (trivial) dX0_ceilRoot_21
theorem g_X0_34 : GoodIn wsAll (va_wsS RX0 34 yX0_floorRoot wsX0_floorRoot) := z_good (show ∀ w ∈ (Cond.methodLink RX0 34 yX0_floorRoot :: Cond.static yX0_floorRoot :: Cond.initialized RX0 :: Cond.code yX0_floorRoot prog_2_method_6_code 2 (some .int) :: wsAll), w ∈ wsAll from List.forall_mem_cons.mpr ⟨wm_266, List.forall_mem_cons.mpr ⟨wm_267, List.forall_mem_cons.mpr ⟨wm_111, List.forall_mem_cons.mpr ⟨wm_268, fun _ h => h⟩⟩⟩⟩)
theorem g_X0_37 : GoodIn wsAll (va_wsS RX0 37 yX0_ceilRoot wsX0_ceilRoot) := z_good (show ∀ w ∈ (Cond.methodLink RX0 37 yX0_ceilRoot :: Cond.static yX0_ceilRoot :: Cond.initialized RX0 :: Cond.code yX0_ceilRoot prog_2_method_7_code 2 (some .int) :: wsAll), w ∈ wsAll from List.forall_mem_cons.mpr ⟨wm_269, List.forall_mem_cons.mpr ⟨wm_270, List.forall_mem_cons.mpr ⟨wm_111, List.forall_mem_cons.mpr ⟨wm_271, fun _ h => h⟩⟩⟩⟩)
abbrev r_X0_depthAtSquare : Room := { frames := 1, cells := 0, slots := 0, locals := 21 }
set_option maxHeartbeats 4000000 in
set_option maxRecDepth 100000 in
theorem c_X0_depthAtSquare (l : Launch) (dC : Nat → ClassId) (dI : Nat → Nat → Nat) (sz : Nat) (t d : Nat) (cd : ClassId) (kd r : Int) (dp : Nat → Int) (q : Int) (h1 : rg kd) (h2 : 0 ≤ r ∧ r ≤ 5) (h3 : 0 ≤ q ∧ q ≤ 50) : Met l yX0_depthAtSquare wsX0_depthAtSquare r_X0_depthAtSquare (zP (dC, dI) vwCl ([(cd, .int)]) ([(t, oI 0 [.int (iI kd), .int (iI r), .ref d]), (d, aI cd 121 dp)]) sz [.ref t, .int (iI q)]) (zQi (dC, dI) vwCl ([(cd, .int)]) ([(t, oI 0 [.int (iI kd), .int (iI r), .ref d]), (d, aI cd 121 dp)]) sz (True) (das kd r q) ([(t, oI 0 [.int (iI kd), .int (iI r), .ref d]), (d, aI cd 121 dp)])) 0 0 (va_A ([(t, oI 0 [.int (iI kd), .int (iI r), .ref d]), (d, aI cd 121 dp)]) sz) := by
  refine Met.ofW (cc := cX0_depthAtSquare) (maxL := 3) (ret := (some .int)) (by decide) rfl ?_
  intro p e s m args below meth c s₁ B hml hv
  obtain ⟨rfl, hsz, hP, hK, hD0, hZ⟩ := hv
  have hx := B.exec
  have hb := B.bytes
  have hr := B.returns
  have hts0 := atoms_spec (ws := wsX0_depthAtSquare) B.pre
  have hts : ∀ w ∈ wsAll, w.before _ s = true := fun w h => hts0 w (List.mem_cons_of_mem _ h)
  have hown : s.vm.findClass RX0 = some m.cls := findClass_of_methodNamed B.named
  have hlocks := B.notSynchronized
  subst hsz
  have hD := hD0.self (sz := s.heap.size)
  obtain ⟨A, hAe⟩ : ∃ A, A = va_A ([(t, oI 0 [.int (iI kd), .int (iI r), .ref d]), (d, aI cd 121 dp)]) s.heap.size := ⟨_, rfl⟩
  rw [← hAe] at hD hZ
  have hA : ∀ q : Nat, s.heap.size ≤ q → A q := fun q h => by rw [hAe]; exact Or.inr h
  have hS : va_S A s.heap s.heap [] := va_S.rf
  have hP : va_P (dC, dI) vwCl ([(t, oI 0 [.int (iI kd), .int (iI r), .ref d]), (d, aI cd 121 dp)]) s.heap := hP
  have hl := lv_entry ([.ref t, .int (iI q)]) (n := 3) (Nat.le_of_ble_eq_true rfl)
  rw [lg_entry_eq]
  generalize (lg_sl ([.ref t, .int (iI q)]) ++ List.replicate (3 - (lg_sl ([.ref t, .int (iI q)])).length) Slot.unset).toArray = ls at hl ⊢
  have hl : lv_has ls 3 [(0, .ref t), (1, .int (iI q))] := hl
  have hrr := z_sq h2.1 h2.2
  refine lv_aload_n hx hb dX0_depthAtSquare_0 rfl (lv_at hl 0 rfl) ?_
  refine va_get (D := (dC, dI)) (ci := 0) (v := .int (iI r)) (C := RX0) (T := TX0) (N := 3) hx hb hts inX0 hown hK hP 0 rfl rfl 1 (by decide) (hts _ wm_136) (fun _ h9 => h9) rfl dX0_depthAtSquare_1 ?_
  refine lv_aload_n hx hb dX0_depthAtSquare_4 rfl (lv_at hl 0 rfl) ?_
  refine va_get (D := (dC, dI)) (ci := 0) (v := .int (iI r)) (C := RX0) (T := TX0) (N := 3) hx hb hts inX0 hown hK hP 0 rfl rfl 1 (by decide) (hts _ wm_136) (fun _ h9 => h9) rfl dX0_depthAtSquare_5 ?_
  refine z_mul hx hb dX0_depthAtSquare_8 ?_
  refine lv_iload_n hx hb dX0_depthAtSquare_9 rfl (lv_at hl 1 rfl) ?_
  refine z_sub hx hb dX0_depthAtSquare_10 ?_
  refine lv_istore_n (lv' := [(2, .int (iI ((r * r) - q))), (0, .ref t), (1, .int (iI q))]) hx hb dX0_depthAtSquare_11 rfl hl (by decide) rfl (fun ls hl => ?_)
  refine lv_iload_n hx hb dX0_depthAtSquare_12 rfl (lv_at hl 0 rfl) ?_
  refine z_if_ge (tgt := 18) hx hb dX0_depthAtSquare_13 (by decide) (by omega) (fun c13 => ?_) (fun c13 => ?_)
  · refine lv_aload_n hx hb dX0_depthAtSquare_18 rfl (lv_at hl 1 rfl) ?_
    refine va_get (D := (dC, dI)) (ci := 0) (v := .int (iI kd)) (C := RX0) (T := TX0) (N := 3) hx hb hts inX0 hown hK hP 0 rfl rfl 0 (by decide) (hts _ wm_135) (fun _ h9 => h9) rfl dX0_depthAtSquare_19 ?_
    refine z_look2 (t1 := 48) (t2 := 58) (t3 := 63) hx hb dX0_depthAtSquare_22 (by decide) (by omega) (by decide) (by decide) (by decide) (fun e22 => ?_) (fun e22 => ?_) (fun e22 f22 => ?_)
    · refine lv_aload_n hx hb dX0_depthAtSquare_48 rfl (lv_at hl 1 rfl) ?_
      refine va_get (D := (dC, dI)) (ci := 0) (v := .int (iI r)) (C := RX0) (T := TX0) (N := 3) hx hb hts inX0 hown hK hP 0 rfl rfl 1 (by decide) (hts _ wm_136) (fun _ h9 => h9) rfl dX0_depthAtSquare_49 ?_
      refine lv_iload_n hx hb dX0_depthAtSquare_52 rfl (lv_at hl 0 rfl) ?_
      refine z_rcalli (va_runS (As := [.int (iI ((r * r) - q))]) (rest := [.int (iI r)]) ⟨hx, hb, hml, hown, hts⟩ (c_X0_floorRoot l dC dI (s.heap).size ((r * r) - q) (by omega)) (va_cwS 1 hts g_X0_34 rfl rfl rfl (by decide +kernel) ⟨Nat.le_of_ble_eq_true rfl, Nat.le_of_ble_eq_true rfl⟩) (zP_S z_P0 (hK.sub [] rfl) z_D0 hS (z_free0 hS hA) hZ) rfl rfl hl.1 rfl (lv_room (Nat.le_of_ble_eq_true rfl)) dX0_depthAtSquare_53 ⟨Nat.le_of_ble_eq_true rfl, Nat.le_of_ble_eq_true rfl⟩) hP hD hS (z_free0 hS hA) (fun _ h => by cases h) (fun H locs _ hP hD hS _ => ?_)
      refine z_sub hx hb dX0_depthAtSquare_56 ?_
      subst hAe
      refine z_top (b := das kd r q) (by unfold das; (repeat' split) <;> omega) ?_
      exact z_iret hx hb hr hlocks hP hK hD hS (trivial) dX0_depthAtSquare_57
    · refine lv_iload_n hx hb dX0_depthAtSquare_58 rfl (lv_at hl 2 rfl) ?_
      refine z_rcalli (va_runS (As := [.int (iI q)]) (rest := []) ⟨hx, hb, hml, hown, hts⟩ (c_X0_ceilRoot l dC dI (s.heap).size q (by omega)) (va_cwS 1 hts g_X0_37 rfl rfl rfl (by decide +kernel) ⟨Nat.le_of_ble_eq_true rfl, Nat.le_of_ble_eq_true rfl⟩) (zP_S z_P0 (hK.sub [] rfl) z_D0 hS (z_free0 hS hA) hZ) rfl rfl hl.1 rfl (lv_room (Nat.le_of_ble_eq_true rfl)) dX0_depthAtSquare_59 ⟨Nat.le_of_ble_eq_true rfl, Nat.le_of_ble_eq_true rfl⟩) hP hD hS (z_free0 hS hA) (fun _ h => by cases h) (fun H locs _ hP hD hS _ => ?_)
      subst hAe
      refine z_top (b := das kd r q) (by unfold das; (repeat' split) <;> omega) ?_
      exact z_iret hx hb hr hlocks hP hK hD hS (trivial) dX0_depthAtSquare_62
    · refine lv_iconst (v := iI 0) hx hb dX0_depthAtSquare_63 rfl ?_
      subst hAe
      refine z_top (b := das kd r q) (by unfold das; (repeat' split) <;> omega) ?_
      exact z_iret hx hb hr hlocks hP hK hD hS (trivial) dX0_depthAtSquare_64
  · refine lv_iconst (v := iI (-1)) hx hb dX0_depthAtSquare_16 rfl ?_
    subst hAe
    refine z_top (b := das kd r q) (by unfold das; (repeat' split) <;> omega) ?_
    exact z_iret hx hb hr hlocks hP hK hD hS (trivial) dX0_depthAtSquare_17
theorem g_X0_30 : GoodIn wsAll (wsX2_isWithin) := z_good (show ∀ w ∈ (Cond.code yX2_isWithin prog_1_method_21_code 3 (some .boolean) :: wsAll), w ∈ wsAll from List.forall_mem_cons.mpr ⟨wm_235, fun _ h => h⟩)
theorem g_X0_22 : GoodIn wsAll (va_wsS RX0 22 yX0_cellOf wsX0_cellOf) := z_good (show ∀ w ∈ (Cond.methodLink RX0 22 yX0_cellOf :: Cond.static yX0_cellOf :: Cond.initialized RX0 :: Cond.code yX0_cellOf prog_2_method_4_code 2 (some .int) :: wsAll), w ∈ wsAll from List.forall_mem_cons.mpr ⟨wm_260, List.forall_mem_cons.mpr ⟨wm_261, List.forall_mem_cons.mpr ⟨wm_111, List.forall_mem_cons.mpr ⟨wm_262, fun _ h => h⟩⟩⟩⟩)
abbrev r_X0_depthOver : Room := { frames := 1, cells := 0, slots := 0, locals := 22 }
set_option maxHeartbeats 4000000 in
set_option maxRecDepth 100000 in
theorem c_X0_depthOver (l : Launch) (dC : Nat → ClassId) (dI : Nat → Nat → Nat) (sz : Nat) (t d : Nat) (cd : ClassId) (kd r : Int) (dp : Nat → Int) (x y : Int) (h1 : rg x) (h2 : rg y) (h3 : 0 ≤ r ∧ r ≤ 5) : Met l yX0_depthOver wsX0_depthOver r_X0_depthOver (zP (dC, dI) vwCl ([(cd, .int)]) ([(t, oI 0 [.int (iI kd), .int (iI r), .ref d]), (d, aI cd 121 dp)]) sz [.ref t, .int (iI x), .int (iI y)]) (zQi (dC, dI) vwCl ([(cd, .int)]) ([(t, oI 0 [.int (iI kd), .int (iI r), .ref d]), (d, aI cd 121 dp)]) sz (True) (dOv dp r x y) ([(t, oI 0 [.int (iI kd), .int (iI r), .ref d]), (d, aI cd 121 dp)])) 0 0 (va_A ([(t, oI 0 [.int (iI kd), .int (iI r), .ref d]), (d, aI cd 121 dp)]) sz) := by
  refine Met.ofW (cc := cX0_depthOver) (maxL := 3) (ret := (some .int)) (by decide) rfl ?_
  intro p e s m args below meth c s₁ B hml hv
  obtain ⟨rfl, hsz, hP, hK, hD0, hZ⟩ := hv
  have hx := B.exec
  have hb := B.bytes
  have hr := B.returns
  have hts0 := atoms_spec (ws := wsX0_depthOver) B.pre
  have hts : ∀ w ∈ wsAll, w.before _ s = true := fun w h => hts0 w (List.mem_cons_of_mem _ h)
  have hown : s.vm.findClass RX0 = some m.cls := findClass_of_methodNamed B.named
  have hlocks := B.notSynchronized
  subst hsz
  have hD := hD0.self (sz := s.heap.size)
  obtain ⟨A, hAe⟩ : ∃ A, A = va_A ([(t, oI 0 [.int (iI kd), .int (iI r), .ref d]), (d, aI cd 121 dp)]) s.heap.size := ⟨_, rfl⟩
  rw [← hAe] at hD hZ
  have hA : ∀ q : Nat, s.heap.size ≤ q → A q := fun q h => by rw [hAe]; exact Or.inr h
  have hS : va_S A s.heap s.heap [] := va_S.rf
  have hP : va_P (dC, dI) vwCl ([(t, oI 0 [.int (iI kd), .int (iI r), .ref d]), (d, aI cd 121 dp)]) s.heap := hP
  have hl := lv_entry ([.ref t, .int (iI x), .int (iI y)]) (n := 3) (Nat.le_of_ble_eq_true rfl)
  rw [lg_entry_eq]
  generalize (lg_sl ([.ref t, .int (iI x), .int (iI y)]) ++ List.replicate (3 - (lg_sl ([.ref t, .int (iI x), .int (iI y)])).length) Slot.unset).toArray = ls at hl ⊢
  have hl : lv_has ls 3 [(0, .ref t), (1, .int (iI x)), (2, .int (iI y))] := hl
  refine lv_iload_n hx hb dX0_depthOver_0 rfl (lv_at hl 1 rfl) ?_
  refine lv_aload_n hx hb dX0_depthOver_1 rfl (lv_at hl 0 rfl) ?_
  refine va_get (D := (dC, dI)) (ci := 0) (v := .int (iI r)) (C := RX0) (T := TX0) (N := 3) hx hb hts inX0 hown hK hP 0 rfl rfl 1 (by decide) (hts _ wm_136) (fun _ h9 => h9) rfl dX0_depthOver_2 ?_
  refine z_neg hx hb dX0_depthOver_5 ?_
  refine lv_aload_n hx hb dX0_depthOver_6 rfl (lv_at hl 0 rfl) ?_
  refine va_get (D := (dC, dI)) (ci := 0) (v := .int (iI r)) (C := RX0) (T := TX0) (N := 3) hx hb hts inX0 hown hK hP 0 rfl rfl 1 (by decide) (hts _ wm_136) (fun _ h9 => h9) rfl dX0_depthOver_7 ?_
  refine z_rcalli (va_runSN (As := [.int (iI x), .int (iI (-r)), .int (iI r)]) (rest := []) ⟨hx, hb, hml, hown, hts⟩ (c_X2_isWithin l dC dI (s.heap).size x (-r) r (by omega) (by omega) (by omega)) (⟨va_cnB 3 hts g_X0_30 rfl rfl rfl (hZ.1 (.methodLinkNest RX0 30 yX2_isWithin RX2) (by decide +kernel)) (hts _ wm_109) (by decide +kernel) ⟨Nat.le_of_ble_eq_true rfl, Nat.le_of_ble_eq_true rfl⟩, (hts _ wm_234), trivial⟩) (zP_S z_P0 (hK.sub [] rfl) z_D0 hS (z_free0 hS hA) hZ) rfl rfl hl.1 rfl (lv_room (Nat.le_of_ble_eq_true rfl)) dX0_depthOver_10 ⟨Nat.le_of_ble_eq_true rfl, Nat.le_of_ble_eq_true rfl⟩) hP hD hS (z_free0 hS hA) (fun _ h => by cases h) (fun H locs _ hP hD hS _ => ?_)
  refine z_if_eq (tgt := 32) hx hb dX0_depthOver_13 (by decide) (isW_rg _ _ _) (fun c13 => ?_) (fun c13 => ?_)
  · have c13 := isW_f.mp c13
    refine lv_iconst (v := iI (-1)) hx hb dX0_depthOver_32 rfl ?_
    subst hAe
    refine z_top (b := dOv dp r x y) (by unfold dOv; (repeat' split) <;> first | rfl | (exfalso; omega)) ?_
    exact z_iret hx hb hr hlocks hP hK hD hS (trivial) dX0_depthOver_33
  · have c13 := isW_t.mp c13
    refine lv_iload_n hx hb dX0_depthOver_16 rfl (lv_at hl 2 rfl) ?_
    refine lv_aload_n hx hb dX0_depthOver_17 rfl (lv_at hl 0 rfl) ?_
    refine va_get (D := (dC, dI)) (ci := 0) (v := .int (iI r)) (C := RX0) (T := TX0) (N := 3) hx hb hts inX0 hown hK hP 0 rfl rfl 1 (by decide) (hts _ wm_136) (fun _ h9 => h9) rfl dX0_depthOver_18 ?_
    refine z_neg hx hb dX0_depthOver_21 ?_
    refine lv_aload_n hx hb dX0_depthOver_22 rfl (lv_at hl 0 rfl) ?_
    refine va_get (D := (dC, dI)) (ci := 0) (v := .int (iI r)) (C := RX0) (T := TX0) (N := 3) hx hb hts inX0 hown hK hP 0 rfl rfl 1 (by decide) (hts _ wm_136) (fun _ h9 => h9) rfl dX0_depthOver_23 ?_
    refine z_rcalli (va_runSN (As := [.int (iI y), .int (iI (-r)), .int (iI r)]) (rest := []) ⟨hx, hb, hml, hown, hts⟩ (c_X2_isWithin l dC dI (H).size y (-r) r (by omega) (by omega) (by omega)) (⟨va_cnB 3 hts g_X0_30 rfl rfl rfl (hZ.1 (.methodLinkNest RX0 30 yX2_isWithin RX2) (by decide +kernel)) (hts _ wm_109) (by decide +kernel) ⟨Nat.le_of_ble_eq_true rfl, Nat.le_of_ble_eq_true rfl⟩, (hts _ wm_234), trivial⟩) (zP_S z_P0 (hK.sub [] rfl) z_D0 hS (z_free0 hS hA) hZ) rfl rfl hl.1 rfl (lv_room (Nat.le_of_ble_eq_true rfl)) dX0_depthOver_26 ⟨Nat.le_of_ble_eq_true rfl, Nat.le_of_ble_eq_true rfl⟩) hP hD hS (z_free0 hS hA) (fun _ h => by cases h) (fun H locs _ hP hD hS _ => ?_)
    refine z_if_ne (tgt := 34) hx hb dX0_depthOver_29 (by decide) (isW_rg _ _ _) (fun c29 => ?_) (fun c29 => ?_)
    · have c29 := isW_t.mp c29
      refine lv_aload_n hx hb dX0_depthOver_34 rfl (lv_at hl 0 rfl) ?_
      refine va_get (D := (dC, dI)) (ci := 0) (v := .ref d) (C := RX0) (T := TX0) (N := 3) hx hb hts inX0 hown hK hP 0 rfl rfl 2 (by decide) (hts _ wm_137) (fun _ h9 => h9) rfl dX0_depthOver_35 ?_
      refine lv_iload_n hx hb dX0_depthOver_38 rfl (lv_at hl 1 rfl) ?_
      refine lv_iload_n hx hb dX0_depthOver_39 rfl (lv_at hl 2 rfl) ?_
      refine z_rcalli (va_runS (As := [.int (iI x), .int (iI y)]) (rest := [.ref d]) ⟨hx, hb, hml, hown, hts⟩ (c_X0_cellOf l dC dI (H).size x y) (va_cwS 2 hts g_X0_22 rfl rfl rfl (by decide +kernel) ⟨Nat.le_of_ble_eq_true rfl, Nat.le_of_ble_eq_true rfl⟩) (zP_S z_P0 (hK.sub [] rfl) z_D0 hS (z_free0 hS hA) hZ) rfl rfl hl.1 rfl (lv_room (Nat.le_of_ble_eq_true rfl)) dX0_depthOver_40 ⟨Nat.le_of_ble_eq_true rfl, Nat.le_of_ble_eq_true rfl⟩) hP hD hS (z_free0 hS hA) (fun _ h => by cases h) (fun H locs _ hP hD hS _ => ?_)
      refine z_iald (f := dp) (i := (y + 5) * 11 + x + 5) hx hb hK hP 1 0 rfl rfl (by omega) (by omega) dX0_depthOver_43 ?_
      subst hAe
      refine z_top (b := dOv dp r x y) (by unfold dOv; (repeat' split) <;> first | rfl | (exfalso; omega)) ?_
      exact z_iret hx hb hr hlocks hP hK hD hS (trivial) dX0_depthOver_44
    · have c29 := isW_f.mp c29
      refine lv_iconst (v := iI (-1)) hx hb dX0_depthOver_32 rfl ?_
      subst hAe
      refine z_top (b := dOv dp r x y) (by unfold dOv; (repeat' split) <;> first | rfl | (exfalso; omega)) ?_
      exact z_iret hx hb hr hlocks hP hK hD hS (trivial) dX0_depthOver_33
