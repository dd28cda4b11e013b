theorem g_X3_103 : GoodIn wsAll (wsV RX3 103 RX3 yX3_leftAt wsX3_leftAt) := z_good (show ∀ w ∈ (Cond.methodLink RX3 103 yX3_leftAt :: Cond.instanceMethod yX3_leftAt :: Cond.selects RX3 yX3_leftAt yX3_leftAt :: Cond.initialized RX3 :: Cond.code yX3_leftAt prog_5_method_22_code 2 (some .int) :: wsAll), w ∈ wsAll from List.forall_mem_cons.mpr ⟨wm_527, List.forall_mem_cons.mpr ⟨wm_528, List.forall_mem_cons.mpr ⟨wm_578, List.forall_mem_cons.mpr ⟨wm_114, List.forall_mem_cons.mpr ⟨wm_529, fun _ h => h⟩⟩⟩⟩⟩)
abbrev r_X3_below : Room := { frames := 1, cells := 0, slots := 0, locals := 21 }
set_option maxHeartbeats 4000000 in
set_option maxRecDepth 100000 in
theorem lp_X3_below_19 {p : Program} {l : Launch} {e : Env} {s : State} {m : MethodId} {args : Array Value} {below : List Frame} {meth : Method} {c : Code} {Q : State → Prop} {A : Nat → Prop} {dC : Nat → ClassId} {dI : Nat → Nat → Nat} (b : Nat → Nat) (cB : Nat → ClassId) (w h : Nat) (cd : Int) (wn mn kn : Nat → Int) (ik so : Int) (ks rs lf : Nat → Int) (K : MK) (u g : Int) (hx : p.tables.exec = Jvm.exec) (hb : c.code = cX3_below) (hml : c.maxLocals = 4) (hown : s.vm.findClass RX3 = some m.cls) (hts : ∀ w ∈ wsAll, w.before args s = true) (hA : ∀ q : Nat, s.heap.size ≤ q → A q) (hZ : zZ A s s.heap) (hK : va_K (dC, dI) vwCl (mdT cB) s) (hw : 1 ≤ w ∧ w ≤ 20) (hh : 1 ≤ h ∧ h ≤ 20) (hwn : bd wn 0 1000) (hmn : bd mn 0 1000) (hu : 0 ≤ u ∧ u < (h : Int)) (hg : g = 0 ∨ g = 1) (kk : ∀ (H : Heap) (locs : List Loc) (ls : Array Slot), va_P (dC, dI) vwCl (mdW b cB w h cd wn mn kn ik so ks rs lf K) H → va_D A (mdW b cB w h cd wn mn kn ik so ks rs lf K) → va_S A s.heap H locs → lv_has ls 4 [(0, .ref (b 0)), (1, .int (iI (bmR mn wn u w g))), (2, .int (iI u)), (3, .int (iI ((w : Nat) : Int)))] → W p l e r_X3_below s m args below meth c H locs 0 0 Q (F0 m 56 ls [])) : ∀ (n i : Nat), i + n = w → ∀ (H : Heap) (locs : List Loc) (ls : Array Slot), va_P (dC, dI) vwCl (mdW b cB w h cd wn mn kn ik so ks rs lf K) H → va_D A (mdW b cB w h cd wn mn kn ik so ks rs lf K) → va_S A s.heap H locs → lv_has ls 4 [(0, .ref (b 0)), (1, .int (iI (bmR mn wn u i g))), (2, .int (iI u)), (3, .int (iI ((i : Nat) : Int)))] → W p l e r_X3_below s m args below meth c H locs 0 0 Q (F0 m 19 ls []) := by
  intro n
  induction n with
  | zero =>
    intro i hi H locs ls hP hD hS hl
    have hi9 : w = i := by omega
    subst hi9
    refine lv_iload_n hx hb dX3_below_19 rfl (lv_at hl 3 rfl) ?_
    refine lv_aload_n hx hb dX3_below_20 rfl (lv_at hl 0 rfl) ?_
    refine va_get (D := (dC, dI)) (ci := 3) (v := .int (iI (w : Int))) (C := RX3) (T := TX3) (N := 18) hx hb hts inX3 hown hK hP 0 rfl rfl 1 (by decide) (hts _ wm_404) (fun _ h9 => h9) rfl dX3_below_21 ?_
    refine z_icmp_ge (tgt := 56) hx hb dX3_below_24 (by decide) (by omega) (by omega) (fun c24 => ?_) (fun c24 => by exfalso; omega)
    exact kk _ _ _ hP hD hS (lv_sub hl [0, 1, 2, 3] rfl)
  | succ n ih =>
    intro i hi H locs ls hP hD hS hl
    refine lv_iload_n hx hb dX3_below_19 rfl (lv_at hl 3 rfl) ?_
    refine lv_aload_n hx hb dX3_below_20 rfl (lv_at hl 0 rfl) ?_
    refine va_get (D := (dC, dI)) (ci := 3) (v := .int (iI (w : Int))) (C := RX3) (T := TX3) (N := 18) hx hb hts inX3 hown hK hP 0 rfl rfl 1 (by decide) (hts _ wm_404) (fun _ h9 => h9) rfl dX3_below_21 ?_
    refine z_icmp_ge (tgt := 56) hx hb dX3_below_24 (by decide) (by omega) (by omega) (fun c24 => by exfalso; omega) (fun c24 => ?_)
    refine lv_iload_n hx hb dX3_below_27 rfl (lv_at hl 1 rfl) ?_
    have hb1 := hmn (20 * u + ((i : Nat) : Int)).toNat
    have hb2 := hwn (20 * u + ((i : Nat) : Int)).toNat
    have hg1 := bmR_01 (mn := mn) (wn := wn) (y := u) (n := i) hg
    refine z_if_ne (tgt := 44) hx hb dX3_below_28 (by decide) (by omega) (fun c28 => ?_) (fun c28 => ?_)
    · refine lv_iconst (v := iI 1) hx hb dX3_below_44 rfl ?_
      refine lv_goto (tgt := 49) hx hb dX3_below_45 (by decide) ?_
      refine lv_istore_n (lv' := [(1, .int (iI 1)), (0, .ref (b 0)), (2, .int (iI u)), (3, .int (iI ((i : Nat) : Int)))]) hx hb dX3_below_49 rfl hl (by decide) rfl (fun ls hl => ?_)
      refine lv_iinc (v := iI (((i + 1) : Nat) : Int)) (lv' := [(3, .int (iI (((i + 1) : Nat) : Int))), (1, .int (iI 1)), (0, .ref (b 0)), (2, .int (iI u))]) hx hb dX3_below_50 hl (k := 3) rfl ((iI_add _ _).trans (congrArg iI (by omega))) (by decide) rfl (fun ls hl => ?_)
      refine lv_goto (tgt := 19) hx hb dX3_below_53 (by decide) ?_
      have eg : bmR mn wn u (i + 1) g = 1 := by
        show (if ¬ bmR mn wn u i g = 0 ∨ mn (20 * u + ((i : Nat) : Int)).toNat - wn (20 * u + ((i : Nat) : Int)).toNat < 0 then 1 else 0) = _
        split <;> omega
      exact ih (i + 1) (by omega) _ _ _ hP hD hS (by rw [eg]; exact lv_sub hl [2, 1, 3, 0] rfl)
    · refine lv_aload_n hx hb dX3_below_31 rfl (lv_at hl 0 rfl) ?_
      refine lv_bipush (v := iI 20) hx hb dX3_below_32 (by decide) ?_
      refine lv_iload_n hx hb dX3_below_34 rfl (lv_at hl 2 rfl) ?_
      refine z_mul hx hb dX3_below_35 ?_
      refine lv_iload_n hx hb dX3_below_36 rfl (lv_at hl 3 rfl) ?_
      refine z_add hx hb dX3_below_37 ?_
      have hFc := z_freeR (wc := mdW b cB w h cd wn mn kn ik so ks rs lf K) (fun _ h => h) hD hS hA
      refine z_wcalli (va_runV (As := [.int (iI ((20 * u) + ((i : Nat) : Int)))]) (rest := []) ⟨hx, hb, hml, hown, hts⟩ (c_X3_leftAt l dC dI (H).size b cB w h cd wn mn kn ik so ks rs lf K ((20 * u) + ((i : Nat) : Int)) (by omega)) (cwV 1 hts g_X3_103 rfl rfl rfl (by decide +kernel) ⟨Nat.le_of_ble_eq_true rfl, Nat.le_of_ble_eq_true rfl⟩) (zP_V (ci := 3) (q0 := 0) rfl rfl hP hK hD hS hFc hZ) rfl rfl hl.1 rfl (lv_room (Nat.le_of_ble_eq_true rfl)) dX3_below_38 ⟨Nat.le_of_ble_eq_true rfl, Nat.le_of_ble_eq_true rfl⟩) hS hFc (fun H locs _ hP hD hS _ => ?_)
      have hP : va_P (dC, dI) vwCl (mdW b cB w h cd wn mn kn ik so ks rs lf K) H := hP
      have hD : va_D A (mdW b cB w h cd wn mn kn ik so ks rs lf K) := hD
      refine z_if_ge (tgt := 48) hx hb dX3_below_41 (by decide) (by omega) (fun c41 => ?_) (fun c41 => ?_)
      · refine lv_iconst (v := iI 0) hx hb dX3_below_48 rfl ?_
        refine lv_istore_n (lv' := [(1, .int (iI 0)), (0, .ref (b 0)), (2, .int (iI u)), (3, .int (iI ((i : Nat) : Int)))]) hx hb dX3_below_49 rfl hl (by decide) rfl (fun ls hl => ?_)
        refine lv_iinc (v := iI (((i + 1) : Nat) : Int)) (lv' := [(3, .int (iI (((i + 1) : Nat) : Int))), (1, .int (iI 0)), (0, .ref (b 0)), (2, .int (iI u))]) hx hb dX3_below_50 hl (k := 3) rfl ((iI_add _ _).trans (congrArg iI (by omega))) (by decide) rfl (fun ls hl => ?_)
        refine lv_goto (tgt := 19) hx hb dX3_below_53 (by decide) ?_
        have eg : bmR mn wn u (i + 1) g = 0 := by
          show (if ¬ bmR mn wn u i g = 0 ∨ mn (20 * u + ((i : Nat) : Int)).toNat - wn (20 * u + ((i : Nat) : Int)).toNat < 0 then 1 else 0) = _
          split <;> omega
        exact ih (i + 1) (by omega) _ _ _ hP hD hS (by rw [eg]; exact lv_sub hl [2, 1, 3, 0] rfl)
      · refine lv_iconst (v := iI 1) hx hb dX3_below_44 rfl ?_
        refine lv_goto (tgt := 49) hx hb dX3_below_45 (by decide) ?_
        refine lv_istore_n (lv' := [(1, .int (iI 1)), (0, .ref (b 0)), (2, .int (iI u)), (3, .int (iI ((i : Nat) : Int)))]) hx hb dX3_below_49 rfl hl (by decide) rfl (fun ls hl => ?_)
        refine lv_iinc (v := iI (((i + 1) : Nat) : Int)) (lv' := [(3, .int (iI (((i + 1) : Nat) : Int))), (1, .int (iI 1)), (0, .ref (b 0)), (2, .int (iI u))]) hx hb dX3_below_50 hl (k := 3) rfl ((iI_add _ _).trans (congrArg iI (by omega))) (by decide) rfl (fun ls hl => ?_)
        refine lv_goto (tgt := 19) hx hb dX3_below_53 (by decide) ?_
        have eg : bmR mn wn u (i + 1) g = 1 := by
          show (if ¬ bmR mn wn u i g = 0 ∨ mn (20 * u + ((i : Nat) : Int)).toNat - wn (20 * u + ((i : Nat) : Int)).toNat < 0 then 1 else 0) = _
          split <;> omega
        exact ih (i + 1) (by omega) _ _ _ hP hD hS (by rw [eg]; exact lv_sub hl [2, 1, 3, 0] rfl)
set_option maxHeartbeats 4000000 in
set_option maxRecDepth 100000 in
theorem lp_X3_below_9 {p : Program} {l : Launch} {e : Env} {s : State} {m : MethodId} {args : Array Value} {below : List Frame} {meth : Method} {c : Code} {Q : State → Prop} {A : Nat → Prop} {dC : Nat → ClassId} {dI : Nat → Nat → Nat} (b : Nat → Nat) (cB : Nat → ClassId) (w h : Nat) (cd : Int) (wn mn kn : Nat → Int) (ik so : Int) (ks rs lf : Nat → Int) (K : MK) (hx : p.tables.exec = Jvm.exec) (hb : c.code = cX3_below) (hml : c.maxLocals = 4) (hown : s.vm.findClass RX3 = some m.cls) (hts : ∀ w ∈ wsAll, w.before args s = true) (hA : ∀ q : Nat, s.heap.size ≤ q → A q) (hZ : zZ A s s.heap) (hK : va_K (dC, dI) vwCl (mdT cB) s) (hw : 1 ≤ w ∧ w ≤ 20) (hh : 1 ≤ h ∧ h ≤ 20) (hwn : bd wn 0 1000) (hmn : bd mn 0 1000) (kk : ∀ (H : Heap) (locs : List Loc) (ls : Array Slot), va_P (dC, dI) vwCl (mdW b cB w h cd wn mn kn ik so ks rs lf K) H → va_D A (mdW b cB w h cd wn mn kn ik so ks rs lf K) → va_S A s.heap H locs → lv_has ls 4 [(0, .ref (b 0)), (1, .int (iI (bmF w mn wn h))), (2, .int (iI ((h : Nat) : Int)))] → W p l e r_X3_below s m args below meth c H locs 0 0 Q (F0 m 62 ls [])) : ∀ (n i : Nat), i + n = h → ∀ (H : Heap) (locs : List Loc) (ls : Array Slot), va_P (dC, dI) vwCl (mdW b cB w h cd wn mn kn ik so ks rs lf K) H → va_D A (mdW b cB w h cd wn mn kn ik so ks rs lf K) → va_S A s.heap H locs → lv_has ls 4 [(0, .ref (b 0)), (1, .int (iI (bmF w mn wn i))), (2, .int (iI ((i : Nat) : Int)))] → W p l e r_X3_below s m args below meth c H locs 0 0 Q (F0 m 9 ls []) := by
  intro n
  induction n with
  | zero =>
    intro i hi H locs ls hP hD hS hl
    have hi9 : h = i := by omega
    subst hi9
    refine lv_iload_n hx hb dX3_below_9 rfl (lv_at hl 2 rfl) ?_
    refine lv_aload_n hx hb dX3_below_10 rfl (lv_at hl 0 rfl) ?_
    refine va_get (D := (dC, dI)) (ci := 3) (v := .int (iI (h : Int))) (C := RX3) (T := TX3) (N := 18) hx hb hts inX3 hown hK hP 0 rfl rfl 2 (by decide) (hts _ wm_405) (fun _ h9 => h9) rfl dX3_below_11 ?_
    refine z_icmp_ge (tgt := 62) hx hb dX3_below_14 (by decide) (by omega) (by omega) (fun c14 => ?_) (fun c14 => by exfalso; omega)
    exact kk _ _ _ hP hD hS (lv_sub hl [0, 1, 2] rfl)
  | succ n ih =>
    intro i hi H locs ls hP hD hS hl
    refine lv_iload_n hx hb dX3_below_9 rfl (lv_at hl 2 rfl) ?_
    refine lv_aload_n hx hb dX3_below_10 rfl (lv_at hl 0 rfl) ?_
    refine va_get (D := (dC, dI)) (ci := 3) (v := .int (iI (h : Int))) (C := RX3) (T := TX3) (N := 18) hx hb hts inX3 hown hK hP 0 rfl rfl 2 (by decide) (hts _ wm_405) (fun _ h9 => h9) rfl dX3_below_11 ?_
    refine z_icmp_ge (tgt := 62) hx hb dX3_below_14 (by decide) (by omega) (by omega) (fun c14 => by exfalso; omega) (fun c14 => ?_)
    refine lv_iconst (v := iI 0) hx hb dX3_below_17 rfl ?_
    refine lv_istore_n (lv' := [(3, .int (iI 0)), (0, .ref (b 0)), (1, .int (iI (bmF w mn wn i))), (2, .int (iI ((i : Nat) : Int)))]) hx hb dX3_below_18 rfl hl (by decide) rfl (fun ls hl => ?_)
    refine lp_X3_below_19 b cB w h cd wn mn kn ik so ks rs lf K ((i : Nat) : Int) (bmF w mn wn i) hx hb hml hown hts hA hZ hK (hw) (hh) (hwn) (hmn) (by omega) (bmF_01) (fun H locs ls hP hD hS hl => ?_)  w 0 (by omega) _ _ _ hP hD hS (lv_sub hl [1, 2, 3, 0] rfl)
    have hP : va_P (dC, dI) vwCl (mdW b cB w h cd wn mn kn ik so ks rs lf K) H := hP
    have hD : va_D A (mdW b cB w h cd wn mn kn ik so ks rs lf K) := hD
    have hl : lv_has ls 4 [(0, .ref (b 0)), (1, .int (iI (bmR mn wn ((i : Nat) : Int) w (bmF w mn wn i)))), (2, .int (iI ((i : Nat) : Int))), (3, .int (iI ((w : Nat) : Int)))] := hl
    refine lv_iinc (v := iI (((i + 1) : Nat) : Int)) (lv' := [(2, .int (iI (((i + 1) : Nat) : Int))), (0, .ref (b 0)), (1, .int (iI (bmR mn wn ((i : Nat) : Int) w (bmF w mn wn i)))), (3, .int (iI ((w : Nat) : Int)))]) hx hb dX3_below_56 hl (k := 2) rfl ((iI_add _ _).trans (congrArg iI (by omega))) (by decide) rfl (fun ls hl => ?_)
    refine lv_goto (tgt := 9) hx hb dX3_below_59 (by decide) ?_
    exact ih (i + 1) (by omega) _ _ _ hP hD hS (lv_sub hl [1, 2, 0] rfl)
set_option maxHeartbeats 4000000 in
set_option maxRecDepth 100000 in
theorem c_X3_below (l : Launch) (dC : Nat → ClassId) (dI : Nat → Nat → Nat) (sz : Nat) (b : Nat → Nat) (cB : Nat → ClassId) (w h : Nat) (cd : Int) (wn mn kn : Nat → Int) (ik so : Int) (ks rs lf : Nat → Int) (K : MK) (hw : 1 ≤ w ∧ w ≤ 20) (hh : 1 ≤ h ∧ h ≤ 20) (hwn : bd wn 0 1000) (hmn : bd mn 0 1000) : Met l yX3_below wsX3_below r_X3_below (zP (dC, dI) vwCl (mdT cB) (mdW b cB w h cd wn mn kn ik so ks rs lf K) sz [.ref (b 0)]) (zQi (dC, dI) vwCl (mdT cB) (mdW b cB w h cd wn mn kn ik so ks rs lf K) sz (True) (bmF w mn wn h) (mdW b cB w h 0 wn mn kn ik so ks rs lf K)) 0 0 (va_A (mdW b cB w h cd wn mn kn ik so ks rs lf K) sz) := by
  refine Met.ofW (cc := cX3_below) (maxL := 4) (ret := (some .boolean)) (by decide) rfl ?_
  intro p e s m args below meth c s₁ B hml hv
  obtain ⟨rfl, hsz, hP, hK, hD0, hZ⟩ := hv
  have hx := B.exec
  have hb := B.bytes
  have hr := B.returns
  have hts0 := atoms_spec (ws := wsX3_below) B.pre
  have hts : ∀ w ∈ wsAll, w.before _ s = true := fun w h => hts0 w (List.mem_cons_of_mem _ h)
  have hown : s.vm.findClass RX3 = some m.cls := findClass_of_methodNamed B.named
  have hlocks := B.notSynchronized
  subst hsz
  have hD := hD0.self (sz := s.heap.size)
  obtain ⟨A, hAe⟩ : ∃ A, A = va_A (mdW b cB w h cd wn mn kn ik so ks rs lf K) s.heap.size := ⟨_, rfl⟩
  rw [← hAe] at hD hZ
  have hA : ∀ q : Nat, s.heap.size ≤ q → A q := fun q h => by rw [hAe]; exact Or.inr h
  have hS : va_S A s.heap s.heap [] := va_S.rf
  have hP : va_P (dC, dI) vwCl (mdW b cB w h cd wn mn kn ik so ks rs lf K) s.heap := hP
  have hl := lv_entry ([.ref (b 0)]) (n := 4) (Nat.le_of_ble_eq_true rfl)
  rw [lg_entry_eq]
  generalize (lg_sl ([.ref (b 0)]) ++ List.replicate (4 - (lg_sl ([.ref (b 0)])).length) Slot.unset).toArray = ls at hl ⊢
  have hl : lv_has ls 4 [(0, .ref (b 0))] := hl
  refine lv_aload_n hx hb dX3_below_0 rfl (lv_at hl 0 rfl) ?_
  refine lv_iconst (v := iI 0) hx hb dX3_below_1 rfl ?_
  refine va_put (D := (dC, dI)) (ci := 3) (v := .int (iI 0)) (ty := .int) (C := RX3) (T := TX3) (N := 18) hx hb hts inX3 tyX3 tyX3_ok nmX3 hown hK hP hD hS 0 rfl rfl 0 (by decide) (hts _ wm_403) (fun _ h9 => h9) rfl (by decide +kernel) rfl rfl (Nat.le_of_ble_eq_true rfl) dX3_below_2 (fun H locs hP hD hS => ?_)
  have hP : va_P (dC, dI) vwCl (mdW b cB w h 0 wn mn kn ik so ks rs lf K) H := hP
  have hD : va_D A (mdW b cB w h 0 wn mn kn ik so ks rs lf K) := hD
  refine lv_iconst (v := iI 0) hx hb dX3_below_5 rfl ?_
  refine lv_istore_n (lv' := [(1, .int (iI 0)), (0, .ref (b 0))]) hx hb dX3_below_6 rfl hl (by decide) rfl (fun ls hl => ?_)
  refine lv_iconst (v := iI 0) hx hb dX3_below_7 rfl ?_
  refine lv_istore_n (lv' := [(2, .int (iI 0)), (1, .int (iI 0)), (0, .ref (b 0))]) hx hb dX3_below_8 rfl hl (by decide) rfl (fun ls hl => ?_)
  refine lp_X3_below_9 b cB w h 0 wn mn kn ik so ks rs lf K hx hb hml hown hts hA hZ hK (hw) (hh) (hwn) (hmn) (fun H locs ls hP hD hS hl => ?_)  h 0 (by omega) _ _ _ hP hD hS (lv_sub hl [2, 1, 0] rfl)
  have hP : va_P (dC, dI) vwCl (mdW b cB w h 0 wn mn kn ik so ks rs lf K) H := hP
  have hD : va_D A (mdW b cB w h 0 wn mn kn ik so ks rs lf K) := hD
  have hl : lv_has ls 4 [(0, .ref (b 0)), (1, .int (iI (bmF w mn wn h))), (2, .int (iI ((h : Nat) : Int)))] := hl
  refine lv_iload_n hx hb dX3_below_62 rfl (lv_at hl 1 rfl) ?_
  subst hAe
  exact z_zret hx hb hr hlocks (bmF_01) hP hK hD hS (trivial) dX3_below_63
abbrev r_X3_sum : Room := { frames := 1, cells := 0, slots := 0, locals := 21 }
set_option maxHeartbeats 4000000 in
set_option maxRecDepth 100000 in
theorem lp_X3_sum_20 {p : Program} {l : Launch} {e : Env} {s : State} {m : MethodId} {args : Array Value} {below : List Frame} {meth : Method} {c : Code} {Q : State → Prop} {A : Nat → Prop} {dC : Nat → ClassId} {dI : Nat → Nat → Nat} (b : Nat → Nat) (cB : Nat → ClassId) (w h : Nat) (cd : Int) (wn mn kn : Nat → Int) (ik so : Int) (ks rs lf : Nat → Int) (K : MK) (u g : Int) (hx : p.tables.exec = Jvm.exec) (hb : c.code = cX3_sum) (hml : c.maxLocals = 6) (hown : s.vm.findClass RX3 = some m.cls) (hts : ∀ w ∈ wsAll, w.before args s = true) (hA : ∀ q : Nat, s.heap.size ≤ q → A q) (hZ : zZ A s s.heap) (hK : va_K (dC, dI) vwCl (mdT cB) s) (hw : 1 ≤ w ∧ w ≤ 20) (hh : 1 ≤ h ∧ h ≤ 20) (hwn : bd wn 0 1000) (hmn : bd mn 0 1000) (hu : 0 ≤ u ∧ u < (h : Int)) (kk : ∀ (H : Heap) (locs : List Loc) (ls : Array Slot), va_P (dC, dI) vwCl (mdW b cB w h cd wn mn kn ik so ks rs lf K) H → va_D A (mdW b cB w h cd wn mn kn ik so ks rs lf K) → va_S A s.heap H locs → lv_has ls 6 [(0, .ref (b 0)), (1, .long (lI (xmR mn wn u w g))), (3, .int (iI u)), (4, .int (iI ((w : Nat) : Int)))] → W p l e r_X3_sum s m args below meth c H locs 0 0 Q (F0 m 63 ls [])) : ∀ (n i : Nat), i + n = w → ∀ (H : Heap) (locs : List Loc) (ls : Array Slot), va_P (dC, dI) vwCl (mdW b cB w h cd wn mn kn ik so ks rs lf K) H → va_D A (mdW b cB w h cd wn mn kn ik so ks rs lf K) → va_S A s.heap H locs → lv_has ls 6 [(0, .ref (b 0)), (1, .long (lI (xmR mn wn u i g))), (3, .int (iI u)), (4, .int (iI ((i : Nat) : Int)))] → W p l e r_X3_sum s m args below meth c H locs 0 0 Q (F0 m 20 ls []) := by
  intro n
  induction n with
  | zero =>
    intro i hi H locs ls hP hD hS hl
    have hi9 : w = i := by omega
    subst hi9
    refine lv_iload hx hb dX3_sum_20 (lv_at hl 3 rfl) ?_
    refine lv_aload_n hx hb dX3_sum_22 rfl (lv_at hl 0 rfl) ?_
    refine va_get (D := (dC, dI)) (ci := 3) (v := .int (iI (w : Int))) (C := RX3) (T := TX3) (N := 18) hx hb hts inX3 hown hK hP 0 rfl rfl 1 (by decide) (hts _ wm_404) (fun _ h9 => h9) rfl dX3_sum_23 ?_
    refine z_icmp_ge (tgt := 63) hx hb dX3_sum_26 (by decide) (by omega) (by omega) (fun c26 => ?_) (fun c26 => by exfalso; omega)
    exact kk _ _ _ hP hD hS (lv_sub hl [0, 1, 2, 3] rfl)
  | succ n ih =>
    intro i hi H locs ls hP hD hS hl
    refine lv_iload hx hb dX3_sum_20 (lv_at hl 3 rfl) ?_
    refine lv_aload_n hx hb dX3_sum_22 rfl (lv_at hl 0 rfl) ?_
    refine va_get (D := (dC, dI)) (ci := 3) (v := .int (iI (w : Int))) (C := RX3) (T := TX3) (N := 18) hx hb hts inX3 hown hK hP 0 rfl rfl 1 (by decide) (hts _ wm_404) (fun _ h9 => h9) rfl dX3_sum_23 ?_
    refine z_icmp_ge (tgt := 63) hx hb dX3_sum_26 (by decide) (by omega) (by omega) (fun c26 => by exfalso; omega) (fun c26 => ?_)
    have hb1 := hmn (20 * u + ((i : Nat) : Int)).toNat
    have hb2 := hwn (20 * u + ((i : Nat) : Int)).toNat
    refine lv_aload_n hx hb dX3_sum_29 rfl (lv_at hl 0 rfl) ?_
    refine lv_bipush (v := iI 20) hx hb dX3_sum_30 (by decide) ?_
    refine lv_iload_n hx hb dX3_sum_32 rfl (lv_at hl 2 rfl) ?_
    refine z_mul hx hb dX3_sum_33 ?_
    refine lv_iload hx hb dX3_sum_34 (lv_at hl 3 rfl) ?_
    refine z_add hx hb dX3_sum_36 ?_
    have hFc := z_freeR (wc := mdW b cB w h cd wn mn kn ik so ks rs lf K) (fun _ h => h) hD hS hA
    refine z_wcalli (va_runV (As := [.int (iI ((20 * u) + ((i : Nat) : Int)))]) (rest := []) ⟨hx, hb, hml, hown, hts⟩ (c_X3_leftAt l dC dI (H).size b cB w h cd wn mn kn ik so ks rs lf K ((20 * u) + ((i : Nat) : Int)) (by omega)) (cwV 1 hts g_X3_103 rfl rfl rfl (by decide +kernel) ⟨Nat.le_of_ble_eq_true rfl, Nat.le_of_ble_eq_true rfl⟩) (zP_V (ci := 3) (q0 := 0) rfl rfl hP hK hD hS hFc hZ) rfl rfl hl.1 rfl (lv_room (Nat.le_of_ble_eq_true rfl)) dX3_sum_37 ⟨Nat.le_of_ble_eq_true rfl, Nat.le_of_ble_eq_true rfl⟩) hS hFc (fun H locs _ hP hD hS _ => ?_)
    have hP : va_P (dC, dI) vwCl (mdW b cB w h cd wn mn kn ik so ks rs lf K) H := hP
    have hD : va_D A (mdW b cB w h cd wn mn kn ik so ks rs lf K) := hD
    refine lv_istore (lv' := [(5, .int (iI (mn ((20 * u) + ((i : Nat) : Int)).toNat - wn ((20 * u) + ((i : Nat) : Int)).toNat))), (0, .ref (b 0)), (1, .long (lI (xmR mn wn u i g))), (3, .int (iI u)), (4, .int (iI ((i : Nat) : Int)))]) hx hb dX3_sum_40 hl (by decide) rfl (fun ls hl => ?_)
    refine lv_lload_n hx hb dX3_sum_42 rfl (lv_at hl 2 rfl) ?_
    refine lv_iload hx hb dX3_sum_43 (lv_at hl 0 rfl) ?_
    refine z_if_le (tgt := 54) hx hb dX3_sum_45 (by decide) (by omega) (fun c45 => ?_) (fun c45 => ?_)
    · refine lv_lconst (v := lI 0) hx hb dX3_sum_54 (by decide) ?_
      refine z_ladd hx hb dX3_sum_55 ?_
      refine lv_lstore_n (lv' := [(1, .long (lI ((xmR mn wn u i g) + 0))), (5, .int (iI (mn ((20 * u) + ((i : Nat) : Int)).toNat - wn ((20 * u) + ((i : Nat) : Int)).toNat))), (0, .ref (b 0)), (3, .int (iI u)), (4, .int (iI ((i : Nat) : Int)))]) hx hb dX3_sum_56 rfl hl (by decide) rfl (fun ls hl => ?_)
      refine lv_iinc (v := iI (((i + 1) : Nat) : Int)) (lv' := [(4, .int (iI (((i + 1) : Nat) : Int))), (1, .long (lI ((xmR mn wn u i g) + 0))), (5, .int (iI (mn ((20 * u) + ((i : Nat) : Int)).toNat - wn ((20 * u) + ((i : Nat) : Int)).toNat))), (0, .ref (b 0)), (3, .int (iI u))]) hx hb dX3_sum_57 hl (k := 4) rfl ((iI_add _ _).trans (congrArg iI (by omega))) (by decide) rfl (fun ls hl => ?_)
      refine lv_goto (tgt := 20) hx hb dX3_sum_60 (by decide) ?_
      have eg : xmR mn wn u (i + 1) g = (xmR mn wn u i g) + 0 := by
        show xmR mn wn u i g + max 0 (mn (20 * u + ((i : Nat) : Int)).toNat - wn (20 * u + ((i : Nat) : Int)).toNat) = _
        omega
      exact ih (i + 1) (by omega) _ _ _ hP hD hS (by rw [eg]; exact lv_sub hl [3, 1, 4, 0] rfl)
    · refine lv_iload hx hb dX3_sum_48 (lv_at hl 0 rfl) ?_
      refine z_i2l hx hb dX3_sum_50 (by omega) ?_
      refine lv_goto (tgt := 55) hx hb dX3_sum_51 (by decide) ?_
      refine z_ladd hx hb dX3_sum_55 ?_
      refine lv_lstore_n (lv' := [(1, .long (lI ((xmR mn wn u i g) + (mn ((20 * u) + ((i : Nat) : Int)).toNat - wn ((20 * u) + ((i : Nat) : Int)).toNat)))), (5, .int (iI (mn ((20 * u) + ((i : Nat) : Int)).toNat - wn ((20 * u) + ((i : Nat) : Int)).toNat))), (0, .ref (b 0)), (3, .int (iI u)), (4, .int (iI ((i : Nat) : Int)))]) hx hb dX3_sum_56 rfl hl (by decide) rfl (fun ls hl => ?_)
      refine lv_iinc (v := iI (((i + 1) : Nat) : Int)) (lv' := [(4, .int (iI (((i + 1) : Nat) : Int))), (1, .long (lI ((xmR mn wn u i g) + (mn ((20 * u) + ((i : Nat) : Int)).toNat - wn ((20 * u) + ((i : Nat) : Int)).toNat)))), (5, .int (iI (mn ((20 * u) + ((i : Nat) : Int)).toNat - wn ((20 * u) + ((i : Nat) : Int)).toNat))), (0, .ref (b 0)), (3, .int (iI u))]) hx hb dX3_sum_57 hl (k := 4) rfl ((iI_add _ _).trans (congrArg iI (by omega))) (by decide) rfl (fun ls hl => ?_)
      refine lv_goto (tgt := 20) hx hb dX3_sum_60 (by decide) ?_
      have eg : xmR mn wn u (i + 1) g = (xmR mn wn u i g) + (mn ((20 * u) + ((i : Nat) : Int)).toNat - wn ((20 * u) + ((i : Nat) : Int)).toNat) := by
        show xmR mn wn u i g + max 0 (mn (20 * u + ((i : Nat) : Int)).toNat - wn (20 * u + ((i : Nat) : Int)).toNat) = _
        omega
      exact ih (i + 1) (by omega) _ _ _ hP hD hS (by rw [eg]; exact lv_sub hl [3, 1, 4, 0] rfl)
set_option maxHeartbeats 4000000 in
set_option maxRecDepth 100000 in
theorem lp_X3_sum_9 {p : Program} {l : Launch} {e : Env} {s : State} {m : MethodId} {args : Array Value} {below : List Frame} {meth : Method} {c : Code} {Q : State → Prop} {A : Nat → Prop} {dC : Nat → ClassId} {dI : Nat → Nat → Nat} (b : Nat → Nat) (cB : Nat → ClassId) (w h : Nat) (cd : Int) (wn mn kn : Nat → Int) (ik so : Int) (ks rs lf : Nat → Int) (K : MK) (hx : p.tables.exec = Jvm.exec) (hb : c.code = cX3_sum) (hml : c.maxLocals = 6) (hown : s.vm.findClass RX3 = some m.cls) (hts : ∀ w ∈ wsAll, w.before args s = true) (hA : ∀ q : Nat, s.heap.size ≤ q → A q) (hZ : zZ A s s.heap) (hK : va_K (dC, dI) vwCl (mdT cB) s) (hw : 1 ≤ w ∧ w ≤ 20) (hh : 1 ≤ h ∧ h ≤ 20) (hwn : bd wn 0 1000) (hmn : bd mn 0 1000) (kk : ∀ (H : Heap) (locs : List Loc) (ls : Array Slot), va_P (dC, dI) vwCl (mdW b cB w h cd wn mn kn ik so ks rs lf K) H → va_D A (mdW b cB w h cd wn mn kn ik so ks rs lf K) → va_S A s.heap H locs → lv_has ls 6 [(0, .ref (b 0)), (1, .long (lI (xmF w mn wn h))), (3, .int (iI ((h : Nat) : Int)))] → W p l e r_X3_sum s m args below meth c H locs 0 0 Q (F0 m 69 ls [])) : ∀ (n i : Nat), i + n = h → ∀ (H : Heap) (locs : List Loc) (ls : Array Slot), va_P (dC, dI) vwCl (mdW b cB w h cd wn mn kn ik so ks rs lf K) H → va_D A (mdW b cB w h cd wn mn kn ik so ks rs lf K) → va_S A s.heap H locs → lv_has ls 6 [(0, .ref (b 0)), (1, .long (lI (xmF w mn wn i))), (3, .int (iI ((i : Nat) : Int)))] → W p l e r_X3_sum s m args below meth c H locs 0 0 Q (F0 m 9 ls []) := by
  intro n
  induction n with
  | zero =>
    intro i hi H locs ls hP hD hS hl
    have hi9 : h = i := by omega
    subst hi9
    refine lv_iload_n hx hb dX3_sum_9 rfl (lv_at hl 2 rfl) ?_
    refine lv_aload_n hx hb dX3_sum_10 rfl (lv_at hl 0 rfl) ?_
    refine va_get (D := (dC, dI)) (ci := 3) (v := .int (iI (h : Int))) (C := RX3) (T := TX3) (N := 18) hx hb hts inX3 hown hK hP 0 rfl rfl 2 (by decide) (hts _ wm_405) (fun _ h9 => h9) rfl dX3_sum_11 ?_
    refine z_icmp_ge (tgt := 69) hx hb dX3_sum_14 (by decide) (by omega) (by omega) (fun c14 => ?_) (fun c14 => by exfalso; omega)
    exact kk _ _ _ hP hD hS (lv_sub hl [0, 1, 2] rfl)
  | succ n ih =>
    intro i hi H locs ls hP hD hS hl
    refine lv_iload_n hx hb dX3_sum_9 rfl (lv_at hl 2 rfl) ?_
    refine lv_aload_n hx hb dX3_sum_10 rfl (lv_at hl 0 rfl) ?_
    refine va_get (D := (dC, dI)) (ci := 3) (v := .int (iI (h : Int))) (C := RX3) (T := TX3) (N := 18) hx hb hts inX3 hown hK hP 0 rfl rfl 2 (by decide) (hts _ wm_405) (fun _ h9 => h9) rfl dX3_sum_11 ?_
    refine z_icmp_ge (tgt := 69) hx hb dX3_sum_14 (by decide) (by omega) (by omega) (fun c14 => by exfalso; omega) (fun c14 => ?_)
    refine lv_iconst (v := iI 0) hx hb dX3_sum_17 rfl ?_
    refine lv_istore (lv' := [(4, .int (iI 0)), (0, .ref (b 0)), (1, .long (lI (xmF w mn wn i))), (3, .int (iI ((i : Nat) : Int)))]) hx hb dX3_sum_18 hl (by decide) rfl (fun ls hl => ?_)
    refine lp_X3_sum_20 b cB w h cd wn mn kn ik so ks rs lf K ((i : Nat) : Int) (xmF w mn wn i) hx hb hml hown hts hA hZ hK (hw) (hh) (hwn) (hmn) (by omega) (fun H locs ls hP hD hS hl => ?_)  w 0 (by omega) _ _ _ hP hD hS (lv_sub hl [1, 2, 3, 0] rfl)
    have hP : va_P (dC, dI) vwCl (mdW b cB w h cd wn mn kn ik so ks rs lf K) H := hP
    have hD : va_D A (mdW b cB w h cd wn mn kn ik so ks rs lf K) := hD
    have hl : lv_has ls 6 [(0, .ref (b 0)), (1, .long (lI (xmR mn wn ((i : Nat) : Int) w (xmF w mn wn i)))), (3, .int (iI ((i : Nat) : Int))), (4, .int (iI ((w : Nat) : Int)))] := hl
    refine lv_iinc (v := iI (((i + 1) : Nat) : Int)) (lv' := [(3, .int (iI (((i + 1) : Nat) : Int))), (0, .ref (b 0)), (1, .long (lI (xmR mn wn ((i : Nat) : Int) w (xmF w mn wn i)))), (4, .int (iI ((w : Nat) : Int)))]) hx hb dX3_sum_63 hl (k := 2) rfl ((iI_add _ _).trans (congrArg iI (by omega))) (by decide) rfl (fun ls hl => ?_)
    refine lv_goto (tgt := 9) hx hb dX3_sum_66 (by decide) ?_
    exact ih (i + 1) (by omega) _ _ _ hP hD hS (lv_sub hl [1, 2, 0] rfl)
set_option maxHeartbeats 4000000 in
set_option maxRecDepth 100000 in
theorem c_X3_sum (l : Launch) (dC : Nat → ClassId) (dI : Nat → Nat → Nat) (sz : Nat) (b : Nat → Nat) (cB : Nat → ClassId) (w h : Nat) (cd : Int) (wn mn kn : Nat → Int) (ik so : Int) (ks rs lf : Nat → Int) (K : MK) (hw : 1 ≤ w ∧ w ≤ 20) (hh : 1 ≤ h ∧ h ≤ 20) (hwn : bd wn 0 1000) (hmn : bd mn 0 1000) : Met l yX3_sum wsX3_sum r_X3_sum (zP (dC, dI) vwCl (mdT cB) (mdW b cB w h cd wn mn kn ik so ks rs lf K) sz [.ref (b 0)]) (zQl (dC, dI) vwCl (mdT cB) (mdW b cB w h cd wn mn kn ik so ks rs lf K) sz (True) (xmF w mn wn h) (mdW b cB w h 0 wn mn kn ik so ks rs lf K)) 0 0 (va_A (mdW b cB w h cd wn mn kn ik so ks rs lf K) sz) := by
  refine Met.ofW (cc := cX3_sum) (maxL := 6) (ret := (some .long)) (by decide) rfl ?_
  intro p e s m args below meth c s₁ B hml hv
  obtain ⟨rfl, hsz, hP, hK, hD0, hZ⟩ := hv
  have hx := B.exec
  have hb := B.bytes
  have hr := B.returns
  have hts0 := atoms_spec (ws := wsX3_sum) B.pre
  have hts : ∀ w ∈ wsAll, w.before _ s = true := fun w h => hts0 w (List.mem_cons_of_mem _ h)
  have hown : s.vm.findClass RX3 = some m.cls := findClass_of_methodNamed B.named
  have hlocks := B.notSynchronized
  subst hsz
  have hD := hD0.self (sz := s.heap.size)
  obtain ⟨A, hAe⟩ : ∃ A, A = va_A (mdW b cB w h cd wn mn kn ik so ks rs lf K) s.heap.size := ⟨_, rfl⟩
  rw [← hAe] at hD hZ
  have hA : ∀ q : Nat, s.heap.size ≤ q → A q := fun q h => by rw [hAe]; exact Or.inr h
  have hS : va_S A s.heap s.heap [] := va_S.rf
  have hP : va_P (dC, dI) vwCl (mdW b cB w h cd wn mn kn ik so ks rs lf K) s.heap := hP
  have hl := lv_entry ([.ref (b 0)]) (n := 6) (Nat.le_of_ble_eq_true rfl)
  rw [lg_entry_eq]
  generalize (lg_sl ([.ref (b 0)]) ++ List.replicate (6 - (lg_sl ([.ref (b 0)])).length) Slot.unset).toArray = ls at hl ⊢
  have hl : lv_has ls 6 [(0, .ref (b 0))] := hl
  refine lv_aload_n hx hb dX3_sum_0 rfl (lv_at hl 0 rfl) ?_
  refine lv_iconst (v := iI 0) hx hb dX3_sum_1 rfl ?_
  refine va_put (D := (dC, dI)) (ci := 3) (v := .int (iI 0)) (ty := .int) (C := RX3) (T := TX3) (N := 18) hx hb hts inX3 tyX3 tyX3_ok nmX3 hown hK hP hD hS 0 rfl rfl 0 (by decide) (hts _ wm_403) (fun _ h9 => h9) rfl (by decide +kernel) rfl rfl (Nat.le_of_ble_eq_true rfl) dX3_sum_2 (fun H locs hP hD hS => ?_)
  have hP : va_P (dC, dI) vwCl (mdW b cB w h 0 wn mn kn ik so ks rs lf K) H := hP
  have hD : va_D A (mdW b cB w h 0 wn mn kn ik so ks rs lf K) := hD
  refine lv_lconst (v := lI 0) hx hb dX3_sum_5 (by decide) ?_
  refine lv_lstore_n (lv' := [(1, .long (lI 0)), (0, .ref (b 0))]) hx hb dX3_sum_6 rfl hl (by decide) rfl (fun ls hl => ?_)
  refine lv_iconst (v := iI 0) hx hb dX3_sum_7 rfl ?_
  refine lv_istore_n (lv' := [(3, .int (iI 0)), (1, .long (lI 0)), (0, .ref (b 0))]) hx hb dX3_sum_8 rfl hl (by decide) rfl (fun ls hl => ?_)
  refine lp_X3_sum_9 b cB w h 0 wn mn kn ik so ks rs lf K hx hb hml hown hts hA hZ hK (hw) (hh) (hwn) (hmn) (fun H locs ls hP hD hS hl => ?_)  h 0 (by omega) _ _ _ hP hD hS (lv_sub hl [2, 1, 0] rfl)
  have hP : va_P (dC, dI) vwCl (mdW b cB w h 0 wn mn kn ik so ks rs lf K) H := hP
  have hD : va_D A (mdW b cB w h 0 wn mn kn ik so ks rs lf K) := hD
  have hl : lv_has ls 6 [(0, .ref (b 0)), (1, .long (lI (xmF w mn wn h))), (3, .int (iI ((h : Nat) : Int)))] := hl
  refine lv_lload_n hx hb dX3_sum_69 rfl (lv_at hl 1 rfl) ?_
  subst hAe
  exact z_lret hx hb hr hlocks hP hK hD hS (trivial) dX3_sum_70
abbrev r_X3_rest : Room := { frames := 1, cells := 0, slots := 0, locals := 22 }
set_option maxHeartbeats 4000000 in
set_option maxRecDepth 100000 in
theorem lp_X3_rest_51 {p : Program} {l : Launch} {e : Env} {s : State} {m : MethodId} {args : Array Value} {below : List Frame} {meth : Method} {c : Code} {Q : State → Prop} {A : Nat → Prop} {dC : Nat → ClassId} {dI : Nat → Nat → Nat} (b : Nat → Nat) (cB : Nat → ClassId) (w h : Nat) (cd : Int) (wn mn kn : Nat → Int) (ik so : Int) (ks rs lf : Nat → Int) (K : MK) (v k u : Int) (q0 : Int × Int) (hx : p.tables.exec = Jvm.exec) (hb : c.code = cX3_rest) (hml : c.maxLocals = 6) (hown : s.vm.findClass RX3 = some m.cls) (hts : ∀ w ∈ wsAll, w.before args s = true) (hA : ∀ q : Nat, s.heap.size ≤ q → A q) (hZ : zZ A s s.heap) (hK : va_K (dC, dI) vwCl (mdT cB) s) (hw : 1 ≤ w ∧ w ≤ 20) (hh : 1 ≤ h ∧ h ≤ 20) (hwn : bd wn 0 1000) (hmn : bd mn 0 1000) (hv : 0 ≤ v ∧ v ≤ 1000) (hk1 : rg k) (hu : 0 ≤ u ∧ u < (h : Int)) (hs : 0 ≤ q0.1 ∧ q0.1 ≤ 100000) (kk : (rmR mn wn v k u w q0).2 = -2 → ∀ (H : Heap) (locs : List Loc) (ls : Array Slot), va_P (dC, dI) vwCl (mdW b cB w h cd wn mn kn ik so ks rs lf K) H → va_D A (mdW b cB w h cd wn mn kn ik so ks rs lf K) → va_S A s.heap H locs → lv_has ls 6 [(0, .ref (b 0)), (1, .int (iI v)), (2, .int (iI k)), (3, .int (iI ((rmR mn wn v k u w q0).1))), (4, .int (iI u)), (5, .int (iI ((w : Nat) : Int)))] → W p l e r_X3_rest s m args below meth c H locs 0 0 Q (F0 m 99 ls [])) (kr : ∀ (i : Nat), i < w → (rmR mn wn v k u i q0).2 = -2 → ¬ (rmR mn wn v k u (i + 1) q0).2 = -2 → ∀ (H : Heap) (locs : List Loc) (ls : Array Slot), va_P (dC, dI) vwCl (mdW b cB w h cd wn mn kn ik so ks rs lf K) H → va_D A (mdW b cB w h cd wn mn kn ik so ks rs lf K) → va_S A s.heap H locs → lv_has ls 6 [(0, .ref (b 0)), (1, .int (iI v)), (2, .int (iI k))] → W p l e r_X3_rest s m args below meth c H locs 0 0 Q (F0 m 89 ls [.int (iI ((rmR mn wn v k u (i + 1) q0).2))])) : ∀ (n i : Nat), i + n = w → (rmR mn wn v k u i q0).2 = -2 → ∀ (H : Heap) (locs : List Loc) (ls : Array Slot), va_P (dC, dI) vwCl (mdW b cB w h cd wn mn kn ik so ks rs lf K) H → va_D A (mdW b cB w h cd wn mn kn ik so ks rs lf K) → va_S A s.heap H locs → lv_has ls 6 [(0, .ref (b 0)), (1, .int (iI v)), (2, .int (iI k)), (3, .int (iI ((rmR mn wn v k u i q0).1))), (4, .int (iI u)), (5, .int (iI ((i : Nat) : Int)))] → W p l e r_X3_rest s m args below meth c H locs 0 0 Q (F0 m 51 ls []) := by
  intro n
  induction n with
  | zero =>
    intro i hi hinv H locs ls hP hD hS hl
    have hi9 : w = i := by omega
    subst hi9
    refine lv_iload hx hb dX3_rest_51 (lv_at hl 5 rfl) ?_
    refine lv_aload_n hx hb dX3_rest_53 rfl (lv_at hl 0 rfl) ?_
    refine va_get (D := (dC, dI)) (ci := 3) (v := .int (iI (w : Int))) (C := RX3) (T := TX3) (N := 18) hx hb hts inX3 hown hK hP 0 rfl rfl 1 (by decide) (hts _ wm_404) (fun _ h9 => h9) rfl dX3_rest_54 ?_
    refine z_icmp_ge (tgt := 99) hx hb dX3_rest_57 (by decide) (by omega) (by omega) (fun c57 => ?_) (fun c57 => by exfalso; omega)
    exact kk hinv _ _ _ hP hD hS (lv_sub hl [0, 1, 2, 3, 4, 5] rfl)
  | succ n ih =>
    intro i hi hinv H locs ls hP hD hS hl
    have hb1 := hmn (20 * u + ((i : Nat) : Int)).toNat
    have hb2 := hwn (20 * u + ((i : Nat) : Int)).toNat
    have hn1 := rmR_n (mn := mn) (wn := wn) (v := v) (k := k) (y := u) (n := i) (s := q0) hs.1
    refine lv_iload hx hb dX3_rest_51 (lv_at hl 5 rfl) ?_
    refine lv_aload_n hx hb dX3_rest_53 rfl (lv_at hl 0 rfl) ?_
    refine va_get (D := (dC, dI)) (ci := 3) (v := .int (iI (w : Int))) (C := RX3) (T := TX3) (N := 18) hx hb hts inX3 hown hK hP 0 rfl rfl 1 (by decide) (hts _ wm_404) (fun _ h9 => h9) rfl dX3_rest_54 ?_
    refine z_icmp_ge (tgt := 99) hx hb dX3_rest_57 (by decide) (by omega) (by omega) (fun c57 => by exfalso; omega) (fun c57 => ?_)
    refine lv_aload_n hx hb dX3_rest_60 rfl (lv_at hl 0 rfl) ?_
    refine lv_bipush (v := iI 20) hx hb dX3_rest_61 (by decide) ?_
    refine lv_iload hx hb dX3_rest_63 (lv_at hl 4 rfl) ?_
    refine z_mul hx hb dX3_rest_65 ?_
    refine lv_iload hx hb dX3_rest_66 (lv_at hl 5 rfl) ?_
    refine z_add hx hb dX3_rest_68 ?_
    have hFc := z_freeR (wc := mdW b cB w h cd wn mn kn ik so ks rs lf K) (fun _ h => h) hD hS hA
    refine z_wcalli (va_runV (As := [.int (iI ((20 * u) + ((i : Nat) : Int)))]) (rest := []) ⟨hx, hb, hml, hown, hts⟩ (c_X3_leftAt l dC dI (H).size b cB w h cd wn mn kn ik so ks rs lf K ((20 * u) + ((i : Nat) : Int)) (by omega)) (cwV 1 hts g_X3_103 rfl rfl rfl (by decide +kernel) ⟨Nat.le_of_ble_eq_true rfl, Nat.le_of_ble_eq_true rfl⟩) (zP_V (ci := 3) (q0 := 0) rfl rfl hP hK hD hS hFc hZ) rfl rfl hl.1 rfl (lv_room (Nat.le_of_ble_eq_true rfl)) dX3_rest_69 ⟨Nat.le_of_ble_eq_true rfl, Nat.le_of_ble_eq_true rfl⟩) hS hFc (fun H locs _ hP hD hS _ => ?_)
    have hP : va_P (dC, dI) vwCl (mdW b cB w h cd wn mn kn ik so ks rs lf K) H := hP
    have hD : va_D A (mdW b cB w h cd wn mn kn ik so ks rs lf K) := hD
    refine lv_iload_n hx hb dX3_rest_72 rfl (lv_at hl 1 rfl) ?_
    refine z_icmp_le (tgt := 93) hx hb dX3_rest_73 (by decide) (by omega) (by omega) (fun c73 => ?_) (fun c73 => ?_)
    · refine lv_iinc (v := iI (((i + 1) : Nat) : Int)) (lv' := [(5, .int (iI (((i + 1) : Nat) : Int))), (0, .ref (b 0)), (1, .int (iI v)), (2, .int (iI k)), (3, .int (iI ((rmR mn wn v k u i q0).1))), (4, .int (iI u))]) hx hb dX3_rest_93 hl (k := 5) rfl ((iI_add _ _).trans (congrArg iI (by omega))) (by decide) rfl (fun ls hl => ?_)
      refine lv_goto (tgt := 51) hx hb dX3_rest_96 (by decide) ?_
      have e1 : (rmR mn wn v k u (i + 1) q0).1 = (rmR mn wn v k u i q0).1 := by
        show (rsS mn wn v k (20 * u + ((i : Nat) : Int)).toNat (20 * u + ((i : Nat) : Int)) (rmR mn wn v k u i q0)).1 = _
        unfold rsS
        rw [if_pos hinv]
        (repeat' split) <;> first | rfl | (exfalso; omega)
      have e2 : (rmR mn wn v k u (i + 1) q0).2 = -2 := by
        show (rsS mn wn v k (20 * u + ((i : Nat) : Int)).toNat (20 * u + ((i : Nat) : Int)) (rmR mn wn v k u i q0)).2 = _
        unfold rsS
        rw [if_pos hinv]
        (repeat' split) <;> first | rfl | exact hinv | (exfalso; omega)
      exact ih (i + 1) (by omega) e2 _ _ _ hP hD hS (by rw [e1]; exact lv_sub hl [1, 2, 3, 4, 5, 0] rfl)
    · refine lv_iload_n hx hb dX3_rest_76 rfl (lv_at hl 3 rfl) ?_
      refine lv_iload_n hx hb dX3_rest_77 rfl (lv_at hl 2 rfl) ?_
      refine z_icmp_ne (tgt := 90) hx hb dX3_rest_78 (by decide) (by omega) (by omega) (fun c78 => ?_) (fun c78 => ?_)
      · refine lv_iinc (v := iI ((rmR mn wn v k u i q0).1 + 1)) (lv' := [(3, .int (iI ((rmR mn wn v k u i q0).1 + 1))), (0, .ref (b 0)), (1, .int (iI v)), (2, .int (iI k)), (4, .int (iI u)), (5, .int (iI ((i : Nat) : Int)))]) hx hb dX3_rest_90 hl (k := 3) rfl (iI_add _ _) (by decide) rfl (fun ls hl => ?_)
        refine lv_iinc (v := iI (((i + 1) : Nat) : Int)) (lv' := [(5, .int (iI (((i + 1) : Nat) : Int))), (3, .int (iI ((rmR mn wn v k u i q0).1 + 1))), (0, .ref (b 0)), (1, .int (iI v)), (2, .int (iI k)), (4, .int (iI u))]) hx hb dX3_rest_93 hl (k := 5) rfl ((iI_add _ _).trans (congrArg iI (by omega))) (by decide) rfl (fun ls hl => ?_)
        refine lv_goto (tgt := 51) hx hb dX3_rest_96 (by decide) ?_
        have e1 : (rmR mn wn v k u (i + 1) q0).1 = (rmR mn wn v k u i q0).1 + 1 := by
          show (rsS mn wn v k (20 * u + ((i : Nat) : Int)).toNat (20 * u + ((i : Nat) : Int)) (rmR mn wn v k u i q0)).1 = _
          unfold rsS
          rw [if_pos hinv]
          (repeat' split) <;> first | rfl | (exfalso; omega)
        have e2 : (rmR mn wn v k u (i + 1) q0).2 = -2 := by
          show (rsS mn wn v k (20 * u + ((i : Nat) : Int)).toNat (20 * u + ((i : Nat) : Int)) (rmR mn wn v k u i q0)).2 = _
          unfold rsS
          rw [if_pos hinv]
          (repeat' split) <;> first | rfl | exact hinv | (exfalso; omega)
        exact ih (i + 1) (by omega) e2 _ _ _ hP hD hS (by rw [e1]; exact lv_sub hl [2, 3, 4, 1, 5, 0] rfl)
      · refine lv_bipush (v := iI 20) hx hb dX3_rest_81 (by decide) ?_
        refine lv_iload hx hb dX3_rest_83 (lv_at hl 4 rfl) ?_
        refine z_mul hx hb dX3_rest_85 ?_
        refine lv_iload hx hb dX3_rest_86 (lv_at hl 5 rfl) ?_
        refine z_add hx hb dX3_rest_88 ?_
        refine z_top (b := (rmR mn wn v k u (i + 1) q0).2) (by
          show _ = (rsS mn wn v k (20 * u + ((i : Nat) : Int)).toNat (20 * u + ((i : Nat) : Int)) (rmR mn wn v k u i q0)).2
          unfold rsS
          rw [if_pos hinv, if_pos (by omega), if_pos c78]) ?_
        exact kr i (by omega) hinv (by
          show ¬ (rsS mn wn v k (20 * u + ((i : Nat) : Int)).toNat (20 * u + ((i : Nat) : Int)) (rmR mn wn v k u i q0)).2 = -2
          unfold rsS
          rw [if_pos hinv, if_pos (by omega), if_pos c78]
          show ¬ 20 * u + ((i : Nat) : Int) = -2
          omega) _ _ _ hP hD hS (lv_sub hl [0, 1, 2] rfl)
set_option maxHeartbeats 4000000 in
set_option maxRecDepth 100000 in
theorem lp_X3_rest_39 {p : Program} {l : Launch} {e : Env} {s : State} {m : MethodId} {args : Array Value} {below : List Frame} {meth : Method} {c : Code} {Q : State → Prop} {A : Nat → Prop} {dC : Nat → ClassId} {dI : Nat → Nat → Nat} (b : Nat → Nat) (cB : Nat → ClassId) (w h : Nat) (cd : Int) (wn mn kn : Nat → Int) (ik so : Int) (ks rs lf : Nat → Int) (K : MK) (v k : Int) (q0 : Int × Int) (hx : p.tables.exec = Jvm.exec) (hb : c.code = cX3_rest) (hml : c.maxLocals = 6) (hown : s.vm.findClass RX3 = some m.cls) (hts : ∀ w ∈ wsAll, w.before args s = true) (hA : ∀ q : Nat, s.heap.size ≤ q → A q) (hZ : zZ A s s.heap) (hK : va_K (dC, dI) vwCl (mdT cB) s) (hw : 1 ≤ w ∧ w ≤ 20) (hh : 1 ≤ h ∧ h ≤ 20) (hwn : bd wn 0 1000) (hmn : bd mn 0 1000) (hv : 0 ≤ v ∧ v ≤ 1000) (hk1 : rg k) (hs : 0 ≤ q0.1 ∧ q0.1 ≤ 0) (kk : (rmF w mn wn v k h q0).2 = -2 → ∀ (H : Heap) (locs : List Loc) (ls : Array Slot), va_P (dC, dI) vwCl (mdW b cB w h cd wn mn kn ik so ks rs lf K) H → va_D A (mdW b cB w h cd wn mn kn ik so ks rs lf K) → va_S A s.heap H locs → lv_has ls 6 [(0, .ref (b 0)), (1, .int (iI v)), (2, .int (iI k)), (3, .int (iI ((rmF w mn wn v k h q0).1))), (4, .int (iI ((h : Nat) : Int)))] → W p l e r_X3_rest s m args below meth c H locs 0 0 Q (F0 m 105 ls [])) (kr : ∀ (i : Nat), i < h → (rmF w mn wn v k i q0).2 = -2 → ¬ (rmF w mn wn v k (i + 1) q0).2 = -2 → ∀ (H : Heap) (locs : List Loc) (ls : Array Slot), va_P (dC, dI) vwCl (mdW b cB w h cd wn mn kn ik so ks rs lf K) H → va_D A (mdW b cB w h cd wn mn kn ik so ks rs lf K) → va_S A s.heap H locs → lv_has ls 6 [(0, .ref (b 0)), (1, .int (iI v)), (2, .int (iI k))] → W p l e r_X3_rest s m args below meth c H locs 0 0 Q (F0 m 89 ls [.int (iI ((rmF w mn wn v k (i + 1) q0).2))])) : ∀ (n i : Nat), i + n = h → (rmF w mn wn v k i q0).2 = -2 → ∀ (H : Heap) (locs : List Loc) (ls : Array Slot), va_P (dC, dI) vwCl (mdW b cB w h cd wn mn kn ik so ks rs lf K) H → va_D A (mdW b cB w h cd wn mn kn ik so ks rs lf K) → va_S A s.heap H locs → lv_has ls 6 [(0, .ref (b 0)), (1, .int (iI v)), (2, .int (iI k)), (3, .int (iI ((rmF w mn wn v k i q0).1))), (4, .int (iI ((i : Nat) : Int)))] → W p l e r_X3_rest s m args below meth c H locs 0 0 Q (F0 m 39 ls []) := by
  intro n
  induction n with
  | zero =>
    intro i hi hinv H locs ls hP hD hS hl
    have hi9 : h = i := by omega
    subst hi9
    refine lv_iload hx hb dX3_rest_39 (lv_at hl 4 rfl) ?_
    refine lv_aload_n hx hb dX3_rest_41 rfl (lv_at hl 0 rfl) ?_
    refine va_get (D := (dC, dI)) (ci := 3) (v := .int (iI (h : Int))) (C := RX3) (T := TX3) (N := 18) hx hb hts inX3 hown hK hP 0 rfl rfl 2 (by decide) (hts _ wm_405) (fun _ h9 => h9) rfl dX3_rest_42 ?_
    refine z_icmp_ge (tgt := 105) hx hb dX3_rest_45 (by decide) (by omega) (by omega) (fun c45 => ?_) (fun c45 => by exfalso; omega)
    exact kk hinv _ _ _ hP hD hS (lv_sub hl [0, 1, 2, 3, 4] rfl)
  | succ n ih =>
    intro i hi hinv H locs ls hP hD hS hl
    have hn1 := rmF_n (mn := mn) (wn := wn) (v := v) (k := k) (n := i) (s := q0) hw.2 hs.1
    refine lv_iload hx hb dX3_rest_39 (lv_at hl 4 rfl) ?_
    refine lv_aload_n hx hb dX3_rest_41 rfl (lv_at hl 0 rfl) ?_
    refine va_get (D := (dC, dI)) (ci := 3) (v := .int (iI (h : Int))) (C := RX3) (T := TX3) (N := 18) hx hb hts inX3 hown hK hP 0 rfl rfl 2 (by decide) (hts _ wm_405) (fun _ h9 => h9) rfl dX3_rest_42 ?_
    refine z_icmp_ge (tgt := 105) hx hb dX3_rest_45 (by decide) (by omega) (by omega) (fun c45 => by exfalso; omega) (fun c45 => ?_)
    refine lv_iconst (v := iI 0) hx hb dX3_rest_48 rfl ?_
    refine lv_istore (lv' := [(5, .int (iI 0)), (0, .ref (b 0)), (1, .int (iI v)), (2, .int (iI k)), (3, .int (iI ((rmF w mn wn v k i q0).1))), (4, .int (iI ((i : Nat) : Int)))]) hx hb dX3_rest_49 hl (by decide) rfl (fun ls hl => ?_)
    refine lp_X3_rest_51 b cB w h cd wn mn kn ik so ks rs lf K v k ((i : Nat) : Int) (rmF w mn wn v k i q0) hx hb hml hown hts hA hZ hK (hw) (hh) (hwn) (hmn) (hv) (hk1) (by omega) (by omega) (fun hinv H locs ls hP hD hS hl => ?_) (fun i9 hi9 hinv9 hfact H locs ls hP hD hS hl => ?_) w 0 (by omega) (hinv) _ _ _ hP hD hS (lv_sub hl [1, 2, 3, 4, 5, 0] rfl)
    · have hP : va_P (dC, dI) vwCl (mdW b cB w h cd wn mn kn ik so ks rs lf K) H := hP
      have hD : va_D A (mdW b cB w h cd wn mn kn ik so ks rs lf K) := hD
      have hl : lv_has ls 6 [(0, .ref (b 0)), (1, .int (iI v)), (2, .int (iI k)), (3, .int (iI ((rmR mn wn v k ((i : Nat) : Int) w (rmF w mn wn v k i q0)).1))), (4, .int (iI ((i : Nat) : Int))), (5, .int (iI ((w : Nat) : Int)))] := hl
      refine lv_iinc (v := iI (((i + 1) : Nat) : Int)) (lv' := [(4, .int (iI (((i + 1) : Nat) : Int))), (0, .ref (b 0)), (1, .int (iI v)), (2, .int (iI k)), (3, .int (iI ((rmR mn wn v k ((i : Nat) : Int) w (rmF w mn wn v k i q0)).1))), (5, .int (iI ((w : Nat) : Int)))]) hx hb dX3_rest_99 hl (k := 4) rfl ((iI_add _ _).trans (congrArg iI (by omega))) (by decide) rfl (fun ls hl => ?_)
      refine lv_goto (tgt := 39) hx hb dX3_rest_102 (by decide) ?_
      exact ih (i + 1) (by omega) (hinv) _ _ _ hP hD hS (lv_sub hl [1, 2, 3, 4, 0] rfl)
    · have hP : va_P (dC, dI) vwCl (mdW b cB w h cd wn mn kn ik so ks rs lf K) H := hP
      have hD : va_D A (mdW b cB w h cd wn mn kn ik so ks rs lf K) := hD
      have hl : lv_has ls 6 [(0, .ref (b 0)), (1, .int (iI v)), (2, .int (iI k))] := hl
      have e9 := rmR_hit (n := w) hi9 hfact
      have e8 : rmF w mn wn v k (i + 1) q0 = rmR mn wn v k ((i : Nat) : Int) (i9 + 1) (rmF w mn wn v k i q0) := e9
      refine z_top (b := (rmF w mn wn v k (i + 1) q0).2) (by rw [e8]) ?_
      exact kr i (by omega) hinv (by rw [e8]; exact hfact) _ _ _ hP hD hS (lv_sub hl [0, 1, 2] rfl)
set_option maxHeartbeats 4000000 in
set_option maxRecDepth 100000 in
theorem c_X3_rest (l : Launch) (dC : Nat → ClassId) (dI : Nat → Nat → Nat) (sz : Nat) (b : Nat → Nat) (cB : Nat → ClassId) (w h : Nat) (cd : Int) (wn mn kn : Nat → Int) (ik so : Int) (ks rs lf : Nat → Int) (K : MK) (v k : Int) (hw : 1 ≤ w ∧ w ≤ 20) (hh : 1 ≤ h ∧ h ≤ 20) (hwn : bd wn 0 1000) (hmn : bd mn 0 1000) (h1 : rg v) (hk1 : rg k) : Met l yX3_rest wsX3_rest r_X3_rest (zP (dC, dI) vwCl (mdT cB) (mdW b cB w h cd wn mn kn ik so ks rs lf K) sz [.ref (b 0), .int (iI v), .int (iI k)]) (zQi (dC, dI) vwCl (mdT cB) (mdW b cB w h cd wn mn kn ik so ks rs lf K) sz (True) (if cod1a (isW v 0 1000) (if -1 ≤ k then 1 else 0) ≤ 0 then rsE k (rmF w mn wn v k h (0, -2)) else 0) (mdW b cB w h (cod1a (isW v 0 1000) (if -1 ≤ k then 1 else 0)) wn mn kn ik so ks rs lf K)) 0 0 (va_A (mdW b cB w h cd wn mn kn ik so ks rs lf K) sz) := by
  refine Met.ofW (cc := cX3_rest) (maxL := 6) (ret := (some .int)) (by decide) rfl ?_
  intro p e s m args below meth c s₁ B hml hv
  obtain ⟨rfl, hsz, hP, hK, hD0, hZ⟩ := hv
  have hx := B.exec
  have hb := B.bytes
  have hr := B.returns
  have hts0 := atoms_spec (ws := wsX3_rest) B.pre
  have hts : ∀ w ∈ wsAll, w.before _ s = true := fun w h => hts0 w (List.mem_cons_of_mem _ h)
  have hown : s.vm.findClass RX3 = some m.cls := findClass_of_methodNamed B.named
  have hlocks := B.notSynchronized
  subst hsz
  have hD := hD0.self (sz := s.heap.size)
  obtain ⟨A, hAe⟩ : ∃ A, A = va_A (mdW b cB w h cd wn mn kn ik so ks rs lf K) s.heap.size := ⟨_, rfl⟩
  rw [← hAe] at hD hZ
  have hA : ∀ q : Nat, s.heap.size ≤ q → A q := fun q h => by rw [hAe]; exact Or.inr h
  have hS : va_S A s.heap s.heap [] := va_S.rf
  have hP : va_P (dC, dI) vwCl (mdW b cB w h cd wn mn kn ik so ks rs lf K) s.heap := hP
  have hl := lv_entry ([.ref (b 0), .int (iI v), .int (iI k)]) (n := 6) (Nat.le_of_ble_eq_true rfl)
  rw [lg_entry_eq]
  generalize (lg_sl ([.ref (b 0), .int (iI v), .int (iI k)]) ++ List.replicate (6 - (lg_sl ([.ref (b 0), .int (iI v), .int (iI k)])).length) Slot.unset).toArray = ls at hl ⊢
  have hl : lv_has ls 6 [(0, .ref (b 0)), (1, .int (iI v)), (2, .int (iI k))] := hl
  refine lv_aload_n hx hb dX3_rest_0 rfl (lv_at hl 0 rfl) ?_
  refine lv_iload_n hx hb dX3_rest_1 rfl (lv_at hl 1 rfl) ?_
  refine lv_iconst (v := iI 0) hx hb dX3_rest_2 rfl ?_
  refine lv_sipush (v := iI 1000) hx hb dX3_rest_3 (by decide) ?_
  refine z_rcalli (va_runS (As := [.int (iI v), .int (iI 0), .int (iI 1000)]) (rest := [.ref (b 0)]) ⟨hx, hb, hml, hown, hts⟩ (c_X3_isIn l dC dI (s.heap).size v 0 1000 (by omega) (by omega) (by omega)) (va_cwS 3 hts g_X3_55 rfl rfl rfl (by decide +kernel) ⟨Nat.le_of_ble_eq_true rfl, Nat.le_of_ble_eq_true rfl⟩) (zP_S z_P0 (hK.sub [] rfl) z_D0 hS (z_free0 hS hA) hZ) rfl rfl hl.1 rfl (lv_room (Nat.le_of_ble_eq_true rfl)) dX3_rest_6 ⟨Nat.le_of_ble_eq_true rfl, Nat.le_of_ble_eq_true rfl⟩) hP hD hS (z_free0 hS hA) (fun _ h => by cases h) (fun H locs _ hP hD hS _ => ?_)
  refine z_joinH (D := (dC, dI)) (cl := vwCl) (A := A) (ws := mdW b cB w h cd wn mn kn ik so ks rs lf K) (g0 := F0 m 22 ls [.int (iI (cod1a (isW v 0 1000) (if -1 ≤ k then 1 else 0))), .ref (b 0)]) (fun H locs hP hD hS => ?_) (fun J22 => ?_)
  · refine va_put (D := (dC, dI)) (ci := 3) (v := .int (iI (cod1a (isW v 0 1000) (if -1 ≤ k then 1 else 0)))) (ty := .int) (C := RX3) (T := TX3) (N := 18) hx hb hts inX3 tyX3 tyX3_ok nmX3 hown hK hP hD hS 0 rfl rfl 0 (by decide) (hts _ wm_403) (fun _ h9 => h9) rfl (by decide +kernel) rfl rfl (Nat.le_of_ble_eq_true rfl) dX3_rest_22 (fun H locs hP hD hS => ?_)
    have hP : va_P (dC, dI) vwCl (mdW b cB w h (cod1a (isW v 0 1000) (if -1 ≤ k then 1 else 0)) wn mn kn ik so ks rs lf K) H := hP
    have hD : va_D A (mdW b cB w h (cod1a (isW v 0 1000) (if -1 ≤ k then 1 else 0)) wn mn kn ik so ks rs lf K) := hD
    refine lv_aload_n hx hb dX3_rest_25 rfl (lv_at hl 0 rfl) ?_
    refine va_get (D := (dC, dI)) (ci := 3) (v := .int (iI (cod1a (isW v 0 1000) (if -1 ≤ k then 1 else 0)))) (C := RX3) (T := TX3) (N := 18) hx hb hts inX3 hown hK hP 0 rfl rfl 0 (by decide) (hts _ wm_403) (fun _ h9 => h9) rfl dX3_rest_26 ?_
    have hcr := cod1a_rg (isW v 0 1000) (if -1 ≤ k then 1 else 0)
    refine z_if_le (tgt := 34) hx hb dX3_rest_29 (by decide) (by omega) (fun c29 => ?_) (fun c29 => ?_)
    · have hok := cod1a_ok c29
      have hv := isW_t.mp hok.1
      refine lv_iconst (v := iI 0) hx hb dX3_rest_34 rfl ?_
      refine lv_istore_n (lv' := [(3, .int (iI 0)), (0, .ref (b 0)), (1, .int (iI v)), (2, .int (iI k))]) hx hb dX3_rest_35 rfl hl (by decide) rfl (fun ls hl => ?_)
      refine lv_iconst (v := iI 0) hx hb dX3_rest_36 rfl ?_
      refine lv_istore (lv' := [(4, .int (iI 0)), (3, .int (iI 0)), (0, .ref (b 0)), (1, .int (iI v)), (2, .int (iI k))]) hx hb dX3_rest_37 hl (by decide) rfl (fun ls hl => ?_)
      refine lp_X3_rest_39 b cB w h (cod1a (isW v 0 1000) (if -1 ≤ k then 1 else 0)) wn mn kn ik so ks rs lf K v k (0, -2) hx hb hml hown hts hA hZ hK (hw) (hh) (hwn) (hmn) (hv) (hk1) (by decide) (fun hinv H locs ls hP hD hS hl => ?_) (fun i9 hi9 hinv9 hfact H locs ls hP hD hS hl => ?_) h 0 (by omega) (rfl) _ _ _ hP hD hS (lv_sub hl [2, 3, 4, 1, 0] rfl)
      · have hP : va_P (dC, dI) vwCl (mdW b cB w h (cod1a (isW v 0 1000) (if -1 ≤ k then 1 else 0)) wn mn kn ik so ks rs lf K) H := hP
        have hD : va_D A (mdW b cB w h (cod1a (isW v 0 1000) (if -1 ≤ k then 1 else 0)) wn mn kn ik so ks rs lf K) := hD
        have hl : lv_has ls 6 [(0, .ref (b 0)), (1, .int (iI v)), (2, .int (iI k)), (3, .int (iI ((rmF w mn wn v k h (0, -2)).1))), (4, .int (iI ((h : Nat) : Int)))] := hl
        refine lv_iload_n hx hb dX3_rest_105 rfl (lv_at hl 2 rfl) ?_
        refine lv_iconst (v := iI (-1)) hx hb dX3_rest_106 rfl ?_
        refine z_icmp_ne (tgt := 114) hx hb dX3_rest_107 (by decide) (by omega) (by omega) (fun c107 => ?_) (fun c107 => ?_)
        · refine lv_iconst (v := iI (-1)) hx hb dX3_rest_114 rfl ?_
          subst hAe
          refine z_top (b := if cod1a (isW v 0 1000) (if -1 ≤ k then 1 else 0) ≤ 0 then rsE k (rmF w mn wn v k h (0, -2)) else 0) (by rw [if_pos (by omega)]; unfold rsE; rw [if_pos hinv]; split <;> first | rfl | (exfalso; omega)) ?_
          exact z_iret hx hb hr hlocks hP hK hD hS (trivial) dX3_rest_115
        · refine lv_iload_n hx hb dX3_rest_110 rfl (lv_at hl 3 rfl) ?_
          refine lv_goto (tgt := 115) hx hb dX3_rest_111 (by decide) ?_
          subst hAe
          refine z_top (b := if cod1a (isW v 0 1000) (if -1 ≤ k then 1 else 0) ≤ 0 then rsE k (rmF w mn wn v k h (0, -2)) else 0) (by rw [if_pos (by omega)]; unfold rsE; rw [if_pos hinv]; split <;> first | rfl | (exfalso; omega)) ?_
          exact z_iret hx hb hr hlocks hP hK hD hS (trivial) dX3_rest_115
      · have hP : va_P (dC, dI) vwCl (mdW b cB w h (cod1a (isW v 0 1000) (if -1 ≤ k then 1 else 0)) wn mn kn ik so ks rs lf K) H := hP
        have hD : va_D A (mdW b cB w h (cod1a (isW v 0 1000) (if -1 ≤ k then 1 else 0)) wn mn kn ik so ks rs lf K) := hD
        have hl : lv_has ls 6 [(0, .ref (b 0)), (1, .int (iI v)), (2, .int (iI k))] := hl
        subst hAe
        refine z_top (b := if cod1a (isW v 0 1000) (if -1 ≤ k then 1 else 0) ≤ 0 then rsE k (rmF w mn wn v k h (0, -2)) else 0) (by rw [if_pos (by omega), rmF_hit hi9 hfact]; unfold rsE; rw [if_neg hfact]) ?_
        exact z_iret hx hb hr hlocks hP hK hD hS (trivial) dX3_rest_89
    · refine lv_iconst (v := iI 0) hx hb dX3_rest_32 rfl ?_
      subst hAe
      refine z_top (b := if cod1a (isW v 0 1000) (if -1 ≤ k then 1 else 0) ≤ 0 then rsE k (rmF w mn wn v k h (0, -2)) else 0) (by rw [if_neg (by omega)]) ?_
      exact z_iret hx hb hr hlocks hP hK hD hS (trivial) dX3_rest_33
  · refine z_if_eq (tgt := 21) hx hb dX3_rest_9 (by decide) (isW_rg _ _ _) (fun c9 => ?_) (fun c9 => ?_)
    · refine lv_iconst (v := iI 1) hx hb dX3_rest_21 rfl ?_
      exact z_top (b := cod1a (isW v 0 1000) (if -1 ≤ k then 1 else 0)) (by unfold cod1a; (repeat' split) <;> omega) (J22 _ _ hP hD hS)
    · refine lv_iload_n hx hb dX3_rest_12 rfl (lv_at hl 2 rfl) ?_
      refine lv_iconst (v := iI (-1)) hx hb dX3_rest_13 rfl ?_
      refine z_icmp_lt (tgt := 21) hx hb dX3_rest_14 (by decide) (by omega) (by omega) (fun c14 => ?_) (fun c14 => ?_)
      · refine lv_iconst (v := iI 1) hx hb dX3_rest_21 rfl ?_
        exact z_top (b := cod1a (isW v 0 1000) (if -1 ≤ k then 1 else 0)) (by unfold cod1a; (repeat' split) <;> omega) (J22 _ _ hP hD hS)
      · refine lv_iconst (v := iI 0) hx hb dX3_rest_17 rfl ?_
        refine lv_goto (tgt := 22) hx hb dX3_rest_18 (by decide) ?_
        exact z_top (b := cod1a (isW v 0 1000) (if -1 ≤ k then 1 else 0)) (by unfold cod1a; (repeat' split) <;> omega) (J22 _ _ hP hD hS)
