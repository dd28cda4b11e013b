abbrev r_X3_profileOf : Room := { frames := 1, cells := 0, slots := 0, locals := 22 }
set_option maxHeartbeats 4000000 in
set_option maxRecDepth 100000 in
theorem c_X3_profileOf (l : Launch) (dC : Nat → ClassId) (dI : Nat → Nat → Nat) (sz : Nat) (b : Nat → Nat) (cB : Nat → ClassId) (w h : Nat) (cd : Int) (wn mn kn : Nat → Int) (ik so : Int) (ks rs lf : Nat → Int) (K : MK) (t dx dy : Int) (ht3 : 0 ≤ t ∧ t ≤ 3) (h1 : rg dx) (h2 : rg dy) (hks : 0 ≤ ks t.toNat ∧ ks t.toNat ≤ 2) (hrs : 0 ≤ rs t.toNat ∧ rs t.toNat ≤ 5) : Met l yX3_profileOf wsX3_profileOf r_X3_profileOf (zP (dC, dI) vwCl (mdT cB) (mdW b cB w h cd wn mn kn ik so ks rs lf K) sz [.ref (b 0), .int (iI t), .int (iI dx), .int (iI dy)]) (zQi (dC, dI) vwCl (mdT cB) (mdW b cB w h cd wn mn kn ik so ks rs lf K) sz (True) (pfM (ks t.toNat) (rs t.toNat) dx dy) (mdW b cB w h cd wn mn kn ik so ks rs lf K)) 0 0 (va_A (mdW b cB w h cd wn mn kn ik so ks rs lf K) sz) := by
  refine Met.ofW (cc := cX3_profileOf) (maxL := 7) (ret := (some .int)) (by decide) rfl ?_
  intro p e s m args below meth c s₁ B hml hv
  obtain ⟨rfl, hsz, hP, hK, hD0, hZ⟩ := hv
  have hx := B.exec
  have hb := B.bytes
  have hr := B.returns
  have hts0 := atoms_spec (ws := wsX3_profileOf) B.pre
  have hts : ∀ w ∈ wsAll, w.before _ s = true := fun w h => hts0 w (List.mem_cons_of_mem _ h)
  have hown : s.vm.findClass RX3 = some m.cls := findClass_of_methodNamed B.named
  have hlocks := B.notSynchronized
  subst hsz
  have hD := hD0.self (sz := s.heap.size)
  obtain ⟨A, hAe⟩ : ∃ A, A = va_A (mdW b cB w h cd wn mn kn ik so ks rs lf K) s.heap.size := ⟨_, rfl⟩
  rw [← hAe] at hD hZ
  have hA : ∀ q : Nat, s.heap.size ≤ q → A q := fun q h => by rw [hAe]; exact Or.inr h
  have hS : va_S A s.heap s.heap [] := va_S.rf
  have hP : va_P (dC, dI) vwCl (mdW b cB w h cd wn mn kn ik so ks rs lf K) s.heap := hP
  have hl := lv_entry ([.ref (b 0), .int (iI t), .int (iI dx), .int (iI dy)]) (n := 7) (Nat.le_of_ble_eq_true rfl)
  rw [lg_entry_eq]
  generalize (lg_sl ([.ref (b 0), .int (iI t), .int (iI dx), .int (iI dy)]) ++ List.replicate (7 - (lg_sl ([.ref (b 0), .int (iI t), .int (iI dx), .int (iI dy)])).length) Slot.unset).toArray = ls at hl ⊢
  have hl : lv_has ls 7 [(0, .ref (b 0)), (1, .int (iI t)), (2, .int (iI dx)), (3, .int (iI dy))] := hl
  refine lv_aload_n hx hb dX3_profileOf_0 rfl (lv_at hl 0 rfl) ?_
  refine va_get (D := (dC, dI)) (ci := 3) (v := .ref (b 5)) (C := RX3) (T := TX3) (N := 18) hx hb hts inX3 hown hK hP 0 rfl rfl 9 (by decide) (hts _ wm_412) (fun _ h9 => h9) rfl dX3_profileOf_1 ?_
  refine lv_iload_n hx hb dX3_profileOf_4 rfl (lv_at hl 1 rfl) ?_
  refine z_iald (f := rs) (i := t) hx hb hK hP 5 4 rfl rfl (by omega) (by decide) dX3_profileOf_5 ?_
  refine lv_istore (lv' := [(4, .int (iI (rs (t).toNat))), (0, .ref (b 0)), (1, .int (iI t)), (2, .int (iI dx)), (3, .int (iI dy))]) hx hb dX3_profileOf_6 hl (by decide) rfl (fun ls hl => ?_)
  refine lv_iload_n hx hb dX3_profileOf_8 rfl (lv_at hl 3 rfl) ?_
  refine lv_iload hx hb dX3_profileOf_9 (lv_at hl 0 rfl) ?_
  refine z_neg hx hb dX3_profileOf_11 ?_
  refine lv_iload hx hb dX3_profileOf_12 (lv_at hl 0 rfl) ?_
  refine z_rcalli (va_runS (As := [.int (iI dx), .int (iI (-(rs (t).toNat))), .int (iI (rs (t).toNat))]) (rest := []) ⟨hx, hb, hml, hown, hts⟩ (c_X3_isIn l dC dI (s.heap).size dx (-(rs (t).toNat)) (rs (t).toNat) (by omega) (by omega) (by omega)) (va_cwS 3 hts g_X3_55 rfl rfl rfl (by decide +kernel) ⟨Nat.le_of_ble_eq_true rfl, Nat.le_of_ble_eq_true rfl⟩) (zP_S z_P0 (hK.sub [] rfl) z_D0 hS (z_free0 hS hA) hZ) rfl rfl hl.1 rfl (lv_room (Nat.le_of_ble_eq_true rfl)) dX3_profileOf_14 ⟨Nat.le_of_ble_eq_true rfl, Nat.le_of_ble_eq_true rfl⟩) hP hD hS (z_free0 hS hA) (fun _ h => by cases h) (fun H locs _ hP hD hS _ => ?_)
  refine z_if_eq (tgt := 47) hx hb dX3_profileOf_17 (by decide) (isW_rg _ _ _) (fun c17 => ?_) (fun c17 => ?_)
  · have c17 := isW_f.mp c17
    refine lv_iconst (v := iI (-1)) hx hb dX3_profileOf_47 rfl ?_
    subst hAe
    refine z_top (b := pfM (ks t.toNat) (rs t.toNat) dx dy) (by unfold pfM das; (repeat' split) <;> omega) ?_
    exact z_iret hx hb hr hlocks hP hK hD hS (trivial) dX3_profileOf_48
  · have c17 := isW_t.mp c17
    refine lv_iload_n hx hb dX3_profileOf_20 rfl (lv_at hl 4 rfl) ?_
    refine lv_iload hx hb dX3_profileOf_21 (lv_at hl 0 rfl) ?_
    refine z_neg hx hb dX3_profileOf_23 ?_
    refine lv_iload hx hb dX3_profileOf_24 (lv_at hl 0 rfl) ?_
    refine z_rcalli (va_runS (As := [.int (iI dy), .int (iI (-(rs (t).toNat))), .int (iI (rs (t).toNat))]) (rest := []) ⟨hx, hb, hml, hown, hts⟩ (c_X3_isIn l dC dI (H).size dy (-(rs (t).toNat)) (rs (t).toNat) (by omega) (by omega) (by omega)) (va_cwS 3 hts g_X3_55 rfl rfl rfl (by decide +kernel) ⟨Nat.le_of_ble_eq_true rfl, Nat.le_of_ble_eq_true rfl⟩) (zP_S z_P0 (hK.sub [] rfl) z_D0 hS (z_free0 hS hA) hZ) rfl rfl hl.1 rfl (lv_room (Nat.le_of_ble_eq_true rfl)) dX3_profileOf_26 ⟨Nat.le_of_ble_eq_true rfl, Nat.le_of_ble_eq_true rfl⟩) hP hD hS (z_free0 hS hA) (fun _ h => by cases h) (fun H locs _ hP hD hS _ => ?_)
    refine z_if_eq (tgt := 47) hx hb dX3_profileOf_29 (by decide) (isW_rg _ _ _) (fun c29 => ?_) (fun c29 => ?_)
    · have c29 := isW_f.mp c29
      refine lv_iconst (v := iI (-1)) hx hb dX3_profileOf_47 rfl ?_
      subst hAe
      refine z_top (b := pfM (ks t.toNat) (rs t.toNat) dx dy) (by unfold pfM das; (repeat' split) <;> omega) ?_
      exact z_iret hx hb hr hlocks hP hK hD hS (trivial) dX3_profileOf_48
    · have c29 := isW_t.mp c29
      have hxx := z_sqm (a := dx) (r := rs t.toNat) (by omega) (by omega) hrs.2
      have hyy := z_sqm (a := dy) (r := rs t.toNat) (by omega) (by omega) hrs.2
      have hrr := z_sq hrs.1 hrs.2
      refine lv_iload_n hx hb dX3_profileOf_32 rfl (lv_at hl 3 rfl) ?_
      refine lv_iload_n hx hb dX3_profileOf_33 rfl (lv_at hl 3 rfl) ?_
      refine z_mul hx hb dX3_profileOf_34 ?_
      refine lv_iload_n hx hb dX3_profileOf_35 rfl (lv_at hl 4 rfl) ?_
      refine lv_iload_n hx hb dX3_profileOf_36 rfl (lv_at hl 4 rfl) ?_
      refine z_mul hx hb dX3_profileOf_37 ?_
      refine z_add hx hb dX3_profileOf_38 ?_
      refine lv_iload hx hb dX3_profileOf_39 (lv_at hl 0 rfl) ?_
      refine lv_iload hx hb dX3_profileOf_41 (lv_at hl 0 rfl) ?_
      refine z_mul hx hb dX3_profileOf_43 ?_
      refine z_icmp_le (tgt := 49) hx hb dX3_profileOf_44 (by decide) (by omega) (by omega) (fun c44 => ?_) (fun c44 => ?_)
      · refine lv_iload_n hx hb dX3_profileOf_49 rfl (lv_at hl 3 rfl) ?_
        refine lv_iload_n hx hb dX3_profileOf_50 rfl (lv_at hl 3 rfl) ?_
        refine z_mul hx hb dX3_profileOf_51 ?_
        refine lv_iload_n hx hb dX3_profileOf_52 rfl (lv_at hl 4 rfl) ?_
        refine lv_iload_n hx hb dX3_profileOf_53 rfl (lv_at hl 4 rfl) ?_
        refine z_mul hx hb dX3_profileOf_54 ?_
        refine z_add hx hb dX3_profileOf_55 ?_
        refine lv_istore (lv' := [(5, .int (iI ((dx * dx) + (dy * dy)))), (4, .int (iI (rs (t).toNat))), (0, .ref (b 0)), (1, .int (iI t)), (2, .int (iI dx)), (3, .int (iI dy))]) hx hb dX3_profileOf_56 hl (by decide) rfl (fun ls hl => ?_)
        refine lv_aload_n hx hb dX3_profileOf_58 rfl (lv_at hl 2 rfl) ?_
        refine va_get (D := (dC, dI)) (ci := 3) (v := .ref (b 4)) (C := RX3) (T := TX3) (N := 18) hx hb hts inX3 hown hK hP 0 rfl rfl 8 (by decide) (hts _ wm_411) (fun _ h9 => h9) rfl dX3_profileOf_59 ?_
        refine lv_iload_n hx hb dX3_profileOf_62 rfl (lv_at hl 3 rfl) ?_
        refine z_iald (f := ks) (i := t) hx hb hK hP 4 3 rfl rfl (by omega) (by decide) dX3_profileOf_63 ?_
        refine z_if_ne (tgt := 69) hx hb dX3_profileOf_64 (by decide) (by omega) (fun c64 => ?_) (fun c64 => ?_)
        · refine lv_iconst (v := iI 0) hx hb dX3_profileOf_69 rfl ?_
          refine lv_istore (lv' := [(6, .int (iI 0)), (5, .int (iI ((dx * dx) + (dy * dy)))), (4, .int (iI (rs (t).toNat))), (0, .ref (b 0)), (1, .int (iI t)), (2, .int (iI dx)), (3, .int (iI dy))]) hx hb dX3_profileOf_70 hl (by decide) rfl (fun ls hl => ?_)
          refine lv_aload_n hx hb dX3_profileOf_72 rfl (lv_at hl 3 rfl) ?_
          refine va_get (D := (dC, dI)) (ci := 3) (v := .ref (b 4)) (C := RX3) (T := TX3) (N := 18) hx hb hts inX3 hown hK hP 0 rfl rfl 8 (by decide) (hts _ wm_411) (fun _ h9 => h9) rfl dX3_profileOf_73 ?_
          refine lv_iload_n hx hb dX3_profileOf_76 rfl (lv_at hl 4 rfl) ?_
          refine z_iald (f := ks) (i := t) hx hb hK hP 4 3 rfl rfl (by omega) (by decide) dX3_profileOf_77 ?_
          refine lv_iconst (v := iI 2) hx hb dX3_profileOf_78 rfl ?_
          refine z_icmp_ne (tgt := 101) hx hb dX3_profileOf_79 (by decide) (by omega) (by omega) (fun c79 => ?_) (fun c79 => ?_)
          · refine lv_iload hx hb dX3_profileOf_101 (lv_at hl 0 rfl) ?_
            refine lv_iconst (v := iI 1) hx hb dX3_profileOf_103 rfl ?_
            refine z_add hx hb dX3_profileOf_104 ?_
            refine lv_iload hx hb dX3_profileOf_105 (lv_at hl 0 rfl) ?_
            refine lv_iconst (v := iI 1) hx hb dX3_profileOf_107 rfl ?_
            refine z_add hx hb dX3_profileOf_108 ?_
            refine z_mul hx hb dX3_profileOf_109 ?_
            refine lv_iload hx hb dX3_profileOf_110 (lv_at hl 2 rfl) ?_
            refine lv_iload hx hb dX3_profileOf_112 (lv_at hl 2 rfl) ?_
            refine z_mul hx hb dX3_profileOf_114 ?_
            refine lv_iload hx hb dX3_profileOf_115 (lv_at hl 1 rfl) ?_
            refine z_sub hx hb dX3_profileOf_117 ?_
            refine z_icmp_gt (tgt := 127) hx hb dX3_profileOf_118 (by decide) (by omega) (by omega) (fun c118 => ?_) (fun c118 => ?_)
            · refine lv_iload hx hb dX3_profileOf_127 (lv_at hl 2 rfl) ?_
              refine lv_iload hx hb dX3_profileOf_129 (lv_at hl 0 rfl) ?_
              refine z_sub hx hb dX3_profileOf_131 ?_
              subst hAe
              refine z_top (b := pfM (ks t.toNat) (rs t.toNat) dx dy) (by unfold pfM das flR; (repeat' split) <;> omega) ?_
              exact z_iret hx hb hr hlocks hP hK hD hS (trivial) dX3_profileOf_132
            · refine lv_iinc (v := iI 1) (lv' := [(6, .int (iI 1)), (5, .int (iI ((dx * dx) + (dy * dy)))), (4, .int (iI (rs (t).toNat))), (0, .ref (b 0)), (1, .int (iI t)), (2, .int (iI dx)), (3, .int (iI dy))]) hx hb dX3_profileOf_121 hl (k := 0) rfl ((iI_add _ _).trans (congrArg iI (by omega))) (by decide) rfl (fun ls hl => ?_)
              refine lv_goto (tgt := 101) hx hb dX3_profileOf_124 (by decide) ?_
              refine lv_iload hx hb dX3_profileOf_101 (lv_at hl 0 rfl) ?_
              refine lv_iconst (v := iI 1) hx hb dX3_profileOf_103 rfl ?_
              refine z_add hx hb dX3_profileOf_104 ?_
              refine lv_iload hx hb dX3_profileOf_105 (lv_at hl 0 rfl) ?_
              refine lv_iconst (v := iI 1) hx hb dX3_profileOf_107 rfl ?_
              refine z_add hx hb dX3_profileOf_108 ?_
              refine z_mul hx hb dX3_profileOf_109 ?_
              refine lv_iload hx hb dX3_profileOf_110 (lv_at hl 2 rfl) ?_
              refine lv_iload hx hb dX3_profileOf_112 (lv_at hl 2 rfl) ?_
              refine z_mul hx hb dX3_profileOf_114 ?_
              refine lv_iload hx hb dX3_profileOf_115 (lv_at hl 1 rfl) ?_
              refine z_sub hx hb dX3_profileOf_117 ?_
              refine z_icmp_gt (tgt := 127) hx hb dX3_profileOf_118 (by decide) (by omega) (by omega) (fun c118 => ?_) (fun c118 => ?_)
              · refine lv_iload hx hb dX3_profileOf_127 (lv_at hl 2 rfl) ?_
                refine lv_iload hx hb dX3_profileOf_129 (lv_at hl 0 rfl) ?_
                refine z_sub hx hb dX3_profileOf_131 ?_
                subst hAe
                refine z_top (b := pfM (ks t.toNat) (rs t.toNat) dx dy) (by unfold pfM das flR; (repeat' split) <;> omega) ?_
                exact z_iret hx hb hr hlocks hP hK hD hS (trivial) dX3_profileOf_132
              · refine lv_iinc (v := iI 2) (lv' := [(6, .int (iI 2)), (5, .int (iI ((dx * dx) + (dy * dy)))), (4, .int (iI (rs (t).toNat))), (0, .ref (b 0)), (1, .int (iI t)), (2, .int (iI dx)), (3, .int (iI dy))]) hx hb dX3_profileOf_121 hl (k := 0) rfl ((iI_add _ _).trans (congrArg iI (by omega))) (by decide) rfl (fun ls hl => ?_)
                refine lv_goto (tgt := 101) hx hb dX3_profileOf_124 (by decide) ?_
                refine lv_iload hx hb dX3_profileOf_101 (lv_at hl 0 rfl) ?_
                refine lv_iconst (v := iI 1) hx hb dX3_profileOf_103 rfl ?_
                refine z_add hx hb dX3_profileOf_104 ?_
                refine lv_iload hx hb dX3_profileOf_105 (lv_at hl 0 rfl) ?_
                refine lv_iconst (v := iI 1) hx hb dX3_profileOf_107 rfl ?_
                refine z_add hx hb dX3_profileOf_108 ?_
                refine z_mul hx hb dX3_profileOf_109 ?_
                refine lv_iload hx hb dX3_profileOf_110 (lv_at hl 2 rfl) ?_
                refine lv_iload hx hb dX3_profileOf_112 (lv_at hl 2 rfl) ?_
                refine z_mul hx hb dX3_profileOf_114 ?_
                refine lv_iload hx hb dX3_profileOf_115 (lv_at hl 1 rfl) ?_
                refine z_sub hx hb dX3_profileOf_117 ?_
                refine z_icmp_gt (tgt := 127) hx hb dX3_profileOf_118 (by decide) (by omega) (by omega) (fun c118 => ?_) (fun c118 => ?_)
                · refine lv_iload hx hb dX3_profileOf_127 (lv_at hl 2 rfl) ?_
                  refine lv_iload hx hb dX3_profileOf_129 (lv_at hl 0 rfl) ?_
                  refine z_sub hx hb dX3_profileOf_131 ?_
                  subst hAe
                  refine z_top (b := pfM (ks t.toNat) (rs t.toNat) dx dy) (by unfold pfM das flR; (repeat' split) <;> omega) ?_
                  exact z_iret hx hb hr hlocks hP hK hD hS (trivial) dX3_profileOf_132
                · refine lv_iinc (v := iI 3) (lv' := [(6, .int (iI 3)), (5, .int (iI ((dx * dx) + (dy * dy)))), (4, .int (iI (rs (t).toNat))), (0, .ref (b 0)), (1, .int (iI t)), (2, .int (iI dx)), (3, .int (iI dy))]) hx hb dX3_profileOf_121 hl (k := 0) rfl ((iI_add _ _).trans (congrArg iI (by omega))) (by decide) rfl (fun ls hl => ?_)
                  refine lv_goto (tgt := 101) hx hb dX3_profileOf_124 (by decide) ?_
                  refine lv_iload hx hb dX3_profileOf_101 (lv_at hl 0 rfl) ?_
                  refine lv_iconst (v := iI 1) hx hb dX3_profileOf_103 rfl ?_
                  refine z_add hx hb dX3_profileOf_104 ?_
                  refine lv_iload hx hb dX3_profileOf_105 (lv_at hl 0 rfl) ?_
                  refine lv_iconst (v := iI 1) hx hb dX3_profileOf_107 rfl ?_
                  refine z_add hx hb dX3_profileOf_108 ?_
                  refine z_mul hx hb dX3_profileOf_109 ?_
                  refine lv_iload hx hb dX3_profileOf_110 (lv_at hl 2 rfl) ?_
                  refine lv_iload hx hb dX3_profileOf_112 (lv_at hl 2 rfl) ?_
                  refine z_mul hx hb dX3_profileOf_114 ?_
                  refine lv_iload hx hb dX3_profileOf_115 (lv_at hl 1 rfl) ?_
                  refine z_sub hx hb dX3_profileOf_117 ?_
                  refine z_icmp_gt (tgt := 127) hx hb dX3_profileOf_118 (by decide) (by omega) (by omega) (fun c118 => ?_) (fun c118 => ?_)
                  · refine lv_iload hx hb dX3_profileOf_127 (lv_at hl 2 rfl) ?_
                    refine lv_iload hx hb dX3_profileOf_129 (lv_at hl 0 rfl) ?_
                    refine z_sub hx hb dX3_profileOf_131 ?_
                    subst hAe
                    refine z_top (b := pfM (ks t.toNat) (rs t.toNat) dx dy) (by unfold pfM das flR; (repeat' split) <;> omega) ?_
                    exact z_iret hx hb hr hlocks hP hK hD hS (trivial) dX3_profileOf_132
                  · refine lv_iinc (v := iI 4) (lv' := [(6, .int (iI 4)), (5, .int (iI ((dx * dx) + (dy * dy)))), (4, .int (iI (rs (t).toNat))), (0, .ref (b 0)), (1, .int (iI t)), (2, .int (iI dx)), (3, .int (iI dy))]) hx hb dX3_profileOf_121 hl (k := 0) rfl ((iI_add _ _).trans (congrArg iI (by omega))) (by decide) rfl (fun ls hl => ?_)
                    refine lv_goto (tgt := 101) hx hb dX3_profileOf_124 (by decide) ?_
                    refine lv_iload hx hb dX3_profileOf_101 (lv_at hl 0 rfl) ?_
                    refine lv_iconst (v := iI 1) hx hb dX3_profileOf_103 rfl ?_
                    refine z_add hx hb dX3_profileOf_104 ?_
                    refine lv_iload hx hb dX3_profileOf_105 (lv_at hl 0 rfl) ?_
                    refine lv_iconst (v := iI 1) hx hb dX3_profileOf_107 rfl ?_
                    refine z_add hx hb dX3_profileOf_108 ?_
                    refine z_mul hx hb dX3_profileOf_109 ?_
                    refine lv_iload hx hb dX3_profileOf_110 (lv_at hl 2 rfl) ?_
                    refine lv_iload hx hb dX3_profileOf_112 (lv_at hl 2 rfl) ?_
                    refine z_mul hx hb dX3_profileOf_114 ?_
                    refine lv_iload hx hb dX3_profileOf_115 (lv_at hl 1 rfl) ?_
                    refine z_sub hx hb dX3_profileOf_117 ?_
                    refine z_icmp_gt (tgt := 127) hx hb dX3_profileOf_118 (by decide) (by omega) (by omega) (fun c118 => ?_) (fun c118 => ?_)
                    · refine lv_iload hx hb dX3_profileOf_127 (lv_at hl 2 rfl) ?_
                      refine lv_iload hx hb dX3_profileOf_129 (lv_at hl 0 rfl) ?_
                      refine z_sub hx hb dX3_profileOf_131 ?_
                      subst hAe
                      refine z_top (b := pfM (ks t.toNat) (rs t.toNat) dx dy) (by unfold pfM das flR; (repeat' split) <;> omega) ?_
                      exact z_iret hx hb hr hlocks hP hK hD hS (trivial) dX3_profileOf_132
                    · refine lv_iinc (v := iI 5) (lv' := [(6, .int (iI 5)), (5, .int (iI ((dx * dx) + (dy * dy)))), (4, .int (iI (rs (t).toNat))), (0, .ref (b 0)), (1, .int (iI t)), (2, .int (iI dx)), (3, .int (iI dy))]) hx hb dX3_profileOf_121 hl (k := 0) rfl ((iI_add _ _).trans (congrArg iI (by omega))) (by decide) rfl (fun ls hl => ?_)
                      refine lv_goto (tgt := 101) hx hb dX3_profileOf_124 (by decide) ?_
                      refine lv_iload hx hb dX3_profileOf_101 (lv_at hl 0 rfl) ?_
                      refine lv_iconst (v := iI 1) hx hb dX3_profileOf_103 rfl ?_
                      refine z_add hx hb dX3_profileOf_104 ?_
                      refine lv_iload hx hb dX3_profileOf_105 (lv_at hl 0 rfl) ?_
                      refine lv_iconst (v := iI 1) hx hb dX3_profileOf_107 rfl ?_
                      refine z_add hx hb dX3_profileOf_108 ?_
                      refine z_mul hx hb dX3_profileOf_109 ?_
                      refine lv_iload hx hb dX3_profileOf_110 (lv_at hl 2 rfl) ?_
                      refine lv_iload hx hb dX3_profileOf_112 (lv_at hl 2 rfl) ?_
                      refine z_mul hx hb dX3_profileOf_114 ?_
                      refine lv_iload hx hb dX3_profileOf_115 (lv_at hl 1 rfl) ?_
                      refine z_sub hx hb dX3_profileOf_117 ?_
                      refine z_icmp_gt (tgt := 127) hx hb dX3_profileOf_118 (by decide) (by omega) (by omega) (fun c118 => ?_) (fun c118 => by exfalso; omega)
                      refine lv_iload hx hb dX3_profileOf_127 (lv_at hl 2 rfl) ?_
                      refine lv_iload hx hb dX3_profileOf_129 (lv_at hl 0 rfl) ?_
                      refine z_sub hx hb dX3_profileOf_131 ?_
                      subst hAe
                      refine z_top (b := pfM (ks t.toNat) (rs t.toNat) dx dy) (by unfold pfM das flR; (repeat' split) <;> omega) ?_
                      exact z_iret hx hb hr hlocks hP hK hD hS (trivial) dX3_profileOf_132
          · refine lv_iload hx hb dX3_profileOf_82 (lv_at hl 0 rfl) ?_
            refine lv_iload hx hb dX3_profileOf_84 (lv_at hl 0 rfl) ?_
            refine z_mul hx hb dX3_profileOf_86 ?_
            refine lv_iload hx hb dX3_profileOf_87 (lv_at hl 1 rfl) ?_
            refine z_icmp_ge (tgt := 98) hx hb dX3_profileOf_89 (by decide) (by omega) (by omega) (fun c89 => ?_) (fun c89 => ?_)
            · refine lv_iload hx hb dX3_profileOf_98 (lv_at hl 0 rfl) ?_
              subst hAe
              refine z_top (b := pfM (ks t.toNat) (rs t.toNat) dx dy) (by unfold pfM das clR; (repeat' split) <;> omega) ?_
              exact z_iret hx hb hr hlocks hP hK hD hS (trivial) dX3_profileOf_100
            · refine lv_iinc (v := iI 1) (lv' := [(6, .int (iI 1)), (5, .int (iI ((dx * dx) + (dy * dy)))), (4, .int (iI (rs (t).toNat))), (0, .ref (b 0)), (1, .int (iI t)), (2, .int (iI dx)), (3, .int (iI dy))]) hx hb dX3_profileOf_92 hl (k := 0) rfl ((iI_add _ _).trans (congrArg iI (by omega))) (by decide) rfl (fun ls hl => ?_)
              refine lv_goto (tgt := 82) hx hb dX3_profileOf_95 (by decide) ?_
              refine lv_iload hx hb dX3_profileOf_82 (lv_at hl 0 rfl) ?_
              refine lv_iload hx hb dX3_profileOf_84 (lv_at hl 0 rfl) ?_
              refine z_mul hx hb dX3_profileOf_86 ?_
              refine lv_iload hx hb dX3_profileOf_87 (lv_at hl 1 rfl) ?_
              refine z_icmp_ge (tgt := 98) hx hb dX3_profileOf_89 (by decide) (by omega) (by omega) (fun c89 => ?_) (fun c89 => ?_)
              · refine lv_iload hx hb dX3_profileOf_98 (lv_at hl 0 rfl) ?_
                subst hAe
                refine z_top (b := pfM (ks t.toNat) (rs t.toNat) dx dy) (by unfold pfM das clR; (repeat' split) <;> omega) ?_
                exact z_iret hx hb hr hlocks hP hK hD hS (trivial) dX3_profileOf_100
              · refine lv_iinc (v := iI 2) (lv' := [(6, .int (iI 2)), (5, .int (iI ((dx * dx) + (dy * dy)))), (4, .int (iI (rs (t).toNat))), (0, .ref (b 0)), (1, .int (iI t)), (2, .int (iI dx)), (3, .int (iI dy))]) hx hb dX3_profileOf_92 hl (k := 0) rfl ((iI_add _ _).trans (congrArg iI (by omega))) (by decide) rfl (fun ls hl => ?_)
                refine lv_goto (tgt := 82) hx hb dX3_profileOf_95 (by decide) ?_
                refine lv_iload hx hb dX3_profileOf_82 (lv_at hl 0 rfl) ?_
                refine lv_iload hx hb dX3_profileOf_84 (lv_at hl 0 rfl) ?_
                refine z_mul hx hb dX3_profileOf_86 ?_
                refine lv_iload hx hb dX3_profileOf_87 (lv_at hl 1 rfl) ?_
                refine z_icmp_ge (tgt := 98) hx hb dX3_profileOf_89 (by decide) (by omega) (by omega) (fun c89 => ?_) (fun c89 => ?_)
                · refine lv_iload hx hb dX3_profileOf_98 (lv_at hl 0 rfl) ?_
                  subst hAe
                  refine z_top (b := pfM (ks t.toNat) (rs t.toNat) dx dy) (by unfold pfM das clR; (repeat' split) <;> omega) ?_
                  exact z_iret hx hb hr hlocks hP hK hD hS (trivial) dX3_profileOf_100
                · refine lv_iinc (v := iI 3) (lv' := [(6, .int (iI 3)), (5, .int (iI ((dx * dx) + (dy * dy)))), (4, .int (iI (rs (t).toNat))), (0, .ref (b 0)), (1, .int (iI t)), (2, .int (iI dx)), (3, .int (iI dy))]) hx hb dX3_profileOf_92 hl (k := 0) rfl ((iI_add _ _).trans (congrArg iI (by omega))) (by decide) rfl (fun ls hl => ?_)
                  refine lv_goto (tgt := 82) hx hb dX3_profileOf_95 (by decide) ?_
                  refine lv_iload hx hb dX3_profileOf_82 (lv_at hl 0 rfl) ?_
                  refine lv_iload hx hb dX3_profileOf_84 (lv_at hl 0 rfl) ?_
                  refine z_mul hx hb dX3_profileOf_86 ?_
                  refine lv_iload hx hb dX3_profileOf_87 (lv_at hl 1 rfl) ?_
                  refine z_icmp_ge (tgt := 98) hx hb dX3_profileOf_89 (by decide) (by omega) (by omega) (fun c89 => ?_) (fun c89 => ?_)
                  · refine lv_iload hx hb dX3_profileOf_98 (lv_at hl 0 rfl) ?_
                    subst hAe
                    refine z_top (b := pfM (ks t.toNat) (rs t.toNat) dx dy) (by unfold pfM das clR; (repeat' split) <;> omega) ?_
                    exact z_iret hx hb hr hlocks hP hK hD hS (trivial) dX3_profileOf_100
                  · refine lv_iinc (v := iI 4) (lv' := [(6, .int (iI 4)), (5, .int (iI ((dx * dx) + (dy * dy)))), (4, .int (iI (rs (t).toNat))), (0, .ref (b 0)), (1, .int (iI t)), (2, .int (iI dx)), (3, .int (iI dy))]) hx hb dX3_profileOf_92 hl (k := 0) rfl ((iI_add _ _).trans (congrArg iI (by omega))) (by decide) rfl (fun ls hl => ?_)
                    refine lv_goto (tgt := 82) hx hb dX3_profileOf_95 (by decide) ?_
                    refine lv_iload hx hb dX3_profileOf_82 (lv_at hl 0 rfl) ?_
                    refine lv_iload hx hb dX3_profileOf_84 (lv_at hl 0 rfl) ?_
                    refine z_mul hx hb dX3_profileOf_86 ?_
                    refine lv_iload hx hb dX3_profileOf_87 (lv_at hl 1 rfl) ?_
                    refine z_icmp_ge (tgt := 98) hx hb dX3_profileOf_89 (by decide) (by omega) (by omega) (fun c89 => ?_) (fun c89 => ?_)
                    · refine lv_iload hx hb dX3_profileOf_98 (lv_at hl 0 rfl) ?_
                      subst hAe
                      refine z_top (b := pfM (ks t.toNat) (rs t.toNat) dx dy) (by unfold pfM das clR; (repeat' split) <;> omega) ?_
                      exact z_iret hx hb hr hlocks hP hK hD hS (trivial) dX3_profileOf_100
                    · refine lv_iinc (v := iI 5) (lv' := [(6, .int (iI 5)), (5, .int (iI ((dx * dx) + (dy * dy)))), (4, .int (iI (rs (t).toNat))), (0, .ref (b 0)), (1, .int (iI t)), (2, .int (iI dx)), (3, .int (iI dy))]) hx hb dX3_profileOf_92 hl (k := 0) rfl ((iI_add _ _).trans (congrArg iI (by omega))) (by decide) rfl (fun ls hl => ?_)
                      refine lv_goto (tgt := 82) hx hb dX3_profileOf_95 (by decide) ?_
                      refine lv_iload hx hb dX3_profileOf_82 (lv_at hl 0 rfl) ?_
                      refine lv_iload hx hb dX3_profileOf_84 (lv_at hl 0 rfl) ?_
                      refine z_mul hx hb dX3_profileOf_86 ?_
                      refine lv_iload hx hb dX3_profileOf_87 (lv_at hl 1 rfl) ?_
                      refine z_icmp_ge (tgt := 98) hx hb dX3_profileOf_89 (by decide) (by omega) (by omega) (fun c89 => ?_) (fun c89 => by exfalso; omega)
                      refine lv_iload hx hb dX3_profileOf_98 (lv_at hl 0 rfl) ?_
                      subst hAe
                      refine z_top (b := pfM (ks t.toNat) (rs t.toNat) dx dy) (by unfold pfM das clR; (repeat' split) <;> omega) ?_
                      exact z_iret hx hb hr hlocks hP hK hD hS (trivial) dX3_profileOf_100
        · refine lv_iconst (v := iI 0) hx hb dX3_profileOf_67 rfl ?_
          subst hAe
          refine z_top (b := pfM (ks t.toNat) (rs t.toNat) dx dy) (by unfold pfM das; (repeat' split) <;> omega) ?_
          exact z_iret hx hb hr hlocks hP hK hD hS (trivial) dX3_profileOf_68
      · refine lv_iconst (v := iI (-1)) hx hb dX3_profileOf_47 rfl ?_
        subst hAe
        refine z_top (b := pfM (ks t.toNat) (rs t.toNat) dx dy) (by unfold pfM das; (repeat' split) <;> omega) ?_
        exact z_iret hx hb hr hlocks hP hK hD hS (trivial) dX3_profileOf_48
