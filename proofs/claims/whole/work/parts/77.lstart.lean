theorem g_L_55 : GoodIn wsAll (va_wsS RL 55 yL_cell wsL_cell) := z_good (show ∀ w ∈ (Cond.methodLink RL 55 yL_cell :: Cond.static yL_cell :: Cond.initialized RL :: Cond.code yL_cell method_2_code 2 (some .int) :: wsAll), w ∈ wsAll from List.forall_mem_cons.mpr ⟨wm_220, List.forall_mem_cons.mpr ⟨wm_221, List.forall_mem_cons.mpr ⟨wm_108, List.forall_mem_cons.mpr ⟨wm_222, fun _ h => h⟩⟩⟩⟩)
theorem g_L_61 : GoodIn wsAll (wsX2_init) := z_good (show ∀ w ∈ (Cond.code yX2_init prog_1_method_1_code 5 none :: wsAll), w ∈ wsAll from List.forall_mem_cons.mpr ⟨wm_120, fun _ h => h⟩)
theorem g_L_66 : GoodIn wsAll (wsX3_init) := z_good (show ∀ w ∈ (Cond.code yX3_init prog_5_method_1_code 4 none :: wsAll), w ∈ wsAll from List.forall_mem_cons.mpr ⟨wm_399, fun _ h => h⟩)
set_option maxHeartbeats 4000000 in
set_option maxRecDepth 100000 in
/-- the law, from its entry -/
theorem whole_start {p : Program} {e : Env} {s : State} {m : MethodId} {below : List Frame} {meth : Method} {c : Code} (l : Launch) (hl9 : l.stackTraces = false) {bS L : Nat} {xs : Nat → Int32} (hL : L ≤ 2050) (C0 : lw_At p s m meth c bS L xs) : W p l e room_1 s m #[Value.ref bS] below meth c s.heap [] 0 0 (lw_Z below #[Value.ref bS] s) (entryFrame m ([Value.ref bS] : List Value).toArray 7) := by
  obtain ⟨hx, hb, hr, hml, hown, hts0, hX, hbl, hlocks, hgv⟩ := id C0
  have hts : ∀ w ∈ wsAll, w.before #[Value.ref bS] s = true := fun w h => hts0 w (wsAll_t w h)
  have hZ := zZ_of hts0 hgv
  obtain ⟨A, hAe⟩ : ∃ A, A = (fun q : Nat => s.heap.size ≤ q) := ⟨_, rfl⟩
  rw [← hAe] at hZ
  have hA : ∀ q : Nat, s.heap.size ≤ q → A q := fun q h => by rw [hAe]; exact h
  have hbA : ¬ A bS := by rw [hAe]; exact Nat.not_le.mpr hbl
  have hown : s.vm.findClass RL = some m.cls := hown
  have hAO : va_AO RX0 s := va_AO.of (hts0 _ (List.mem_append_right (k2_sels lw_privs) (show _ ∈ tables_1_1 ++ (tables_1_2 ++ tables_1_3) from (List.mem_append_left _ (List.mem_of_getElem? (l := tables_1_1) (i := 32) rfl)))))
  obtain ⟨c0, iS0, hKn0⟩ := u_known (C := RX0) (T := TX0) (N := 3) (n := 3) hts inX0 (hts _ wm_131)
  obtain ⟨c1, iS1, hKn1⟩ := u_known (C := RX1) (T := TX1) (N := 6) (n := 6) hts inX1 (hts _ wm_146)
  obtain ⟨c2, iS2, hKn2⟩ := u_known (C := RX2) (T := TX2) (N := 10) (n := 10) hts inX2 (hts _ wm_117)
  obtain ⟨c3, iS3, hKn3⟩ := u_known (C := RX3) (T := TX3) (N := 18) (n := 18) hts inX3 (hts _ wm_396)
  obtain ⟨dC, dI, hKc⟩ : ∃ (dC : Nat → ClassId) (dI : Nat → Nat → Nat), ∀ (k : Nat) (q : vw_C), vwCl[k]? = some q → u_Kn s q.1 q.2.1 q.2.2 (dC k) (dI k) := by
    refine ⟨fun k => if k = 0 then c0 else if k = 1 then c1 else if k = 2 then c2 else c3, fun k => if k = 0 then iS0 else if k = 1 then iS1 else if k = 2 then iS2 else iS3, ?_⟩
    intro k q hq
    match k, hq with
    | 0, hq => cases hq; exact hKn0
    | 1, hq => cases hq; exact hKn1
    | 2, hq => cases hq; exact hKn2
    | 3, hq => cases hq; exact hKn3
    | k + 4, hq => simp [vwCl] at hq
  have hS : va_S A s.heap s.heap [] := va_S.rf
  have hK : va_K (dC, dI) vwCl [] s := ⟨hKc, fun k q h => by simp at h⟩
  have hP : va_P (dC, dI) vwCl [] s.heap := z_P0
  have hD : va_D A [] := z_D0
  have hl := lv_entry ([.ref bS]) (n := 7) (Nat.le_of_ble_eq_true rfl)
  rw [lg_entry_eq]
  generalize (lg_sl ([.ref bS]) ++ List.replicate (7 - (lg_sl ([.ref bS])).length) Slot.unset).toArray = ls at hl ⊢
  have hl : lv_has ls 7 [(0, .ref bS)] := hl
  obtain ⟨n1, hn1, hr1⟩ : ∃ z : Int, z = (if (0 : Int) < (L : Int) then xv xs (0 : Int).toNat else 0) ∧ rg z := ⟨_, rfl, by split; exact xv_rg _ _; decide⟩
  obtain ⟨n2, hn2, hr2⟩ : ∃ z : Int, z = (if (1 : Int) < (L : Int) then xv xs (1 : Int).toNat else 0) ∧ rg z := ⟨_, rfl, by split; exact xv_rg _ _; decide⟩
  refine va_new (ci := 2) (fs := [.int 0, .int 0, .null, .null, .null, .null, .null, .null, .int 0, .int 0]) (C := RX2) (T := TX2) (N := 10) hx hb hts inX2 tyX2 tyX2_ok hown (hts _ wm_116) (hts _ wm_117) (hts _ wm_109) hK hP hD hS hA rfl (fun j hj => by rcases (show j = 0 ∨ j = 1 ∨ j = 2 ∨ j = 3 ∨ j = 4 ∨ j = 5 ∨ j = 6 ∨ j = 7 ∨ j = 8 ∨ j = 9 by omega) with rfl | rfl | rfl | rfl | rfl | rfl | rfl | rfl | rfl | rfl <;> rfl) (by show _ ≤ 601024; omega) (by show _ ≤ 7292999; omega) dL_law_0 (fun o1 H hP hD hS => ?_)
  have hP : va_P (dC, dI) vwCl ([(o1, oI 2 [.int 0, .int 0, .null, .null, .null, .null, .null, .null, .int 0, .int 0])]) H := hP
  have hD : va_D A ([(o1, oI 2 [.int 0, .int 0, .null, .null, .null, .null, .null, .null, .int 0, .int 0])]) := hD
  refine lv_dup hx hb dL_law_3 rfl ?_
  refine lv_aload_n hx hb dL_law_4 rfl (lv_at hl 0 rfl) ?_
  refine lv_iconst (v := iI 0) hx hb dL_law_5 rfl ?_
  refine z_rcalli (va_runS (As := [.ref bS, .int (iI 0)]) (rest := [.ref o1, .ref o1]) ⟨hx, hb, hml, hown, hts⟩ (c_L_cell l dC dI (H).size bS L xs 0 (by decide) (by omega) (Nat.lt_of_lt_of_le hbl hS.1)) (va_cwS 2 hts g_L_55 rfl rfl rfl (by decide +kernel) ⟨Nat.le_of_ble_eq_true rfl, Nat.le_of_ble_eq_true rfl⟩) (zP_SX (zP_S z_P0 (hK.sub [] rfl) z_D0 hS (z_free0 hS hA) hZ) (hX.kept (hS.2.1 _ hbl hbA))) rfl rfl hl.1 rfl (lv_room (Nat.le_of_ble_eq_true rfl)) dL_law_6 ⟨by show _ ≤ 601024; omega, by show _ ≤ 7292999; omega⟩) hP hD hS (z_free0 hS hA) (fun _ h => by cases h) (fun H locs _ hP hD hS _ => ?_)
  refine z_top (b := n1) hn1.symm ?_
  have hP : va_P (dC, dI) vwCl ([(o1, oI 2 [.int 0, .int 0, .null, .null, .null, .null, .null, .null, .int 0, .int 0])]) H := hP
  have hD : va_D A ([(o1, oI 2 [.int 0, .int 0, .null, .null, .null, .null, .null, .null, .int 0, .int 0])]) := hD
  refine lv_aload_n hx hb dL_law_9 rfl (lv_at hl 0 rfl) ?_
  refine lv_iconst (v := iI 1) hx hb dL_law_10 rfl ?_
  refine z_rcalli (va_runS (As := [.ref bS, .int (iI 1)]) (rest := [.int (iI n1), .ref o1, .ref o1]) ⟨hx, hb, hml, hown, hts⟩ (c_L_cell l dC dI (H).size bS L xs 1 (by decide) (by omega) (Nat.lt_of_lt_of_le hbl hS.1)) (va_cwS 2 hts g_L_55 rfl rfl rfl (by decide +kernel) ⟨Nat.le_of_ble_eq_true rfl, Nat.le_of_ble_eq_true rfl⟩) (zP_SX (zP_S z_P0 (hK.sub [] rfl) z_D0 hS (z_free0 hS hA) hZ) (hX.kept (hS.2.1 _ hbl hbA))) rfl rfl hl.1 rfl (lv_room (Nat.le_of_ble_eq_true rfl)) dL_law_11 ⟨by show _ ≤ 601024; omega, by show _ ≤ 7292999; omega⟩) hP hD hS (z_free0 hS hA) (fun _ h => by cases h) (fun H locs _ hP hD hS _ => ?_)
  refine z_top (b := n2) hn2.symm ?_
  have hP : va_P (dC, dI) vwCl ([(o1, oI 2 [.int 0, .int 0, .null, .null, .null, .null, .null, .null, .int 0, .int 0])]) H := hP
  have hD : va_D A ([(o1, oI 2 [.int 0, .int 0, .null, .null, .null, .null, .null, .null, .int 0, .int 0])]) := hD
  have hPc := hP.sub (ws' := [(o1, oI 2 [.int 0, .int 0, .null, .null, .null, .null, .null, .null, .int 0, .int 0])]) [0] rfl
  have hDc := hD.sub (ws' := [(o1, oI 2 [.int 0, .int 0, .null, .null, .null, .null, .null, .null, .int 0, .int 0])]) [0] (by decide) rfl
  have hKc := hK.sub (tys' := []) [] rfl
  have hFc := va_free (wc := [(o1, oI 2 [.int 0, .int 0, .null, .null, .null, .null, .null, .null, .int 0, .int 0])]) hD hS hA [0] rfl
  refine va_callv (va_runI (As := [.int (iI n1), .int (iI n2)]) (rest := [.ref o1]) ⟨hx, hb, hml, hown, hts⟩ (c_X2_init l dC dI (H).size o1 n1 n2 hr1 hr2) (cwI 2 hts g_L_61 rfl rfl rfl (hts _ wm_109) (hts _ wm_118) (hts _ wm_119) rfl (by decide +kernel) ⟨Nat.le_of_ble_eq_true rfl, Nat.le_of_ble_eq_true rfl⟩) (zP_SO (zP_S hPc hKc hDc hS hFc hZ) hAO) rfl rfl hl.1 rfl (lv_room (Nat.le_of_ble_eq_true rfl)) dL_law_14 ⟨by show _ ≤ 601024; omega, by show _ ≤ 7292999; omega⟩) hS (fun q _ h => hFc q h) hFc (fun u9 t9 H locs ht9 hvm9 hw9 hB9 hz9 hk9 hS => ?_)
  obtain ⟨a, cA⟩ := u9
  obtain ⟨hP1, hK1, hD1⟩ := hB9
  rw [ht9] at hP1
  have hK1 := va_K.moved hvm9.symm hK1
  dsimp only at hw9 hP1 hK1 hD1
  subst hw9
  obtain ⟨hP, hD⟩ := z_joinW (ws' := rpW a cA (wN n1) (wN n2) (fun _ => 0) (flF 1000 (wN n1 * wN n2) (fun _ => 0)) (fun _ => 0) (fun _ => 0) 0 1000 ((fun _ => 0), 0, 0, 0, 0, 0) (fun _ => 0) (fun _ => 0) (fun _ => (fun _ => 0))) (wr := []) hP hD [0] [] [0, 1, 2, 3, 4, 5, 6, 7, 8, 9, 10, 11, 12, 13, 14, 15] rfl rfl (by decide) (by decide) rfl (by decide) hk9 hFc hP1 hD1
  have hK : va_K (dC, dI) vwCl (rpT cA) s := (hK.sub (tys' := []) [] rfl).app hK1
  have hP : va_P (dC, dI) vwCl (rpW a cA (wN n1) (wN n2) (fun _ => 0) (flF 1000 (wN n1 * wN n2) (fun _ => 0)) (fun _ => 0) (fun _ => 0) 0 1000 ((fun _ => 0), 0, 0, 0, 0, 0) (fun _ => 0) (fun _ => 0) (fun _ => (fun _ => 0))) H := hP
  have hD : va_D A (rpW a cA (wN n1) (wN n2) (fun _ => 0) (flF 1000 (wN n1 * wN n2) (fun _ => 0)) (fun _ => 0) (fun _ => 0) 0 1000 ((fun _ => 0), 0, 0, 0, 0, 0) (fun _ => 0) (fun _ => 0) (fun _ => (fun _ => 0))) := hD
  refine lv_astore_n (lv' := [(1, .ref (a 0)), (0, .ref bS)]) hx hb dL_law_17 rfl hl (by decide) rfl (fun ls hl => ?_)
  refine va_new (ci := 3) (fs := [.int 0, .int 0, .int 0, .null, .null, .null, .int 0, .int 0, .null, .null, .null, .null, .int 0, .null, .long 0, .int 0, .int 0, .int 0]) (C := RX3) (T := TX3) (N := 18) hx hb hts inX3 tyX3 tyX3_ok hown (hts _ wm_395) (hts _ wm_396) (hts _ wm_114) hK hP hD hS hA rfl (fun j hj => by rcases (show j = 0 ∨ j = 1 ∨ j = 2 ∨ j = 3 ∨ j = 4 ∨ j = 5 ∨ j = 6 ∨ j = 7 ∨ j = 8 ∨ j = 9 ∨ j = 10 ∨ j = 11 ∨ j = 12 ∨ j = 13 ∨ j = 14 ∨ j = 15 ∨ j = 16 ∨ j = 17 by omega) with rfl | rfl | rfl | rfl | rfl | rfl | rfl | rfl | rfl | rfl | rfl | rfl | rfl | rfl | rfl | rfl | rfl | rfl <;> rfl) (by show _ ≤ 601024; omega) (by show _ ≤ 7292999; omega) dL_law_18 (fun o2 H hP hD hS => ?_)
  have hP : va_P (dC, dI) vwCl (rpW a cA (wN n1) (wN n2) (fun _ => 0) (flF 1000 (wN n1 * wN n2) (fun _ => 0)) (fun _ => 0) (fun _ => 0) 0 1000 ((fun _ => 0), 0, 0, 0, 0, 0) (fun _ => 0) (fun _ => 0) (fun _ => (fun _ => 0)) ++ [(o2, oI 3 [.int 0, .int 0, .int 0, .null, .null, .null, .int 0, .int 0, .null, .null, .null, .null, .int 0, .null, .long 0, .int 0, .int 0, .int 0])]) H := hP
  have hD : va_D A (rpW a cA (wN n1) (wN n2) (fun _ => 0) (flF 1000 (wN n1 * wN n2) (fun _ => 0)) (fun _ => 0) (fun _ => 0) 0 1000 ((fun _ => 0), 0, 0, 0, 0, 0) (fun _ => 0) (fun _ => 0) (fun _ => (fun _ => 0)) ++ [(o2, oI 3 [.int 0, .int 0, .int 0, .null, .null, .null, .int 0, .int 0, .null, .null, .null, .null, .int 0, .null, .long 0, .int 0, .int 0, .int 0])]) := hD
  refine lv_dup hx hb dL_law_21 rfl ?_
  refine lv_aload_n hx hb dL_law_22 rfl (lv_at hl 1 rfl) ?_
  refine lv_iconst (v := iI 0) hx hb dL_law_23 rfl ?_
  refine z_rcalli (va_runS (As := [.ref bS, .int (iI 0)]) (rest := [.ref o2, .ref o2]) ⟨hx, hb, hml, hown, hts⟩ (c_L_cell l dC dI (H).size bS L xs 0 (by decide) (by omega) (Nat.lt_of_lt_of_le hbl hS.1)) (va_cwS 2 hts g_L_55 rfl rfl rfl (by decide +kernel) ⟨Nat.le_of_ble_eq_true rfl, Nat.le_of_ble_eq_true rfl⟩) (zP_SX (zP_S z_P0 (hK.sub [] rfl) z_D0 hS (z_free0 hS hA) hZ) (hX.kept (hS.2.1 _ hbl hbA))) rfl rfl hl.1 rfl (lv_room (Nat.le_of_ble_eq_true rfl)) dL_law_24 ⟨by show _ ≤ 601024; omega, by show _ ≤ 7292999; omega⟩) hP hD hS (z_free0 hS hA) (fun _ h => by cases h) (fun H locs _ hP hD hS _ => ?_)
  refine z_top (b := n1) hn1.symm ?_
  have hP : va_P (dC, dI) vwCl (rpW a cA (wN n1) (wN n2) (fun _ => 0) (flF 1000 (wN n1 * wN n2) (fun _ => 0)) (fun _ => 0) (fun _ => 0) 0 1000 ((fun _ => 0), 0, 0, 0, 0, 0) (fun _ => 0) (fun _ => 0) (fun _ => (fun _ => 0)) ++ [(o2, oI 3 [.int 0, .int 0, .int 0, .null, .null, .null, .int 0, .int 0, .null, .null, .null, .null, .int 0, .null, .long 0, .int 0, .int 0, .int 0])]) H := hP
  have hD : va_D A (rpW a cA (wN n1) (wN n2) (fun _ => 0) (flF 1000 (wN n1 * wN n2) (fun _ => 0)) (fun _ => 0) (fun _ => 0) 0 1000 ((fun _ => 0), 0, 0, 0, 0, 0) (fun _ => 0) (fun _ => 0) (fun _ => (fun _ => 0)) ++ [(o2, oI 3 [.int 0, .int 0, .int 0, .null, .null, .null, .int 0, .int 0, .null, .null, .null, .null, .int 0, .null, .long 0, .int 0, .int 0, .int 0])]) := hD
  refine lv_aload_n hx hb dL_law_27 rfl (lv_at hl 1 rfl) ?_
  refine lv_iconst (v := iI 1) hx hb dL_law_28 rfl ?_
  refine z_rcalli (va_runS (As := [.ref bS, .int (iI 1)]) (rest := [.int (iI n1), .ref o2, .ref o2]) ⟨hx, hb, hml, hown, hts⟩ (c_L_cell l dC dI (H).size bS L xs 1 (by decide) (by omega) (Nat.lt_of_lt_of_le hbl hS.1)) (va_cwS 2 hts g_L_55 rfl rfl rfl (by decide +kernel) ⟨Nat.le_of_ble_eq_true rfl, Nat.le_of_ble_eq_true rfl⟩) (zP_SX (zP_S z_P0 (hK.sub [] rfl) z_D0 hS (z_free0 hS hA) hZ) (hX.kept (hS.2.1 _ hbl hbA))) rfl rfl hl.1 rfl (lv_room (Nat.le_of_ble_eq_true rfl)) dL_law_29 ⟨by show _ ≤ 601024; omega, by show _ ≤ 7292999; omega⟩) hP hD hS (z_free0 hS hA) (fun _ h => by cases h) (fun H locs _ hP hD hS _ => ?_)
  refine z_top (b := n2) hn2.symm ?_
  have hP : va_P (dC, dI) vwCl (rpW a cA (wN n1) (wN n2) (fun _ => 0) (flF 1000 (wN n1 * wN n2) (fun _ => 0)) (fun _ => 0) (fun _ => 0) 0 1000 ((fun _ => 0), 0, 0, 0, 0, 0) (fun _ => 0) (fun _ => 0) (fun _ => (fun _ => 0)) ++ [(o2, oI 3 [.int 0, .int 0, .int 0, .null, .null, .null, .int 0, .int 0, .null, .null, .null, .null, .int 0, .null, .long 0, .int 0, .int 0, .int 0])]) H := hP
  have hD : va_D A (rpW a cA (wN n1) (wN n2) (fun _ => 0) (flF 1000 (wN n1 * wN n2) (fun _ => 0)) (fun _ => 0) (fun _ => 0) 0 1000 ((fun _ => 0), 0, 0, 0, 0, 0) (fun _ => 0) (fun _ => 0) (fun _ => (fun _ => 0)) ++ [(o2, oI 3 [.int 0, .int 0, .int 0, .null, .null, .null, .int 0, .int 0, .null, .null, .null, .null, .int 0, .null, .long 0, .int 0, .int 0, .int 0])]) := hD
  have hPc := hP.sub (ws' := [(o2, oI 3 [.int 0, .int 0, .int 0, .null, .null, .null, .int 0, .int 0, .null, .null, .null, .null, .int 0, .null, .long 0, .int 0, .int 0, .int 0])]) [16] rfl
  have hDc := hD.sub (ws' := [(o2, oI 3 [.int 0, .int 0, .int 0, .null, .null, .null, .int 0, .int 0, .null, .null, .null, .null, .int 0, .null, .long 0, .int 0, .int 0, .int 0])]) [16] (by decide) rfl
  have hKc := hK.sub (tys' := []) [] rfl
  have hFc := va_free (wc := [(o2, oI 3 [.int 0, .int 0, .int 0, .null, .null, .null, .int 0, .int 0, .null, .null, .null, .null, .int 0, .null, .long 0, .int 0, .int 0, .int 0])]) hD hS hA [16] rfl
  refine va_callv (va_runI (As := [.int (iI n1), .int (iI n2)]) (rest := [.ref o2]) ⟨hx, hb, hml, hown, hts⟩ (c_X3_init l dC dI (H).size o2 n1 n2 hr1 hr2) (cwI 2 hts g_L_66 rfl rfl rfl (hts _ wm_114) (hts _ wm_397) (hts _ wm_398) rfl (by decide +kernel) ⟨Nat.le_of_ble_eq_true rfl, Nat.le_of_ble_eq_true rfl⟩) (zP_S hPc hKc hDc hS hFc hZ) rfl rfl hl.1 rfl (lv_room (Nat.le_of_ble_eq_true rfl)) dL_law_32 ⟨by show _ ≤ 601024; omega, by show _ ≤ 7292999; omega⟩) hS (fun q _ h => hFc q h) hFc (fun u9 t9 H locs ht9 hvm9 hw9 hB9 hz9 hk9 hS => ?_)
  obtain ⟨b, cB⟩ := u9
  obtain ⟨hP1, hK1, hD1⟩ := hB9
  rw [ht9] at hP1
  have hK1 := va_K.moved hvm9.symm hK1
  dsimp only at hw9 hP1 hK1 hD1
  subst hw9
  obtain ⟨hP, hD⟩ := z_joinW (ws' := rpW a cA (wN n1) (wN n2) (fun _ => 0) (flF 1000 (wN n1 * wN n2) (fun _ => 0)) (fun _ => 0) (fun _ => 0) 0 1000 ((fun _ => 0), 0, 0, 0, 0, 0) (fun _ => 0) (fun _ => 0) (fun _ => (fun _ => 0)) ++ mdW b cB (wN n1) (wN n2) 0 (fun _ => 0) (flF 1000 400 (fun _ => 0)) (fun _ => 0) 0 1000 (fun _ => 0) (fun _ => 0) (fun _ => 0) ((fun _ => 0), (fun _ => 0), 0, 0, 0, 0, 0)) (wr := rpW a cA (wN n1) (wN n2) (fun _ => 0) (flF 1000 (wN n1 * wN n2) (fun _ => 0)) (fun _ => 0) (fun _ => 0) 0 1000 ((fun _ => 0), 0, 0, 0, 0, 0) (fun _ => 0) (fun _ => 0) (fun _ => (fun _ => 0))) hP hD [16] [0, 1, 2, 3, 4, 5, 6, 7, 8, 9, 10, 11, 12, 13, 14, 15] [0, 1, 2, 3, 4, 5, 6, 7, 8, 9, 10, 11, 12, 13, 14, 15, 16, 17, 18, 19, 20, 21, 22, 23, 24] rfl rfl (by decide) (by decide) rfl (by decide) hk9 hFc hP1 hD1
  have hK : va_K (dC, dI) vwCl (rpT cA ++ mdT cB) s := hK.app hK1
  have hP : va_P (dC, dI) vwCl (rpW a cA (wN n1) (wN n2) (fun _ => 0) (flF 1000 (wN n1 * wN n2) (fun _ => 0)) (fun _ => 0) (fun _ => 0) 0 1000 ((fun _ => 0), 0, 0, 0, 0, 0) (fun _ => 0) (fun _ => 0) (fun _ => (fun _ => 0)) ++ mdW b cB (wN n1) (wN n2) 0 (fun _ => 0) (flF 1000 400 (fun _ => 0)) (fun _ => 0) 0 1000 (fun _ => 0) (fun _ => 0) (fun _ => 0) ((fun _ => 0), (fun _ => 0), 0, 0, 0, 0, 0)) H := hP
  have hD : va_D A (rpW a cA (wN n1) (wN n2) (fun _ => 0) (flF 1000 (wN n1 * wN n2) (fun _ => 0)) (fun _ => 0) (fun _ => 0) 0 1000 ((fun _ => 0), 0, 0, 0, 0, 0) (fun _ => 0) (fun _ => 0) (fun _ => (fun _ => 0)) ++ mdW b cB (wN n1) (wN n2) 0 (fun _ => 0) (flF 1000 400 (fun _ => 0)) (fun _ => 0) 0 1000 (fun _ => 0) (fun _ => 0) (fun _ => 0) ((fun _ => 0), (fun _ => 0), 0, 0, 0, 0, 0)) := hD
  refine lv_astore_n (lv' := [(2, .ref (b 0)), (1, .ref (a 0)), (0, .ref bS)]) hx hb dL_law_35 rfl hl (by decide) rfl (fun ls hl => ?_)
  refine lv_iconst (v := iI 1) hx hb dL_law_36 rfl ?_
  refine z_newl (N := 1) hx hb (hts _ wm_558) hK hP hD hS hA rfl (by decide) (by show _ ≤ 601024; omega) (by show _ ≤ 7292999; omega) dL_law_37 (fun o co H hK hP hD hS => ?_)
  have hK : va_K (dC, dI) vwCl (lwT cA cB co) s := hK
  have hP : va_P (dC, dI) vwCl (lwW a cA b cB o co (wN n1) (wN n2) (fun _ => 0) (flF 1000 (wN n1 * wN n2) (fun _ => 0)) (fun _ => 0) (fun _ => 0) 0 1000 ((fun _ => 0), 0, 0, 0, 0, 0) (fun _ => 0) (fun _ => 0) (fun _ => (fun _ => 0)) 0 (fun _ => 0) (flF 1000 400 (fun _ => 0)) (fun _ => 0) 0 1000 (fun _ => 0) (fun _ => 0) (fun _ => 0) ((fun _ => 0), (fun _ => 0), 0, 0, 0, 0, 0) (fun _ => 0)) H := hP
  have hD : va_D A (lwW a cA b cB o co (wN n1) (wN n2) (fun _ => 0) (flF 1000 (wN n1 * wN n2) (fun _ => 0)) (fun _ => 0) (fun _ => 0) 0 1000 ((fun _ => 0), 0, 0, 0, 0, 0) (fun _ => 0) (fun _ => 0) (fun _ => (fun _ => 0)) 0 (fun _ => 0) (flF 1000 400 (fun _ => 0)) (fun _ => 0) 0 1000 (fun _ => 0) (fun _ => 0) (fun _ => 0) ((fun _ => 0), (fun _ => 0), 0, 0, 0, 0, 0) (fun _ => 0)) := hD
  refine lv_astore_n (lv' := [(3, .ref o), (2, .ref (b 0)), (1, .ref (a 0)), (0, .ref bS)]) hx hb dL_law_39 rfl hl (by decide) rfl (fun ls hl => ?_)
  refine lv_iconst (v := iI 2) hx hb dL_law_40 rfl ?_
  refine z_top (b := 2 + 4 * ((0 : Nat) : Int)) (by decide) ?_
  refine lv_istore (lv' := [(4, .int (iI (2 + 4 * ((0 : Nat) : Int)))), (3, .ref o), (2, .ref (b 0)), (1, .ref (a 0)), (0, .ref bS)]) hx hb dL_law_41 hl (by decide) rfl (fun ls hl => ?_)
  refine W.widen (k := 26 + 3 * 0) (n := 12144 + 18 * 0) (by omega) (by omega) ?_
  subst hAe
  exact lw_loop hl9 hL hx hb hml hown hts hA hZ hX hbl hbA hr hlocks a cA b cB o co (wN n1) (wN n2) hK (L + 3) 0 (Or.inl rfl) (by omega) _ _ _ _ _ _ _ _ _ _ _ _ _ _ _ _ _ _ _ _ _ (e_new (wN n1) (wN n2) (wN_rg n1) (wN_rg n2)) _ _ _ hP hD hS (lv_sub hl [4, 3, 2, 1, 0] rfl)
