set_option maxRecDepth 100000 in
theorem rpW_setT {D : va_G} {cl : List vw_C} {A : Nat → Prop} {H H1 : Heap} {a : Nat → Nat} {cA : Nat → ClassId} {w h : Nat} {wa ma ka li : Nat → Int} {hk sh : Int} {T : TK} {kd rd : Nat → Int} {dp : Nat → Nat → Int} {j : Nat} (hj : j < 4) {k2 r2 : Int} {d2 : Nat → Int} (hP : va_P D cl (rpW a cA w h wa ma ka li hk sh T kd rd dp) H) (hD : va_D A (rpW a cA w h wa ma ka li hk sh T kd rd dp)) (hk9 : ∀ q : Nat, q < H.size → ¬ va_A (tlW (a (8 + j)) (a (12 + j)) (cA (6 + j)) (kd j) (rd j) (dp j)) H.size q → H1[q]? = H[q]?) (hF : ∀ q, va_A (tlW (a (8 + j)) (a (12 + j)) (cA (6 + j)) (kd j) (rd j) (dp j)) H.size q → A q) (hP1 : va_P D cl (tlW (a (8 + j)) (a (12 + j)) (cA (6 + j)) k2 r2 d2) H1) (hD1 : va_D (va_A (tlW (a (8 + j)) (a (12 + j)) (cA (6 + j)) (kd j) (rd j) (dp j)) H.size) (tlW (a (8 + j)) (a (12 + j)) (cA (6 + j)) k2 r2 d2)) : va_P D cl (rpW a cA w h wa ma ka li hk sh T (uI kd j k2) (uI rd j r2) (dpU dp j d2)) H1 ∧ va_D A (rpW a cA w h wa ma ka li hk sh T (uI kd j k2) (uI rd j r2) (dpU dp j d2)) := match j, hj with
  | 0, _ => z_joinW (wr := [0, 1, 2, 3, 4, 5, 6, 7, 9, 10, 11, 13, 14, 15].filterMap (fun z9 => (rpW a cA w h wa ma ka li hk sh T kd rd dp)[z9]?)) hP hD [8, 12] [0, 1, 2, 3, 4, 5, 6, 7, 9, 10, 11, 13, 14, 15] [0, 1, 2, 3, 4, 5, 6, 7, 14, 8, 9, 10, 15, 11, 12, 13] rfl rfl (by decide) (by decide) rfl (by decide) hk9 hF hP1 hD1
  | 1, _ => z_joinW (wr := [0, 1, 2, 3, 4, 5, 6, 7, 8, 10, 11, 12, 14, 15].filterMap (fun z9 => (rpW a cA w h wa ma ka li hk sh T kd rd dp)[z9]?)) hP hD [9, 13] [0, 1, 2, 3, 4, 5, 6, 7, 8, 10, 11, 12, 14, 15] [0, 1, 2, 3, 4, 5, 6, 7, 8, 14, 9, 10, 11, 15, 12, 13] rfl rfl (by decide) (by decide) rfl (by decide) hk9 hF hP1 hD1
  | 2, _ => z_joinW (wr := [0, 1, 2, 3, 4, 5, 6, 7, 8, 9, 11, 12, 13, 15].filterMap (fun z9 => (rpW a cA w h wa ma ka li hk sh T kd rd dp)[z9]?)) hP hD [10, 14] [0, 1, 2, 3, 4, 5, 6, 7, 8, 9, 11, 12, 13, 15] [0, 1, 2, 3, 4, 5, 6, 7, 8, 9, 14, 10, 11, 12, 15, 13] rfl rfl (by decide) (by decide) rfl (by decide) hk9 hF hP1 hD1
  | 3, _ => z_joinW (wr := [0, 1, 2, 3, 4, 5, 6, 7, 8, 9, 10, 12, 13, 14].filterMap (fun z9 => (rpW a cA w h wa ma ka li hk sh T kd rd dp)[z9]?)) hP hD [11, 15] [0, 1, 2, 3, 4, 5, 6, 7, 8, 9, 10, 12, 13, 14] [0, 1, 2, 3, 4, 5, 6, 7, 8, 9, 10, 14, 11, 12, 13, 15] rfl rfl (by decide) (by decide) rfl (by decide) hk9 hF hP1 hD1
theorem z_ldc {p : Program} {l : Launch} {e : Env} {R : Room} {s : State} {m : MethodId} {args : Array Value} {below : List Frame} {meth : Method} {c : Code} {H : Heap} {locs : List Loc} {cells slots : Nat} {Q : State → Prop} {cc : ByteArray} {pc : Nat} {ls : Array Slot} {rest : List Value} (hx : p.tables.exec = Jvm.exec) (hb : c.code = cc) {own : String} {index : Nat} {v : Int32} {x : Int} (hown : s.vm.findClass own = some m.cls) (hconst : (Jvm.Cond.constant own index v).before args s = true) (hv : v = iI x) (hdg : decode cc pc = .ok (.ldc index, 2)) (k : W p l e R s m args below meth c H locs cells slots Q (F0 m (pc + 2) ls (.int (iI x) :: rest))) : W p l e R s m args below meth c H locs cells slots Q (F0 m pc ls rest) := lv_ldc hx hb hown hconst hdg (by rw [hv]; exact k)
def belF (ma wa : Nat → Int) (n : Nat) : Int := itr (fun i b => if ma i - wa i < 0 then 1 else b) n 0
theorem belF_hit {ma wa : Nat → Int} {n i : Nat} (hi : i < n) (h : ma i - wa i < 0) : belF ma wa n = 1 := by
  induction n with
  | zero => omega
  | succ n ih =>
    show (if ma n - wa n < 0 then 1 else belF ma wa n) = 1
    by_cases e : i = n
    · subst e; rw [if_pos h]
    · by_cases e2 : ma n - wa n < 0
      · rw [if_pos e2]
      · rw [if_neg e2]; exact ih (by omega)
theorem belF_01 (ma wa : Nat → Int) (n : Nat) : belF ma wa n = 0 ∨ belF ma wa n = 1 := itr_inv (P := fun b => b = 0 ∨ b = 1) n (Or.inl rfl) (fun i b _ h => by split <;> simp [h])
def smF (ma wa : Nat → Int) (n : Nat) : Int := itr (fun i s => s + max 0 (ma i - wa i)) n 0
def mvF (T : TK) (k u : Int) : Int := if u = 0 then T.1 k.toNat % 20 else if u = 1 then T.1 k.toNat / 20 % 20 else T.1 k.toNat / 400
abbrev r_X2_profile : Room := { frames := 7, cells := 1, slots := 6, locals := 111 }
set_option maxHeartbeats 4000000 in
set_option maxRecDepth 100000 in
theorem c_X2_profile (l : Launch) (hl9 : l.stackTraces = false) (dC : Nat → ClassId) (dI : Nat → Nat → Nat) (sz : Nat) (a : Nat → Nat) (cA : Nat → ClassId) (w h : Nat) (wa ma ka li : Nat → Int) (hk sh : Int) (T : TK) (kd rd : Nat → Int) (dp : Nat → Nat → Int) (t x y : Int) (hw : 1 ≤ w ∧ w ≤ 20) (hh : 1 ≤ h ∧ h ≤ 20) (hrd : ∀ j, j < 4 → 0 ≤ rd j ∧ rd j ≤ 5) (hdp : ∀ j, j < 4 → bd (dp j) (-1) 5) (h1 : rg t) (h2 : rg x) (h3 : rg y) : vx_Met l yX2_profile wsX2_profile r_X2_profile (zP (dC, dI) vwCl (rpT cA) (rpW a cA w h wa ma ka li hk sh T kd rd dp) sz [.ref (a 0), .int (iI t), .int (iI x), .int (iI y)]) (zQi (dC, dI) vwCl (rpT cA) (rpW a cA w h wa ma ka li hk sh T kd rd dp) sz (0 ≤ t ∧ t ≤ 3) (dOv (dp t.toNat) (rd t.toNat) x y) (rpW a cA w h wa ma ka li hk sh T kd rd dp)) (zX (dC, dI) vwCl (rpT cA) (rpW a cA w h wa ma ka li hk sh T kd rd dp) sz (fun E => E = "java/lang/IndexOutOfBoundsException" ∧ ¬ (0 ≤ t ∧ t ≤ 3))) 1 6 (va_A (rpW a cA w h wa ma ka li hk sh T kd rd dp) sz) := by
  refine vx_ofW (cc := cX2_profile) (maxL := 4) (ret := (some .int)) (by decide) rfl ?_
  intro p e s m args below meth c s₁ B hml ht9 hv
  obtain ⟨rfl, hsz, hP, hK, hD0, hZ⟩ := hv
  have hx := B.exec
  have hb := B.bytes
  have hr := B.returns
  have hts0 := atoms_spec (ws := wsX2_profile) B.pre
  have hts : ∀ w ∈ wsAll, w.before _ s = true := fun w h => hts0 w (List.mem_cons_of_mem _ h)
  have hown : s.vm.findClass RX2 = some m.cls := findClass_of_methodNamed B.named
  have hlocks := B.notSynchronized
  subst hsz
  have hD := hD0.self (sz := s.heap.size)
  obtain ⟨A, hAe⟩ : ∃ A, A = va_A (rpW a cA w h wa ma ka li hk sh T kd rd dp) s.heap.size := ⟨_, rfl⟩
  rw [← hAe] at hD hZ
  have hA : ∀ q : Nat, s.heap.size ≤ q → A q := fun q h => by rw [hAe]; exact Or.inr h
  have hS : va_S A s.heap s.heap [] := va_S.rf
  have hP : va_P (dC, dI) vwCl (rpW a cA w h wa ma ka li hk sh T kd rd dp) s.heap := hP
  have hl := lv_entry ([.ref (a 0), .int (iI t), .int (iI x), .int (iI y)]) (n := 4) (Nat.le_of_ble_eq_true rfl)
  rw [lg_entry_eq]
  generalize (lg_sl ([.ref (a 0), .int (iI t), .int (iI x), .int (iI y)]) ++ List.replicate (4 - (lg_sl ([.ref (a 0), .int (iI t), .int (iI x), .int (iI y)])).length) Slot.unset).toArray = ls at hl ⊢
  have hl : lv_has ls 4 [(0, .ref (a 0)), (1, .int (iI t)), (2, .int (iI x)), (3, .int (iI y))] := hl
  refine lv_iload_n hx hb dX2_profile_0 rfl (lv_at hl 1 rfl) ?_
  refine z_xrcallv (vx_runS (As := [.int (iI t)]) (rest := []) ⟨hx, hb, hml, hown, hts⟩ (c_X2_needTool l hl9 dC dI (s.heap).size t (by omega)) (va_cwS 1 hts g_X2_76 rfl rfl rfl (by decide +kernel) ⟨Nat.le_of_ble_eq_true rfl, Nat.le_of_ble_eq_true rfl⟩) (zP_S z_P0 (hK.sub [] rfl) z_D0 hS (z_free0 hS hA) hZ) rfl rfl hl.1 rfl (lv_room (Nat.le_of_ble_eq_true rfl)) dX2_profile_1 ⟨Nat.le_of_ble_eq_true rfl, Nat.le_of_ble_eq_true rfl⟩) hP hD hS (z_free0 hS hA) (fun _ h => by cases h) (fun E ce q9 H locs hE hP hS _ h7 h8 h9 => by subst hAe; exact z_xout ht9 hlocks h7 h8 h9 (hE) hP hK hD hS (Nat.le_of_ble_eq_true rfl) (Nat.le_of_ble_eq_true rfl)) (fun H locs hok1 hP hD hS _ => ?_)
  refine lv_aload_n hx hb dX2_profile_4 rfl (lv_at hl 0 rfl) ?_
  refine va_get (D := (dC, dI)) (ci := 2) (v := .ref (a 5)) (C := RX2) (T := TX2) (N := 10) hx hb hts inX2 hown hK hP 0 rfl rfl 6 (by decide) (hts _ wm_177) (fun _ h9 => h9) rfl dX2_profile_5 ?_
  refine lv_iload_n hx hb dX2_profile_8 rfl (lv_at hl 1 rfl) ?_
  have hj : t.toNat < 4 := by omega
  have hrd := hrd _ hj
  have hdp := hdp _ hj
  refine z_aald (f := fun j => a (8 + j)) (i := t) hx hb hK hP 5 4 rfl rfl (by omega) (by decide) dX2_profile_9 ?_
  refine lv_iload_n hx hb dX2_profile_10 rfl (lv_at hl 2 rfl) ?_
  refine lv_iload_n hx hb dX2_profile_11 rfl (lv_at hl 3 rfl) ?_
  have hsub := rpW_sub (a := a) (cA := cA) (w := w) (h := h) (wa := wa) (ma := ma) (ka := ka) (li := li) (hk := hk) (sh := sh) (T := T) (kd := kd) (rd := rd) (dp := dp) hj
  have hFc := z_freeR hsub hD hS hA
  refine z_rcalli (va_runV (As := [.int (iI x), .int (iI y)]) (rest := []) ⟨hx, hb, hml, hown, hts⟩ (c_X0_depthOver l dC dI (H).size (a (8 + t.toNat)) (a (12 + t.toNat)) (cA (6 + t.toNat)) (kd t.toNat) (rd t.toNat) (dp t.toNat) x y (by omega) (by omega) hrd) (cwV 2 hts g_X2_98 rfl rfl rfl (by decide +kernel) ⟨Nat.le_of_ble_eq_true rfl, Nat.le_of_ble_eq_true rfl⟩) (zP_V (ci := 0) (q0 := 0) rfl rfl (z_subP hsub hP) (rpT_K hj hK) (rpW_DT hj hD) hS hFc hZ) rfl rfl hl.1 rfl (lv_room (Nat.le_of_ble_eq_true rfl)) dX2_profile_12 ⟨Nat.le_of_ble_eq_true rfl, Nat.le_of_ble_eq_true rfl⟩) hP hD hS hFc (hsub) (fun H locs _ hP hD hS _ => ?_)
  refine vx_ret ?_
  subst hAe
  exact z_iret hx hb hr hlocks hP hK hD hS (hok1) dX2_profile_15
theorem g_X2_80 : GoodIn wsAll (wsV RX2 80 RX0 yX0_become wsX0_become) := z_good (show ∀ w ∈ (Cond.methodLink RX2 80 yX0_become :: Cond.instanceMethod yX0_become :: Cond.selects RX0 yX0_become yX0_become :: Cond.initialized RX0 :: Cond.code yX0_become prog_2_method_2_code 6 (some .boolean) :: wsAll), w ∈ wsAll from List.forall_mem_cons.mpr ⟨wm_256, List.forall_mem_cons.mpr ⟨wm_257, List.forall_mem_cons.mpr ⟨wm_258, List.forall_mem_cons.mpr ⟨wm_111, List.forall_mem_cons.mpr ⟨wm_259, fun _ h => h⟩⟩⟩⟩⟩)
abbrev r_X2_tool : Room := { frames := 7, cells := 3, slots := 18, locals := 113 }
set_option maxHeartbeats 4000000 in
set_option maxRecDepth 100000 in
theorem c_X2_tool (l : Launch) (hl9 : l.stackTraces = false) (dC : Nat → ClassId) (dI : Nat → Nat → Nat) (sz : Nat) (a : Nat → Nat) (cA : Nat → ClassId) (w h : Nat) (wa ma ka li : Nat → Int) (hk sh : Int) (T : TK) (kd rd : Nat → Int) (dp : Nat → Nat → Int) (t k r : Int) (hw : 1 ≤ w ∧ w ≤ 20) (hh : 1 ≤ h ∧ h ≤ 20) (hrd : ∀ j, j < 4 → 0 ≤ rd j ∧ rd j ≤ 5) (hdp : ∀ j, j < 4 → bd (dp j) (-1) 5) (hkd : ∀ j, j < 4 → 0 ≤ kd j ∧ kd j ≤ 2) (h1 : rg t) (h2 : rg k) (h3 : rg r) : vx_Met l yX2_tool wsX2_tool r_X2_tool (zP (dC, dI) vwCl (rpT cA) (rpW a cA w h wa ma ka li hk sh T kd rd dp) sz [.ref (a 0), .int (iI t), .int (iI k), .int (iI r)]) (zQi (dC, dI) vwCl (rpT cA) (rpW a cA w h wa ma ka li hk sh T kd rd dp) sz ((0 ≤ t ∧ t ≤ 3) ∧ (0 ≤ k ∧ k ≤ 2) ∧ (0 ≤ r ∧ r ≤ 5)) (if kd t.toNat = k ∧ rd t.toNat = r then 0 else 1) (rpW a cA w h wa ma ka li hk sh T (uI kd t.toNat k) (uI rd t.toNat r) (dpU dp t.toNat (becF k r (2 * r + 1).toNat (2 * r + 1).toNat (dp t.toNat))))) (zX (dC, dI) vwCl (rpT cA) (rpW a cA w h wa ma ka li hk sh T kd rd dp) sz (fun E => (E = "java/lang/IndexOutOfBoundsException" ∧ ¬ (0 ≤ t ∧ t ≤ 3)) ∨ (E = "java/lang/IllegalArgumentException" ∧ (0 ≤ t ∧ t ≤ 3) ∧ ¬ ((0 ≤ k ∧ k ≤ 2) ∧ (0 ≤ r ∧ r ≤ 5))))) 3 18 (va_A (rpW a cA w h wa ma ka li hk sh T kd rd dp) sz) := by
  refine vx_ofW (cc := cX2_tool) (maxL := 4) (ret := (some .boolean)) (by decide) rfl ?_
  intro p e s m args below meth c s₁ B hml ht9 hv
  obtain ⟨rfl, hsz, hP, hK, hD0, hZ⟩ := hv
  have hx := B.exec
  have hb := B.bytes
  have hr := B.returns
  have hts0 := atoms_spec (ws := wsX2_tool) B.pre
  have hts : ∀ w ∈ wsAll, w.before _ s = true := fun w h => hts0 w (List.mem_cons_of_mem _ h)
  have hown : s.vm.findClass RX2 = some m.cls := findClass_of_methodNamed B.named
  have hlocks := B.notSynchronized
  subst hsz
  have hD := hD0.self (sz := s.heap.size)
  obtain ⟨A, hAe⟩ : ∃ A, A = va_A (rpW a cA w h wa ma ka li hk sh T kd rd dp) s.heap.size := ⟨_, rfl⟩
  rw [← hAe] at hD hZ
  have hA : ∀ q : Nat, s.heap.size ≤ q → A q := fun q h => by rw [hAe]; exact Or.inr h
  have hS : va_S A s.heap s.heap [] := va_S.rf
  have hP : va_P (dC, dI) vwCl (rpW a cA w h wa ma ka li hk sh T kd rd dp) s.heap := hP
  have hl := lv_entry ([.ref (a 0), .int (iI t), .int (iI k), .int (iI r)]) (n := 4) (Nat.le_of_ble_eq_true rfl)
  rw [lg_entry_eq]
  generalize (lg_sl ([.ref (a 0), .int (iI t), .int (iI k), .int (iI r)]) ++ List.replicate (4 - (lg_sl ([.ref (a 0), .int (iI t), .int (iI k), .int (iI r)])).length) Slot.unset).toArray = ls at hl ⊢
  have hl : lv_has ls 4 [(0, .ref (a 0)), (1, .int (iI t)), (2, .int (iI k)), (3, .int (iI r))] := hl
  refine lv_iload_n hx hb dX2_tool_0 rfl (lv_at hl 1 rfl) ?_
  refine z_xrcallv (vx_runS (As := [.int (iI t)]) (rest := []) ⟨hx, hb, hml, hown, hts⟩ (c_X2_needTool l hl9 dC dI (s.heap).size t (by omega)) (va_cwS 1 hts g_X2_76 rfl rfl rfl (by decide +kernel) ⟨Nat.le_of_ble_eq_true rfl, Nat.le_of_ble_eq_true rfl⟩) (zP_S z_P0 (hK.sub [] rfl) z_D0 hS (z_free0 hS hA) hZ) rfl rfl hl.1 rfl (lv_room (Nat.le_of_ble_eq_true rfl)) dX2_tool_1 ⟨Nat.le_of_ble_eq_true rfl, Nat.le_of_ble_eq_true rfl⟩) hP hD hS (z_free0 hS hA) (fun _ h => by cases h) (fun E ce q9 H locs hE hP hS _ h7 h8 h9 => by subst hAe; exact z_xout ht9 hlocks h7 h8 h9 (Or.inl hE) hP hK hD hS (Nat.le_of_ble_eq_true rfl) (Nat.le_of_ble_eq_true rfl)) (fun H locs hok1 hP hD hS _ => ?_)
  refine lv_iload_n hx hb dX2_tool_4 rfl (lv_at hl 2 rfl) ?_
  refine lv_iconst (v := iI 0) hx hb dX2_tool_5 rfl ?_
  refine lv_iconst (v := iI 2) hx hb dX2_tool_6 rfl ?_
  refine z_xrcallv (vx_runS (As := [.int (iI k), .int (iI 0), .int (iI 2)]) (rest := []) ⟨hx, hb, hml, hown, hts⟩ (c_X2_needWithin l hl9 dC dI (H).size k 0 2 (by omega) (by omega) (by omega)) (va_cwS 3 hts g_X2_64 rfl rfl rfl (by decide +kernel) ⟨Nat.le_of_ble_eq_true rfl, Nat.le_of_ble_eq_true rfl⟩) (zP_S z_P0 (hK.sub [] rfl) z_D0 hS (z_free0 hS hA) hZ) rfl rfl hl.1 rfl (lv_room (Nat.le_of_ble_eq_true rfl)) dX2_tool_7 ⟨Nat.le_of_ble_eq_true rfl, Nat.le_of_ble_eq_true rfl⟩) hP hD hS (z_free0 hS hA) (fun _ h => by cases h) (fun E ce q9 H locs hE hP hS _ h7 h8 h9 => by subst hAe; exact z_xout ht9 hlocks h7 h8 h9 (Or.inr ⟨hE.1, hok1, fun z9 => hE.2 z9.1⟩) hP hK hD hS (Nat.le_of_ble_eq_true rfl) (Nat.le_of_ble_eq_true rfl)) (fun H locs hok7 hP hD hS _ => ?_)
  refine lv_iload_n hx hb dX2_tool_10 rfl (lv_at hl 3 rfl) ?_
  refine lv_iconst (v := iI 0) hx hb dX2_tool_11 rfl ?_
  refine lv_iconst (v := iI 5) hx hb dX2_tool_12 rfl ?_
  refine z_xrcallv (vx_runS (As := [.int (iI r), .int (iI 0), .int (iI 5)]) (rest := []) ⟨hx, hb, hml, hown, hts⟩ (c_X2_needWithin l hl9 dC dI (H).size r 0 5 (by omega) (by omega) (by omega)) (va_cwS 3 hts g_X2_64 rfl rfl rfl (by decide +kernel) ⟨Nat.le_of_ble_eq_true rfl, Nat.le_of_ble_eq_true rfl⟩) (zP_S z_P0 (hK.sub [] rfl) z_D0 hS (z_free0 hS hA) hZ) rfl rfl hl.1 rfl (lv_room (Nat.le_of_ble_eq_true rfl)) dX2_tool_13 ⟨Nat.le_of_ble_eq_true rfl, Nat.le_of_ble_eq_true rfl⟩) hP hD hS (z_free0 hS hA) (fun _ h => by cases h) (fun E ce q9 H locs hE hP hS _ h7 h8 h9 => by subst hAe; exact z_xout ht9 hlocks h7 h8 h9 (Or.inr ⟨hE.1, hok1, fun z9 => hE.2 z9.2⟩) hP hK hD hS (Nat.le_of_ble_eq_true rfl) (Nat.le_of_ble_eq_true rfl)) (fun H locs hok13 hP hD hS _ => ?_)
  refine lv_aload_n hx hb dX2_tool_16 rfl (lv_at hl 0 rfl) ?_
  refine va_get (D := (dC, dI)) (ci := 2) (v := .ref (a 5)) (C := RX2) (T := TX2) (N := 10) hx hb hts inX2 hown hK hP 0 rfl rfl 6 (by decide) (hts _ wm_177) (fun _ h9 => h9) rfl dX2_tool_17 ?_
  refine lv_iload_n hx hb dX2_tool_20 rfl (lv_at hl 1 rfl) ?_
  have hj : t.toNat < 4 := by omega
  have hrd := hrd _ hj
  have hdp := hdp _ hj
  refine z_aald (f := fun j => a (8 + j)) (i := t) hx hb hK hP 5 4 rfl rfl (by omega) (by decide) dX2_tool_21 ?_
  refine lv_iload_n hx hb dX2_tool_22 rfl (lv_at hl 2 rfl) ?_
  refine lv_iload_n hx hb dX2_tool_23 rfl (lv_at hl 3 rfl) ?_
  have hsub := rpW_sub (a := a) (cA := cA) (w := w) (h := h) (wa := wa) (ma := ma) (ka := ka) (li := li) (hk := hk) (sh := sh) (T := T) (kd := kd) (rd := rd) (dp := dp) hj
  have hFc := z_freeR hsub hD hS hA
  refine va_calli (va_runV (As := [.int (iI k), .int (iI r)]) (rest := []) ⟨hx, hb, hml, hown, hts⟩ (c_X0_become l dC dI (H).size (a (8 + t.toNat)) (a (12 + t.toNat)) (cA (6 + t.toNat)) (kd t.toNat) (rd t.toNat) (dp t.toNat) k r (by have := hkd _ hj; omega) (by omega) (by omega) (by omega)) (cwV 2 hts g_X2_80 rfl rfl rfl (by decide +kernel) ⟨Nat.le_of_ble_eq_true rfl, Nat.le_of_ble_eq_true rfl⟩) (zP_V (ci := 0) (q0 := 0) rfl rfl (z_subP hsub hP) (rpT_K hj hK) (rpW_DT hj hD) hS hFc hZ) rfl rfl hl.1 rfl (lv_room (Nat.le_of_ble_eq_true rfl)) dX2_tool_24 ⟨Nat.le_of_ble_eq_true rfl, Nat.le_of_ble_eq_true rfl⟩) hS (fun q _ h => hFc q h) hFc (fun r9 u9 t9 H locs ht9 hvm9 hw9 hB9 hz9 hk9 hS => ?_)
  obtain ⟨hP1, -, hD1⟩ := hB9
  rw [ht9] at hP1
  obtain ⟨-, rfl⟩ := hw9
  obtain ⟨hP, hD⟩ := rpW_setT hj hP hD hk9 hFc hP1 hD1
  have hP : va_P (dC, dI) vwCl (rpW a cA w h wa ma ka li hk sh T (uI kd t.toNat k) (uI rd t.toNat r) (dpU dp t.toNat (becF k r (2 * r + 1).toNat (2 * r + 1).toNat (dp t.toNat)))) H := hP
  have hD : va_D A (rpW a cA w h wa ma ka li hk sh T (uI kd t.toNat k) (uI rd t.toNat r) (dpU dp t.toNat (becF k r (2 * r + 1).toNat (2 * r + 1).toNat (dp t.toNat)))) := hD
  refine vx_ret ?_
  subst hAe
  exact z_zret hx hb hr hlocks (by split <;> omega) hP hK hD hS (⟨hok1, hok7, hok13⟩) dX2_tool_27
theorem g_X2_83 : GoodIn wsAll (wsV RX2 83 RX2 yX2_greatestWanted wsX2_greatestWanted) := z_good (show ∀ w ∈ (Cond.methodLink RX2 83 yX2_greatestWanted :: Cond.instanceMethod yX2_greatestWanted :: Cond.selects RX2 yX2_greatestWanted yX2_greatestWanted :: Cond.initialized RX2 :: Cond.code yX2_greatestWanted prog_1_method_26_code 6 (some .int) :: wsAll), w ∈ wsAll from List.forall_mem_cons.mpr ⟨wm_279, List.forall_mem_cons.mpr ⟨wm_280, List.forall_mem_cons.mpr ⟨wm_564, List.forall_mem_cons.mpr ⟨wm_109, List.forall_mem_cons.mpr ⟨wm_281, fun _ h => h⟩⟩⟩⟩⟩)
theorem g_X2_54 : GoodIn wsAll (va_wsS RX2 54 yJ7_fill wsJ7_fill) := z_good (show ∀ w ∈ (Cond.methodLink RX2 54 yJ7_fill :: Cond.static yJ7_fill :: Cond.initialized RJ7 :: Cond.code yJ7_fill prog_15_method_103_code 4 none :: wsAll), w ∈ wsAll from List.forall_mem_cons.mpr ⟨wm_168, List.forall_mem_cons.mpr ⟨wm_169, List.forall_mem_cons.mpr ⟨wm_113, List.forall_mem_cons.mpr ⟨wm_170, fun _ h => h⟩⟩⟩⟩)
abbrev r_X2_stock : Room := { frames := 7, cells := 2, slots := 12, locals := 113 }
set_option maxHeartbeats 4000000 in
set_option maxRecDepth 100000 in
theorem c_X2_stock (l : Launch) (hl9 : l.stackTraces = false) (dC : Nat → ClassId) (dI : Nat → Nat → Nat) (sz : Nat) (a : Nat → Nat) (cA : Nat → ClassId) (w h : Nat) (wa ma ka li : Nat → Int) (hk sh : Int) (T : TK) (kd rd : Nat → Int) (dp : Nat → Nat → Int) (v : Int) (hw : 1 ≤ w ∧ w ≤ 20) (hh : 1 ≤ h ∧ h ≤ 20) (hwa : bd wa 0 1000) (h1 : rg v) : vx_Met l yX2_stock wsX2_stock r_X2_stock (zP (dC, dI) vwCl (rpT cA) (rpW a cA w h wa ma ka li hk sh T kd rd dp) sz [.ref (a 0), .int (iI v)]) (zQi (dC, dI) vwCl (rpT cA) (rpW a cA w h wa ma ka li hk sh T kd rd dp) sz ((1 ≤ v ∧ v ≤ 1000) ∧ gwF wa (w * h) ≤ v) (gwF wa (w * h)) (rpW a cA w h wa (flF v (w * h) ma) ka li hk v T kd rd dp)) (zX (dC, dI) vwCl (rpT cA) (rpW a cA w h wa ma ka li hk sh T kd rd dp) sz (fun E => (E = "java/lang/IllegalArgumentException" ∧ ¬ (1 ≤ v ∧ v ≤ 1000)) ∨ (E = "java/lang/IllegalStateException" ∧ (1 ≤ v ∧ v ≤ 1000) ∧ v < gwF wa (w * h)))) 2 12 (va_A (rpW a cA w h wa ma ka li hk sh T kd rd dp) sz) := by
  refine vx_ofW (cc := cX2_stock) (maxL := 3) (ret := (some .int)) (by decide) rfl ?_
  intro p e s m args below meth c s₁ B hml ht9 hv
  obtain ⟨rfl, hsz, hP, hK, hD0, hZ⟩ := hv
  have hx := B.exec
  have hb := B.bytes
  have hr := B.returns
  have hts0 := atoms_spec (ws := wsX2_stock) B.pre
  have hts : ∀ w ∈ wsAll, w.before _ s = true := fun w h => hts0 w (List.mem_cons_of_mem _ h)
  have hown : s.vm.findClass RX2 = some m.cls := findClass_of_methodNamed B.named
  have hlocks := B.notSynchronized
  subst hsz
  have hD := hD0.self (sz := s.heap.size)
  obtain ⟨A, hAe⟩ : ∃ A, A = va_A (rpW a cA w h wa ma ka li hk sh T kd rd dp) s.heap.size := ⟨_, rfl⟩
  rw [← hAe] at hD hZ
  have hA : ∀ q : Nat, s.heap.size ≤ q → A q := fun q h => by rw [hAe]; exact Or.inr h
  have hS : va_S A s.heap s.heap [] := va_S.rf
  have hP : va_P (dC, dI) vwCl (rpW a cA w h wa ma ka li hk sh T kd rd dp) s.heap := hP
  have hl := lv_entry ([.ref (a 0), .int (iI v)]) (n := 3) (Nat.le_of_ble_eq_true rfl)
  rw [lg_entry_eq]
  generalize (lg_sl ([.ref (a 0), .int (iI v)]) ++ List.replicate (3 - (lg_sl ([.ref (a 0), .int (iI v)])).length) Slot.unset).toArray = ls at hl ⊢
  have hl : lv_has ls 3 [(0, .ref (a 0)), (1, .int (iI v))] := hl
  refine lv_iload_n hx hb dX2_stock_0 rfl (lv_at hl 1 rfl) ?_
  refine lv_iconst (v := iI 1) hx hb dX2_stock_1 rfl ?_
  refine lv_sipush (v := iI 1000) hx hb dX2_stock_2 (by decide) ?_
  refine z_xrcallv (vx_runS (As := [.int (iI v), .int (iI 1), .int (iI 1000)]) (rest := []) ⟨hx, hb, hml, hown, hts⟩ (c_X2_needWithin l hl9 dC dI (s.heap).size v 1 1000 (by omega) (by omega) (by omega)) (va_cwS 3 hts g_X2_64 rfl rfl rfl (by decide +kernel) ⟨Nat.le_of_ble_eq_true rfl, Nat.le_of_ble_eq_true rfl⟩) (zP_S z_P0 (hK.sub [] rfl) z_D0 hS (z_free0 hS hA) hZ) rfl rfl hl.1 rfl (lv_room (Nat.le_of_ble_eq_true rfl)) dX2_stock_5 ⟨Nat.le_of_ble_eq_true rfl, Nat.le_of_ble_eq_true rfl⟩) hP hD hS (z_free0 hS hA) (fun _ h => by cases h) (fun E ce q9 H locs hE hP hS _ h7 h8 h9 => by subst hAe; exact z_xout ht9 hlocks h7 h8 h9 (Or.inl hE) hP hK hD hS (Nat.le_of_ble_eq_true rfl) (Nat.le_of_ble_eq_true rfl)) (fun H locs hok5 hP hD hS _ => ?_)
  refine lv_aload_n hx hb dX2_stock_8 rfl (lv_at hl 0 rfl) ?_
  have hFc := z_freeR (wc := rpW a cA w h wa ma ka li hk sh T kd rd dp) (fun _ h => h) hD hS hA
  refine z_wcalli (va_runV (As := []) (rest := []) ⟨hx, hb, hml, hown, hts⟩ (c_X2_greatestWanted l dC dI (H).size a cA w h wa ma ka li hk sh T kd rd dp hw hh hwa) (cwV 0 hts g_X2_83 rfl rfl rfl (by decide +kernel) ⟨Nat.le_of_ble_eq_true rfl, Nat.le_of_ble_eq_true rfl⟩) (zP_V (ci := 2) (q0 := 0) rfl rfl hP hK hD hS hFc hZ) rfl rfl hl.1 rfl (lv_room (Nat.le_of_ble_eq_true rfl)) dX2_stock_9 ⟨Nat.le_of_ble_eq_true rfl, Nat.le_of_ble_eq_true rfl⟩) hS hFc (fun H locs _ hP hD hS _ => ?_)
  have hP : va_P (dC, dI) vwCl (rpW a cA w h wa ma ka li hk sh T kd rd dp) H := hP
  have hD : va_D A (rpW a cA w h wa ma ka li hk sh T kd rd dp) := hD
  refine lv_istore_n (lv' := [(2, .int (iI (gwF wa (w * h)))), (0, .ref (a 0)), (1, .int (iI v))]) hx hb dX2_stock_12 rfl hl (by decide) rfl (fun ls hl => ?_)
  have hgw := gwF_rg (n := w * h) hwa
  refine lv_iload_n hx hb dX2_stock_13 rfl (lv_at hl 0 rfl) ?_
  refine lv_iload_n hx hb dX2_stock_14 rfl (lv_at hl 2 rfl) ?_
  refine z_icmp_le (tgt := 28) hx hb dX2_stock_15 (by decide) (by omega) (by omega) (fun c15 => ?_) (fun c15 => ?_)
  · refine lv_aload_n hx hb dX2_stock_28 rfl (lv_at hl 1 rfl) ?_
    refine lv_iload_n hx hb dX2_stock_29 rfl (lv_at hl 2 rfl) ?_
    refine va_put (D := (dC, dI)) (ci := 2) (v := .int (iI v)) (ty := .int) (C := RX2) (T := TX2) (N := 10) hx hb hts inX2 tyX2 tyX2_ok nmX2 hown hK hP hD hS 0 rfl rfl 9 (by decide) (hts _ wm_180) (fun _ h9 => h9) rfl (by decide +kernel) rfl rfl (Nat.le_of_ble_eq_true rfl) dX2_stock_30 (fun H locs hP hD hS => ?_)
    have hP : va_P (dC, dI) vwCl (rpW a cA w h wa ma ka li hk v T kd rd dp) H := hP
    have hD : va_D A (rpW a cA w h wa ma ka li hk v T kd rd dp) := hD
    refine lv_aload_n hx hb dX2_stock_33 rfl (lv_at hl 1 rfl) ?_
    refine va_get (D := (dC, dI)) (ci := 2) (v := .ref (a 2)) (C := RX2) (T := TX2) (N := 10) hx hb hts inX2 hown hK hP 0 rfl rfl 3 (by decide) (hts _ wm_174) (fun _ h9 => h9) rfl dX2_stock_34 ?_
    refine lv_iload_n hx hb dX2_stock_37 rfl (lv_at hl 2 rfl) ?_
    have hPc := hP.sub (ws' := [((a 2), aI (cA 1) (w * h) ma)]) [2] rfl
    have hDc := hD.sub (ws' := [((a 2), aI (cA 1) (w * h) ma)]) [2] (by decide) rfl
    have hKc := hK.sub (tys' := [(cA 1, .int)]) [1] rfl
    have hFc := va_free (wc := [((a 2), aI (cA 1) (w * h) ma)]) hD hS hA [2] rfl
    refine z_callv (ws' := rpW a cA w h wa (flF v (w * h) ma) ka li hk v T kd rd dp) (wr := [0, 1, 3, 4, 5, 6, 7, 8, 9, 10, 11, 12, 13, 14, 15].filterMap (fun z9 => (rpW a cA w h wa ma ka li hk v T kd rd dp)[z9]?)) (va_runS (As := [.ref (a 2), .int (iI v)]) (rest := []) ⟨hx, hb, hml, hown, hts⟩ (c_J7_fill l dC dI (H).size (a 2) (cA 1) (w * h) ma v (by have := z_wh hw.2 hh.2; omega)) (va_cwS 2 hts g_X2_54 rfl rfl rfl (by decide +kernel) ⟨Nat.le_of_ble_eq_true rfl, Nat.le_of_ble_eq_true rfl⟩) (zP_S hPc hKc hDc hS hFc hZ) rfl rfl hl.1 rfl (lv_room (Nat.le_of_ble_eq_true rfl)) dX2_stock_38 ⟨Nat.le_of_ble_eq_true rfl, Nat.le_of_ble_eq_true rfl⟩) hP hD hS hFc [2] [0, 1, 3, 4, 5, 6, 7, 8, 9, 10, 11, 12, 13, 14, 15] [0, 1, 15, 2, 3, 4, 5, 6, 7, 8, 9, 10, 11, 12, 13, 14] rfl rfl (by decide) (by decide) rfl (by decide) (fun H locs _ hP hD hS _ => ?_)
    have hP : va_P (dC, dI) vwCl (rpW a cA w h wa (flF v (w * h) ma) ka li hk v T kd rd dp) H := hP
    have hD : va_D A (rpW a cA w h wa (flF v (w * h) ma) ka li hk v T kd rd dp) := hD
    refine lv_iload_n hx hb dX2_stock_41 rfl (lv_at hl 0 rfl) ?_
    refine W.widen (k := 2) (n := 12) (by omega) (by omega) ?_
    refine vx_ret ?_
    subst hAe
    exact z_iret hx hb hr hlocks hP hK hD hS (⟨hok5, by omega⟩) dX2_stock_42
  · obtain ⟨sa9, hsa9⟩ := hZ.2.1 (RX2, 89, "a wanted height is above the stock") (by decide +kernel)
    subst hAe
    exact vx_throwS (own := RX2) (cls := "java/lang/IllegalStateException") (names := ["java/lang/RuntimeException", "java/lang/Exception"]) hx hb hl9 hown (by decide +kernel) (by decide +kernel) (hts _ wm_87) (hts _ wm_5) hsa9 (vx_hat (L := vx_atS RX2 91 "java/lang/IllegalStateException" ["java/lang/RuntimeException", "java/lang/Exception"]) (B := [.castable "java/lang/IllegalStateException" "java/lang/IllegalStateException", .declares ⟨"java/lang/RuntimeException", "<init>", "(Ljava/lang/String;)V"⟩, .declares ⟨"java/lang/Exception", "<init>", "(Ljava/lang/String;)V"⟩, .declares ⟨"java/lang/Throwable", "<init>", "(Ljava/lang/String;)V"⟩]) (fun w hw => hts w (wsE_in w ((by decide +kernel : ∀ w ∈ (vx_atS RX2 91 "java/lang/IllegalStateException" ["java/lang/RuntimeException", "java/lang/Exception"]).filter goodWord, w ∈ wsE) w hw))) (by decide +kernel) (vx_c (va_Nw.use rfl (hZ.1 (.castable "java/lang/IllegalStateException" "java/lang/IllegalStateException") (by decide +kernel))) (vx_c (va_Nw.use rfl (hZ.1 (.declares ⟨"java/lang/RuntimeException", "<init>", "(Ljava/lang/String;)V"⟩) (by decide +kernel))) (vx_c (va_Nw.use rfl (hZ.1 (.declares ⟨"java/lang/Exception", "<init>", "(Ljava/lang/String;)V"⟩) (by decide +kernel))) (vx_c (va_Nw.use rfl (hZ.1 (.declares ⟨"java/lang/Throwable", "<init>", "(Ljava/lang/String;)V"⟩) (by decide +kernel))) (vx_n)))))) (by decide +kernel) hZ.2.2.2.1 hZ.2.2.2.2 hS (hl.1.trans hml.symm) dX2_stock_18 dX2_stock_21 dX2_stock_22 dX2_stock_24 dX2_stock_27 (fun x h => (ht9 x h).elim) (Nat.le_of_ble_eq_true rfl) (Nat.le_of_ble_eq_true rfl) (Nat.le_of_ble_eq_true rfl) (Nat.le_of_ble_eq_true rfl) hlocks (z_xnew (Or.inr ⟨rfl, hok5, by omega⟩) hP hK hD hS) hS.2.2 (Nat.le_of_ble_eq_true rfl) (Nat.le_of_ble_eq_true rfl)
