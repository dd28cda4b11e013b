theorem g_L_67 : GoodIn wsAll (va_wsS RL 67 yL_put wsL_put) := z_good (show ∀ w ∈ (Cond.methodLink RL 67 yL_put :: Cond.static yL_put :: Cond.initialized RL :: Cond.codeWith yL_put method_3_code 6 (some .int) [(0, 19, 22, 13), (0, 19, 26, 15)] :: wsAll), w ∈ wsAll from List.forall_mem_cons.mpr ⟨wm_223, List.forall_mem_cons.mpr ⟨wm_224, List.forall_mem_cons.mpr ⟨wm_108, List.forall_mem_cons.mpr ⟨wm_225, fun _ h => h⟩⟩⟩⟩)
theorem g_L_70 : GoodIn wsAll (wsV RL 70 RX3 yX3_put wsX3_put) := z_good (show ∀ w ∈ (Cond.methodLink RL 70 yX3_put :: Cond.instanceMethod yX3_put :: Cond.selects RX3 yX3_put yX3_put :: Cond.initialized RX3 :: Cond.code yX3_put prog_5_method_6_code 4 (some .boolean) :: wsAll), w ∈ wsAll from List.forall_mem_cons.mpr ⟨wm_461, List.forall_mem_cons.mpr ⟨wm_462, List.forall_mem_cons.mpr ⟨wm_463, List.forall_mem_cons.mpr ⟨wm_114, List.forall_mem_cons.mpr ⟨wm_464, fun _ h => h⟩⟩⟩⟩⟩)
theorem g_L_71 : GoodIn wsAll (wsV RL 71 RX3 yX3_thrown wsX3_thrown) := z_good (show ∀ w ∈ (Cond.methodLink RL 71 yX3_thrown :: Cond.instanceMethod yX3_thrown :: Cond.selects RX3 yX3_thrown yX3_thrown :: Cond.initialized RX3 :: Cond.code yX3_thrown prog_5_method_3_code 1 (some .int) :: wsAll), w ∈ wsAll from List.forall_mem_cons.mpr ⟨wm_457, List.forall_mem_cons.mpr ⟨wm_458, List.forall_mem_cons.mpr ⟨wm_459, List.forall_mem_cons.mpr ⟨wm_114, List.forall_mem_cons.mpr ⟨wm_460, fun _ h => h⟩⟩⟩⟩⟩)
set_option maxHeartbeats 4000000 in
set_option maxRecDepth 100000 in
theorem lw_c0 {p : Program} {l : Launch} {e : Env} {s : State} {m : MethodId} {below : List Frame} {meth : Method} {c : Code} {Q : State → Prop} {A : Nat → Prop} {dC : Nat → ClassId} {dI : Nat → Nat → Nat} {bS L : Nat} {xs : Nat → Int32} (hl9 : l.stackTraces = false) (hL : L ≤ 2050) (hx : p.tables.exec = Jvm.exec) (hb : c.code = cL_law) (hml : c.maxLocals = 7) (hown : s.vm.findClass RL = some m.cls) (hts : ∀ w ∈ wsAll, w.before #[Value.ref bS] s = true) (hA : ∀ q : Nat, s.heap.size ≤ q → A q) (hZ : zZ A s s.heap) (hX : va_X bS L xs s s.heap) (hbl : bS < s.heap.size) (hbA : ¬ A bS) (a : Nat → Nat) (cA : Nat → ClassId) (b : Nat → Nat) (cB : Nat → ClassId) (o : Nat) (co : ClassId) (w h : Nat) (hK : va_K (dC, dI) vwCl (lwT cA cB co) s) (wa ma ka li : Nat → Int) (hk sh : Int) (T : TK) (kd rd : Nat → Int) (dp : Nat → Nat → Int) (cd : Int) (wn mn kn : Nat → Int) (ik so : Int) (ks rs lf : Nat → Int) (K : MK) (f : Nat → Int) (hR : zRel w h wa ma ka li hk sh T kd rd dp wn mn kn ik so ks rs lf K) (t : Nat) (ht : 4 * t + 6 ≤ L) (kk : ∀ (wa ma ka li : Nat → Int) (hk sh : Int) (T : TK) (kd rd : Nat → Int) (dp : Nat → Nat → Int) (cd : Int) (wn mn kn : Nat → Int) (ik so : Int) (ks rs lf : Nat → Int) (K : MK) (f : Nat → Int), zRel w h wa ma ka li hk sh T kd rd dp wn mn kn ik so ks rs lf K → ∀ (H : Heap) (locs : List Loc) (ls : Array Slot), va_P (dC, dI) vwCl (lwW a cA b cB o co w h wa ma ka li hk sh T kd rd dp cd wn mn kn ik so ks rs lf K f) H → va_D A (lwW a cA b cB o co w h wa ma ka li hk sh T kd rd dp cd wn mn kn ik so ks rs lf K f) → va_S A s.heap H locs → lv_has ls 7 [(0, .ref bS), (1, .ref (a 0)), (2, .ref (b 0)), (3, .ref o), (4, .int (iI (2 + 4 * ((t : Nat) : Int))))] → W p l e room_1 s m #[Value.ref bS] below meth c H locs (26 + 3 * (t + 1)) (12144 + 18 * (t + 1)) Q (F0 m 1068 ls [])) : ∀ (H : Heap) (locs : List Loc) (ls : Array Slot), va_P (dC, dI) vwCl (lwW a cA b cB o co w h wa ma ka li hk sh T kd rd dp cd wn mn kn ik so ks rs lf K f) H → va_D A (lwW a cA b cB o co w h wa ma ka li hk sh T kd rd dp cd wn mn kn ik so ks rs lf K f) → va_S A s.heap H locs → lv_has ls 7 [(0, .ref bS), (1, .ref (a 0)), (2, .ref (b 0)), (3, .ref o), (4, .int (iI (2 + 4 * ((t : Nat) : Int))))] → W p l e room_1 s m #[Value.ref bS] below meth c H locs (26 + 3 * t) (12144 + 18 * t) Q (F0 m 136 ls []) := by
  intro H locs ls hP hD hS hl
  obtain ⟨p1, hp1, hr1⟩ : ∃ z, z = xv xs ((2 + 4 * ((t : Nat) : Int)) + 1).toNat ∧ rg z := ⟨_, rfl, xv_rg _ _⟩
  obtain ⟨p2, hp2, hr2⟩ : ∃ z, z = xv xs ((2 + 4 * ((t : Nat) : Int)) + 2).toNat ∧ rg z := ⟨_, rfl, xv_rg _ _⟩
  obtain ⟨p3, hp3, hr3⟩ : ∃ z, z = xv xs ((2 + 4 * ((t : Nat) : Int)) + 3).toNat ∧ rg z := ⟨_, rfl, xv_rg _ _⟩
  refine lv_aload_n hx hb dL_law_136 rfl (lv_at hl 1 rfl) ?_
  refine lv_aload_n hx hb dL_law_137 rfl (lv_at hl 0 rfl) ?_
  refine lv_iload hx hb dL_law_138 (lv_at hl 4 rfl) ?_
  refine lv_iconst (v := iI 1) hx hb dL_law_140 rfl ?_
  refine z_add hx hb dL_law_141 ?_
  refine z_sld hx hb hX hbl hbA hS (by omega) (by omega) dL_law_142 ?_
  refine z_top (b := p1) (hp1.symm) ?_
  refine lv_aload_n hx hb dL_law_143 rfl (lv_at hl 0 rfl) ?_
  refine lv_iload hx hb dL_law_144 (lv_at hl 4 rfl) ?_
  refine lv_iconst (v := iI 2) hx hb dL_law_146 rfl ?_
  refine z_add hx hb dL_law_147 ?_
  refine z_sld hx hb hX hbl hbA hS (by omega) (by omega) dL_law_148 ?_
  refine z_top (b := p2) (hp2.symm) ?_
  refine lv_aload_n hx hb dL_law_149 rfl (lv_at hl 0 rfl) ?_
  refine lv_iload hx hb dL_law_150 (lv_at hl 4 rfl) ?_
  refine lv_iconst (v := iI 3) hx hb dL_law_152 rfl ?_
  refine z_add hx hb dL_law_153 ?_
  refine z_sld hx hb hX hbl hbA hS (by omega) (by omega) dL_law_154 ?_
  refine z_top (b := p3) (hp3.symm) ?_
  refine lv_aload_n hx hb dL_law_155 rfl (lv_at hl 3 rfl) ?_
  have hPc := hP.sub (ws' := rpO a cA o co w h wa ma ka li hk sh T kd rd dp f) [0, 1, 2, 3, 4, 5, 6, 7, 8, 9, 10, 11, 12, 13, 14, 15, 25] rfl
  have hDc := hD.sub (ws' := rpO a cA o co w h wa ma ka li hk sh T kd rd dp f) [0, 1, 2, 3, 4, 5, 6, 7, 8, 9, 10, 11, 12, 13, 14, 15, 25] (by decide) rfl
  have hKc := hK.sub (tys' := rpOT cA co) [0, 1, 2, 3, 4, 5, 6, 7, 8, 9, 18] rfl
  have hFc := va_free (wc := rpO a cA o co w h wa ma ka li hk sh T kd rd dp f) hD hS hA [0, 1, 2, 3, 4, 5, 6, 7, 8, 9, 10, 11, 12, 13, 14, 15, 25] rfl
  refine z_xcalli (ws' := lwW a cA b cB o co w h (if cod2 (plB w h p1 p2) (isW p3 0 1000) ≤ 0 then uI wa (p2 * (w : Int) + p1).toNat p3 else wa) ma ka li hk sh T kd rd dp cd wn mn kn ik so ks rs lf K (if cod2 (plB w h p1 p2) (isW p3 0 1000) ≤ 0 then uI f 0 (if wa (p2 * (w : Int) + p1).toNat = p3 then 0 else 1) else f)) (wr := [16, 17, 18, 19, 20, 21, 22, 23, 24].filterMap (fun z9 => (lwW a cA b cB o co w h wa ma ka li hk sh T kd rd dp cd wn mn kn ik so ks rs lf K f)[z9]?)) (vx_runSX (As := [.ref (a 0), .int (iI p1), .int (iI p2), .int (iI p3), .ref o]) (rest := []) ⟨hx, hb, hml, hown, hts⟩ (c_L_put l hl9 dC dI (H).size a cA o co w h wa ma ka li hk sh T kd rd dp f p1 p2 p3 hR.hw hR.hh hr1 hr2 hr3 hR.hwa) (vx_cwSW 5 hts g_L_67 rfl rfl rfl (by decide +kernel) ⟨Nat.le_of_ble_eq_true rfl, Nat.le_of_ble_eq_true rfl⟩) (zP_S hPc hKc hDc hS hFc hZ) rfl rfl hl.1 rfl (lv_room (Nat.le_of_ble_eq_true rfl)) dL_law_156 ⟨by show _ ≤ 601024; omega, by show _ ≤ 7292999; omega⟩) hP hD hS hFc (z_subOf [0, 1, 2, 3, 4, 5, 6, 7, 8, 9, 10, 11, 12, 13, 14, 15, 25] rfl) [0, 1, 2, 3, 4, 5, 6, 7, 8, 9, 10, 11, 12, 13, 14, 15, 25] [16, 17, 18, 19, 20, 21, 22, 23, 24] [9, 10, 11, 12, 13, 14, 15, 16, 17, 18, 19, 20, 21, 22, 23, 24, 0, 1, 2, 3, 4, 5, 6, 7, 8, 25] rfl rfl (by decide) (by decide) rfl (by decide) (fun E ce q9 H locs hE => hE.elim) (fun H locs _ hP hD hS _ => ?_)
  have hP : va_P (dC, dI) vwCl (lwW a cA b cB o co w h (if cod2 (plB w h p1 p2) (isW p3 0 1000) ≤ 0 then uI wa (p2 * (w : Int) + p1).toNat p3 else wa) ma ka li hk sh T kd rd dp cd wn mn kn ik so ks rs lf K (if cod2 (plB w h p1 p2) (isW p3 0 1000) ≤ 0 then uI f 0 (if wa (p2 * (w : Int) + p1).toNat = p3 then 0 else 1) else f)) H := hP
  have hD : va_D A (lwW a cA b cB o co w h (if cod2 (plB w h p1 p2) (isW p3 0 1000) ≤ 0 then uI wa (p2 * (w : Int) + p1).toNat p3 else wa) ma ka li hk sh T kd rd dp cd wn mn kn ik so ks rs lf K (if cod2 (plB w h p1 p2) (isW p3 0 1000) ≤ 0 then uI f 0 (if wa (p2 * (w : Int) + p1).toNat = p3 then 0 else 1) else f)) := hD
  refine lv_istore (lv' := [(5, .int (iI (cod2 (plB w h p1 p2) (isW p3 0 1000)))), (0, .ref bS), (1, .ref (a 0)), (2, .ref (b 0)), (3, .ref o), (4, .int (iI (2 + 4 * ((t : Nat) : Int))))]) hx hb dL_law_159 hl (by decide) rfl (fun ls hl => ?_)
  refine lv_aload_n hx hb dL_law_161 rfl (lv_at hl 3 rfl) ?_
  refine lv_aload_n hx hb dL_law_162 rfl (lv_at hl 1 rfl) ?_
  refine lv_iload hx hb dL_law_163 (lv_at hl 5 rfl) ?_
  refine lv_iconst (v := iI 1) hx hb dL_law_165 rfl ?_
  refine z_add hx hb dL_law_166 ?_
  refine z_sld hx hb hX hbl hbA hS (by omega) (by omega) dL_law_167 ?_
  refine z_top (b := p1) (hp1.symm) ?_
  refine lv_aload_n hx hb dL_law_168 rfl (lv_at hl 1 rfl) ?_
  refine lv_iload hx hb dL_law_169 (lv_at hl 5 rfl) ?_
  refine lv_iconst (v := iI 2) hx hb dL_law_171 rfl ?_
  refine z_add hx hb dL_law_172 ?_
  refine z_sld hx hb hX hbl hbA hS (by omega) (by omega) dL_law_173 ?_
  refine z_top (b := p2) (hp2.symm) ?_
  refine lv_aload_n hx hb dL_law_174 rfl (lv_at hl 1 rfl) ?_
  refine lv_iload hx hb dL_law_175 (lv_at hl 5 rfl) ?_
  refine lv_iconst (v := iI 3) hx hb dL_law_177 rfl ?_
  refine z_add hx hb dL_law_178 ?_
  refine z_sld hx hb hX hbl hbA hS (by omega) (by omega) dL_law_179 ?_
  refine z_top (b := p3) (hp3.symm) ?_
  have hPc := hP.sub (ws' := mdW b cB w h cd wn mn kn ik so ks rs lf K) [16, 17, 18, 19, 20, 21, 22, 23, 24] rfl
  have hDc := hD.sub (ws' := mdW b cB w h cd wn mn kn ik so ks rs lf K) [16, 17, 18, 19, 20, 21, 22, 23, 24] (by decide) rfl
  have hKc := hK.sub (tys' := mdT cB) [10, 11, 12, 13, 14, 15, 16, 17] rfl
  have hFc := va_free (wc := mdW b cB w h cd wn mn kn ik so ks rs lf K) hD hS hA [16, 17, 18, 19, 20, 21, 22, 23, 24] rfl
  refine z_calli (ws' := lwW a cA b cB o co w h (if cod2 (plB w h p1 p2) (isW p3 0 1000) ≤ 0 then uI wa (p2 * (w : Int) + p1).toNat p3 else wa) ma ka li hk sh T kd rd dp (cod2 (plB w h p1 p2) (isW p3 0 1000)) (puM wn (20 * p2 + p1).toNat p3 (cod2 (plB w h p1 p2) (isW p3 0 1000))) mn kn ik so ks rs lf K (if cod2 (plB w h p1 p2) (isW p3 0 1000) ≤ 0 then uI f 0 (if wa (p2 * (w : Int) + p1).toNat = p3 then 0 else 1) else f)) (wr := [0, 1, 2, 3, 4, 5, 6, 7, 8, 9, 10, 11, 12, 13, 14, 15, 25].filterMap (fun z9 => (lwW a cA b cB o co w h (if cod2 (plB w h p1 p2) (isW p3 0 1000) ≤ 0 then uI wa (p2 * (w : Int) + p1).toNat p3 else wa) ma ka li hk sh T kd rd dp cd wn mn kn ik so ks rs lf K (if cod2 (plB w h p1 p2) (isW p3 0 1000) ≤ 0 then uI f 0 (if wa (p2 * (w : Int) + p1).toNat = p3 then 0 else 1) else f))[z9]?)) (va_runV (As := [.int (iI p1), .int (iI p2), .int (iI p3)]) (rest := []) ⟨hx, hb, hml, hown, hts⟩ (c_X3_put l dC dI (H).size b cB w h cd wn mn kn ik so ks rs lf K p1 p2 p3 hR.hw hR.hh hr1 hr2 hr3 hR.hwn) (cwV 3 hts g_L_70 rfl rfl rfl (by decide +kernel) ⟨Nat.le_of_ble_eq_true rfl, Nat.le_of_ble_eq_true rfl⟩) (zP_V (ci := 3) (q0 := 0) rfl rfl hPc hKc hDc hS hFc hZ) rfl rfl hl.1 rfl (lv_room (Nat.le_of_ble_eq_true rfl)) dL_law_180 ⟨by show _ ≤ 601024; omega, by show _ ≤ 7292999; omega⟩) hP hD hS hFc [16, 17, 18, 19, 20, 21, 22, 23, 24] [0, 1, 2, 3, 4, 5, 6, 7, 8, 9, 10, 11, 12, 13, 14, 15, 25] [0, 1, 2, 3, 4, 5, 6, 7, 8, 9, 10, 11, 12, 13, 14, 15, 17, 18, 19, 20, 21, 22, 23, 24, 25, 16] rfl rfl (by decide) (by decide) rfl (by decide) (fun H locs _ hP hD hS _ => ?_)
  have hP : va_P (dC, dI) vwCl (lwW a cA b cB o co w h (if cod2 (plB w h p1 p2) (isW p3 0 1000) ≤ 0 then uI wa (p2 * (w : Int) + p1).toNat p3 else wa) ma ka li hk sh T kd rd dp (cod2 (plB w h p1 p2) (isW p3 0 1000)) (puM wn (20 * p2 + p1).toNat p3 (cod2 (plB w h p1 p2) (isW p3 0 1000))) mn kn ik so ks rs lf K (if cod2 (plB w h p1 p2) (isW p3 0 1000) ≤ 0 then uI f 0 (if wa (p2 * (w : Int) + p1).toNat = p3 then 0 else 1) else f)) H := hP
  have hD : va_D A (lwW a cA b cB o co w h (if cod2 (plB w h p1 p2) (isW p3 0 1000) ≤ 0 then uI wa (p2 * (w : Int) + p1).toNat p3 else wa) ma ka li hk sh T kd rd dp (cod2 (plB w h p1 p2) (isW p3 0 1000)) (puM wn (20 * p2 + p1).toNat p3 (cod2 (plB w h p1 p2) (isW p3 0 1000))) mn kn ik so ks rs lf K (if cod2 (plB w h p1 p2) (isW p3 0 1000) ≤ 0 then uI f 0 (if wa (p2 * (w : Int) + p1).toNat = p3 then 0 else 1) else f)) := hD
  refine lv_istore (lv' := [(6, .int (iI (if cod2 (plB w h p1 p2) (isW p3 0 1000) ≤ 0 ∧ ¬ wn (20 * p2 + p1).toNat = p3 then 1 else 0))), (5, .int (iI (cod2 (plB w h p1 p2) (isW p3 0 1000)))), (0, .ref bS), (1, .ref (a 0)), (2, .ref (b 0)), (3, .ref o), (4, .int (iI (2 + 4 * ((t : Nat) : Int))))]) hx hb dL_law_183 hl (by decide) rfl (fun ls hl => ?_)
  refine lv_aload_n hx hb dL_law_185 rfl (lv_at hl 4 rfl) ?_
  have hPc := hP.sub (ws' := mdW b cB w h (cod2 (plB w h p1 p2) (isW p3 0 1000)) (puM wn (20 * p2 + p1).toNat p3 (cod2 (plB w h p1 p2) (isW p3 0 1000))) mn kn ik so ks rs lf K) [16, 17, 18, 19, 20, 21, 22, 23, 24] rfl
  have hDc := hD.sub (ws' := mdW b cB w h (cod2 (plB w h p1 p2) (isW p3 0 1000)) (puM wn (20 * p2 + p1).toNat p3 (cod2 (plB w h p1 p2) (isW p3 0 1000))) mn kn ik so ks rs lf K) [16, 17, 18, 19, 20, 21, 22, 23, 24] (by decide) rfl
  have hKc := hK.sub (tys' := mdT cB) [10, 11, 12, 13, 14, 15, 16, 17] rfl
  have hFc := va_free (wc := mdW b cB w h (cod2 (plB w h p1 p2) (isW p3 0 1000)) (puM wn (20 * p2 + p1).toNat p3 (cod2 (plB w h p1 p2) (isW p3 0 1000))) mn kn ik so ks rs lf K) hD hS hA [16, 17, 18, 19, 20, 21, 22, 23, 24] rfl
  refine z_calli (ws' := lwW a cA b cB o co w h (if cod2 (plB w h p1 p2) (isW p3 0 1000) ≤ 0 then uI wa (p2 * (w : Int) + p1).toNat p3 else wa) ma ka li hk sh T kd rd dp (cod2 (plB w h p1 p2) (isW p3 0 1000)) (puM wn (20 * p2 + p1).toNat p3 (cod2 (plB w h p1 p2) (isW p3 0 1000))) mn kn ik so ks rs lf K (if cod2 (plB w h p1 p2) (isW p3 0 1000) ≤ 0 then uI f 0 (if wa (p2 * (w : Int) + p1).toNat = p3 then 0 else 1) else f)) (wr := [0, 1, 2, 3, 4, 5, 6, 7, 8, 9, 10, 11, 12, 13, 14, 15, 25].filterMap (fun z9 => (lwW a cA b cB o co w h (if cod2 (plB w h p1 p2) (isW p3 0 1000) ≤ 0 then uI wa (p2 * (w : Int) + p1).toNat p3 else wa) ma ka li hk sh T kd rd dp (cod2 (plB w h p1 p2) (isW p3 0 1000)) (puM wn (20 * p2 + p1).toNat p3 (cod2 (plB w h p1 p2) (isW p3 0 1000))) mn kn ik so ks rs lf K (if cod2 (plB w h p1 p2) (isW p3 0 1000) ≤ 0 then uI f 0 (if wa (p2 * (w : Int) + p1).toNat = p3 then 0 else 1) else f))[z9]?)) (va_runV (As := []) (rest := []) ⟨hx, hb, hml, hown, hts⟩ (c_X3_thrown l dC dI (H).size b cB w h (cod2 (plB w h p1 p2) (isW p3 0 1000)) (puM wn (20 * p2 + p1).toNat p3 (cod2 (plB w h p1 p2) (isW p3 0 1000))) mn kn ik so ks rs lf K  ) (cwV 0 hts g_L_71 rfl rfl rfl (by decide +kernel) ⟨Nat.le_of_ble_eq_true rfl, Nat.le_of_ble_eq_true rfl⟩) (zP_V (ci := 3) (q0 := 0) rfl rfl hPc hKc hDc hS hFc hZ) rfl rfl hl.1 rfl (lv_room (Nat.le_of_ble_eq_true rfl)) dL_law_186 ⟨by show _ ≤ 601024; omega, by show _ ≤ 7292999; omega⟩) hP hD hS hFc [16, 17, 18, 19, 20, 21, 22, 23, 24] [0, 1, 2, 3, 4, 5, 6, 7, 8, 9, 10, 11, 12, 13, 14, 15, 25] [0, 1, 2, 3, 4, 5, 6, 7, 8, 9, 10, 11, 12, 13, 14, 15, 17, 18, 19, 20, 21, 22, 23, 24, 25, 16] rfl rfl (by decide) (by decide) rfl (by decide) (fun H locs _ hP hD hS _ => ?_)
  have hP : va_P (dC, dI) vwCl (lwW a cA b cB o co w h (if cod2 (plB w h p1 p2) (isW p3 0 1000) ≤ 0 then uI wa (p2 * (w : Int) + p1).toNat p3 else wa) ma ka li hk sh T kd rd dp (cod2 (plB w h p1 p2) (isW p3 0 1000)) (puM wn (20 * p2 + p1).toNat p3 (cod2 (plB w h p1 p2) (isW p3 0 1000))) mn kn ik so ks rs lf K (if cod2 (plB w h p1 p2) (isW p3 0 1000) ≤ 0 then uI f 0 (if wa (p2 * (w : Int) + p1).toNat = p3 then 0 else 1) else f)) H := hP
  have hD : va_D A (lwW a cA b cB o co w h (if cod2 (plB w h p1 p2) (isW p3 0 1000) ≤ 0 then uI wa (p2 * (w : Int) + p1).toNat p3 else wa) ma ka li hk sh T kd rd dp (cod2 (plB w h p1 p2) (isW p3 0 1000)) (puM wn (20 * p2 + p1).toNat p3 (cod2 (plB w h p1 p2) (isW p3 0 1000))) mn kn ik so ks rs lf K (if cod2 (plB w h p1 p2) (isW p3 0 1000) ≤ 0 then uI f 0 (if wa (p2 * (w : Int) + p1).toNat = p3 then 0 else 1) else f)) := hD
  refine lv_iload hx hb dL_law_189 (lv_at hl 1 rfl) ?_
  refine z_icmp_eq (tgt := 196) hx hb dL_law_191 (by decide) (by have := cod2_rg (plB w h p1 p2) (isW p3 0 1000); omega) (by have := cod2_rg (plB w h p1 p2) (isW p3 0 1000); omega) (fun c191 => ?_) (fun c191 => absurd c191 (fun z9 => z9 (rfl)))
  refine lv_iload hx hb dL_law_196 (lv_at hl 1 rfl) ?_
  refine z_if_ne (tgt := 220) hx hb dL_law_198 (by decide) (by have := cod2_rg (plB w h p1 p2) (isW p3 0 1000); omega) (fun c198 => ?_) (fun c198 => ?_)
  · refine lv_goto (tgt := 1068) hx hb dL_law_220 (by decide) ?_
    refine W.widen (k := 26 + 3 * (t + 1)) (n := 12144 + 18 * (t + 1)) (by omega) (by omega) ?_
    exact kk _ _ _ _ _ _ _ _ _ _ _ _ _ _ _ _ _ _ _ _ _ (e_put_r hR p1 p2 p3) _ _ _ hP hD hS (lv_sub hl [2, 3, 4, 5, 6] rfl)
  · refine lv_aload_n hx hb dL_law_201 rfl (lv_at hl 5 rfl) ?_
    refine lv_iconst (v := iI 0) hx hb dL_law_202 rfl ?_
    have hcz : cod2 (plB w h p1 p2) (isW p3 0 1000) = 0 := by omega
    have hfz : (if cod2 (plB w h p1 p2) (isW p3 0 1000) ≤ 0 then uI f 0 (if wa (p2 * (w : Int) + p1).toNat = p3 then 0 else 1) else f) (0 : Int).toNat = if wa (p2 * (w : Int) + p1).toNat = p3 then 0 else 1 := by
      rw [if_pos (by omega)]
      exact uI_s
    refine z_lald (f := if cod2 (plB w h p1 p2) (isW p3 0 1000) ≤ 0 then uI f 0 (if wa (p2 * (w : Int) + p1).toNat = p3 then 0 else 1) else f) (i := 0) hx hb hK hP 25 18 rfl rfl (by decide) (by decide) dL_law_203 ?_
    refine z_topl (b := if wa (p2 * (w : Int) + p1).toNat = p3 then 0 else 1) hfz ?_
    refine lv_iload hx hb dL_law_204 (lv_at hl 0 rfl) ?_
    refine z_if_eq (tgt := 213) hx hb dL_law_206 (by decide) (by split <;> omega) (fun c206 => ?_) (fun c206 => ?_)
    · refine lv_lconst (v := lI 0) hx hb dL_law_213 (by decide) ?_
      refine z_lcmp hx hb ((e_put_a hR p1 p2 p3 hcz).trans c206) dL_law_214 ?_
      refine z_if_eq (tgt := 220) hx hb dL_law_215 (by decide) (by omega) (fun c215 => ?_) (fun c215 => by exfalso; omega)
      refine lv_goto (tgt := 1068) hx hb dL_law_220 (by decide) ?_
      refine W.widen (k := 26 + 3 * (t + 1)) (n := 12144 + 18 * (t + 1)) (by omega) (by omega) ?_
      exact kk _ _ _ _ _ _ _ _ _ _ _ _ _ _ _ _ _ _ _ _ _ (e_put_r hR p1 p2 p3) _ _ _ hP hD hS (lv_sub hl [2, 3, 4, 5, 6] rfl)
    · refine lv_lconst (v := lI 1) hx hb dL_law_209 (by decide) ?_
      refine lv_goto (tgt := 214) hx hb dL_law_210 (by decide) ?_
      refine z_lcmp hx hb (by have h8 := (e_put_a hR p1 p2 p3 hcz); rw [h8]; revert c206; split <;> intro c206 <;> first | rfl | (exfalso; omega)) dL_law_214 ?_
      refine z_if_eq (tgt := 220) hx hb dL_law_215 (by decide) (by omega) (fun c215 => ?_) (fun c215 => by exfalso; omega)
      refine lv_goto (tgt := 1068) hx hb dL_law_220 (by decide) ?_
      refine W.widen (k := 26 + 3 * (t + 1)) (n := 12144 + 18 * (t + 1)) (by omega) (by omega) ?_
      exact kk _ _ _ _ _ _ _ _ _ _ _ _ _ _ _ _ _ _ _ _ _ (e_put_r hR p1 p2 p3) _ _ _ hP hD hS (lv_sub hl [2, 3, 4, 5, 6] rfl)
theorem g_L_75 : GoodIn wsAll (va_wsS RL 75 yL_tool wsL_tool) := z_good (show ∀ w ∈ (Cond.methodLink RL 75 yL_tool :: Cond.static yL_tool :: Cond.initialized RL :: Cond.codeWith yL_tool method_4_code 6 (some .int) [(0, 19, 22, 13), (0, 19, 26, 15)] :: wsAll), w ∈ wsAll from List.forall_mem_cons.mpr ⟨wm_246, List.forall_mem_cons.mpr ⟨wm_247, List.forall_mem_cons.mpr ⟨wm_108, List.forall_mem_cons.mpr ⟨wm_248, fun _ h => h⟩⟩⟩⟩)
theorem g_L_77 : GoodIn wsAll (wsV RL 77 RX3 yX3_tool wsX3_tool) := z_good (show ∀ w ∈ (Cond.methodLink RL 77 yX3_tool :: Cond.instanceMethod yX3_tool :: Cond.selects RX3 yX3_tool yX3_tool :: Cond.initialized RX3 :: Cond.code yX3_tool prog_5_method_7_code 4 (some .boolean) :: wsAll), w ∈ wsAll from List.forall_mem_cons.mpr ⟨wm_471, List.forall_mem_cons.mpr ⟨wm_472, List.forall_mem_cons.mpr ⟨wm_473, List.forall_mem_cons.mpr ⟨wm_114, List.forall_mem_cons.mpr ⟨wm_474, fun _ h => h⟩⟩⟩⟩⟩)
set_option maxHeartbeats 4000000 in
set_option maxRecDepth 100000 in
theorem lw_c1 {p : Program} {l : Launch} {e : Env} {s : State} {m : MethodId} {below : List Frame} {meth : Method} {c : Code} {Q : State → Prop} {A : Nat → Prop} {dC : Nat → ClassId} {dI : Nat → Nat → Nat} {bS L : Nat} {xs : Nat → Int32} (hl9 : l.stackTraces = false) (hL : L ≤ 2050) (hx : p.tables.exec = Jvm.exec) (hb : c.code = cL_law) (hml : c.maxLocals = 7) (hown : s.vm.findClass RL = some m.cls) (hts : ∀ w ∈ wsAll, w.before #[Value.ref bS] s = true) (hA : ∀ q : Nat, s.heap.size ≤ q → A q) (hZ : zZ A s s.heap) (hX : va_X bS L xs s s.heap) (hbl : bS < s.heap.size) (hbA : ¬ A bS) (a : Nat → Nat) (cA : Nat → ClassId) (b : Nat → Nat) (cB : Nat → ClassId) (o : Nat) (co : ClassId) (w h : Nat) (hK : va_K (dC, dI) vwCl (lwT cA cB co) s) (wa ma ka li : Nat → Int) (hk sh : Int) (T : TK) (kd rd : Nat → Int) (dp : Nat → Nat → Int) (cd : Int) (wn mn kn : Nat → Int) (ik so : Int) (ks rs lf : Nat → Int) (K : MK) (f : Nat → Int) (hR : zRel w h wa ma ka li hk sh T kd rd dp wn mn kn ik so ks rs lf K) (t : Nat) (ht : 4 * t + 6 ≤ L) (kk : ∀ (wa ma ka li : Nat → Int) (hk sh : Int) (T : TK) (kd rd : Nat → Int) (dp : Nat → Nat → Int) (cd : Int) (wn mn kn : Nat → Int) (ik so : Int) (ks rs lf : Nat → Int) (K : MK) (f : Nat → Int), zRel w h wa ma ka li hk sh T kd rd dp wn mn kn ik so ks rs lf K → ∀ (H : Heap) (locs : List Loc) (ls : Array Slot), va_P (dC, dI) vwCl (lwW a cA b cB o co w h wa ma ka li hk sh T kd rd dp cd wn mn kn ik so ks rs lf K f) H → va_D A (lwW a cA b cB o co w h wa ma ka li hk sh T kd rd dp cd wn mn kn ik so ks rs lf K f) → va_S A s.heap H locs → lv_has ls 7 [(0, .ref bS), (1, .ref (a 0)), (2, .ref (b 0)), (3, .ref o), (4, .int (iI (2 + 4 * ((t : Nat) : Int))))] → W p l e room_1 s m #[Value.ref bS] below meth c H locs (26 + 3 * (t + 1)) (12144 + 18 * (t + 1)) Q (F0 m 1068 ls [])) : ∀ (H : Heap) (locs : List Loc) (ls : Array Slot), va_P (dC, dI) vwCl (lwW a cA b cB o co w h wa ma ka li hk sh T kd rd dp cd wn mn kn ik so ks rs lf K f) H → va_D A (lwW a cA b cB o co w h wa ma ka li hk sh T kd rd dp cd wn mn kn ik so ks rs lf K f) → va_S A s.heap H locs → lv_has ls 7 [(0, .ref bS), (1, .ref (a 0)), (2, .ref (b 0)), (3, .ref o), (4, .int (iI (2 + 4 * ((t : Nat) : Int))))] → W p l e room_1 s m #[Value.ref bS] below meth c H locs (26 + 3 * t) (12144 + 18 * t) Q (F0 m 223 ls []) := by
  intro H locs ls hP hD hS hl
  obtain ⟨p1, hp1, hr1⟩ : ∃ z, z = xv xs ((2 + 4 * ((t : Nat) : Int)) + 1).toNat ∧ rg z := ⟨_, rfl, xv_rg _ _⟩
  obtain ⟨p2, hp2, hr2⟩ : ∃ z, z = xv xs ((2 + 4 * ((t : Nat) : Int)) + 2).toNat ∧ rg z := ⟨_, rfl, xv_rg _ _⟩
  obtain ⟨p3, hp3, hr3⟩ : ∃ z, z = xv xs ((2 + 4 * ((t : Nat) : Int)) + 3).toNat ∧ rg z := ⟨_, rfl, xv_rg _ _⟩
  refine lv_aload_n hx hb dL_law_223 rfl (lv_at hl 1 rfl) ?_
  refine lv_aload_n hx hb dL_law_224 rfl (lv_at hl 0 rfl) ?_
  refine lv_iload hx hb dL_law_225 (lv_at hl 4 rfl) ?_
  refine lv_iconst (v := iI 1) hx hb dL_law_227 rfl ?_
  refine z_add hx hb dL_law_228 ?_
  refine z_sld hx hb hX hbl hbA hS (by omega) (by omega) dL_law_229 ?_
  refine z_top (b := p1) (hp1.symm) ?_
  refine lv_aload_n hx hb dL_law_230 rfl (lv_at hl 0 rfl) ?_
  refine lv_iload hx hb dL_law_231 (lv_at hl 4 rfl) ?_
  refine lv_iconst (v := iI 2) hx hb dL_law_233 rfl ?_
  refine z_add hx hb dL_law_234 ?_
  refine z_sld hx hb hX hbl hbA hS (by omega) (by omega) dL_law_235 ?_
  refine z_top (b := p2) (hp2.symm) ?_
  refine lv_aload_n hx hb dL_law_236 rfl (lv_at hl 0 rfl) ?_
  refine lv_iload hx hb dL_law_237 (lv_at hl 4 rfl) ?_
  refine lv_iconst (v := iI 3) hx hb dL_law_239 rfl ?_
  refine z_add hx hb dL_law_240 ?_
  refine z_sld hx hb hX hbl hbA hS (by omega) (by omega) dL_law_241 ?_
  refine z_top (b := p3) (hp3.symm) ?_
  refine lv_aload_n hx hb dL_law_242 rfl (lv_at hl 3 rfl) ?_
  have hPc := hP.sub (ws' := rpO a cA o co w h wa ma ka li hk sh T kd rd dp f) [0, 1, 2, 3, 4, 5, 6, 7, 8, 9, 10, 11, 12, 13, 14, 15, 25] rfl
  have hDc := hD.sub (ws' := rpO a cA o co w h wa ma ka li hk sh T kd rd dp f) [0, 1, 2, 3, 4, 5, 6, 7, 8, 9, 10, 11, 12, 13, 14, 15, 25] (by decide) rfl
  have hKc := hK.sub (tys' := rpOT cA co) [0, 1, 2, 3, 4, 5, 6, 7, 8, 9, 18] rfl
  have hFc := va_free (wc := rpO a cA o co w h wa ma ka li hk sh T kd rd dp f) hD hS hA [0, 1, 2, 3, 4, 5, 6, 7, 8, 9, 10, 11, 12, 13, 14, 15, 25] rfl
  refine z_xcalli (ws' := lwW a cA b cB o co w h wa ma ka li hk sh T (if cod3 (isW p1 0 3) (isW p2 0 2) (isW p3 0 5) ≤ 0 then uI kd p1.toNat p2 else kd) (if cod3 (isW p1 0 3) (isW p2 0 2) (isW p3 0 5) ≤ 0 then uI rd p1.toNat p3 else rd) (if cod3 (isW p1 0 3) (isW p2 0 2) (isW p3 0 5) ≤ 0 then dpU dp p1.toNat (becF p2 p3 (2 * p3 + 1).toNat (2 * p3 + 1).toNat (dp p1.toNat)) else dp) cd wn mn kn ik so ks rs lf K (if cod3 (isW p1 0 3) (isW p2 0 2) (isW p3 0 5) ≤ 0 then uI f 0 (if kd p1.toNat = p2 ∧ rd p1.toNat = p3 then 0 else 1) else f)) (wr := [16, 17, 18, 19, 20, 21, 22, 23, 24].filterMap (fun z9 => (lwW a cA b cB o co w h wa ma ka li hk sh T kd rd dp cd wn mn kn ik so ks rs lf K f)[z9]?)) (vx_runSX (As := [.ref (a 0), .int (iI p1), .int (iI p2), .int (iI p3), .ref o]) (rest := []) ⟨hx, hb, hml, hown, hts⟩ (c_L_tool l hl9 dC dI (H).size a cA o co w h wa ma ka li hk sh T kd rd dp f p1 p2 p3 hR.hw hR.hh hR.hrd hR.hdp hR.hkd hr1 hr2 hr3) (vx_cwSW 5 hts g_L_75 rfl rfl rfl (by decide +kernel) ⟨Nat.le_of_ble_eq_true rfl, Nat.le_of_ble_eq_true rfl⟩) (zP_S hPc hKc hDc hS hFc hZ) rfl rfl hl.1 rfl (lv_room (Nat.le_of_ble_eq_true rfl)) dL_law_243 ⟨by show _ ≤ 601024; omega, by show _ ≤ 7292999; omega⟩) hP hD hS hFc (z_subOf [0, 1, 2, 3, 4, 5, 6, 7, 8, 9, 10, 11, 12, 13, 14, 15, 25] rfl) [0, 1, 2, 3, 4, 5, 6, 7, 8, 9, 10, 11, 12, 13, 14, 15, 25] [16, 17, 18, 19, 20, 21, 22, 23, 24] [9, 10, 11, 12, 13, 14, 15, 16, 17, 18, 19, 20, 21, 22, 23, 24, 0, 1, 2, 3, 4, 5, 6, 7, 8, 25] rfl rfl (by decide) (by decide) rfl (by decide) (fun E ce q9 H locs hE => hE.elim) (fun H locs _ hP hD hS _ => ?_)
  have hP : va_P (dC, dI) vwCl (lwW a cA b cB o co w h wa ma ka li hk sh T (if cod3 (isW p1 0 3) (isW p2 0 2) (isW p3 0 5) ≤ 0 then uI kd p1.toNat p2 else kd) (if cod3 (isW p1 0 3) (isW p2 0 2) (isW p3 0 5) ≤ 0 then uI rd p1.toNat p3 else rd) (if cod3 (isW p1 0 3) (isW p2 0 2) (isW p3 0 5) ≤ 0 then dpU dp p1.toNat (becF p2 p3 (2 * p3 + 1).toNat (2 * p3 + 1).toNat (dp p1.toNat)) else dp) cd wn mn kn ik so ks rs lf K (if cod3 (isW p1 0 3) (isW p2 0 2) (isW p3 0 5) ≤ 0 then uI f 0 (if kd p1.toNat = p2 ∧ rd p1.toNat = p3 then 0 else 1) else f)) H := hP
  have hD : va_D A (lwW a cA b cB o co w h wa ma ka li hk sh T (if cod3 (isW p1 0 3) (isW p2 0 2) (isW p3 0 5) ≤ 0 then uI kd p1.toNat p2 else kd) (if cod3 (isW p1 0 3) (isW p2 0 2) (isW p3 0 5) ≤ 0 then uI rd p1.toNat p3 else rd) (if cod3 (isW p1 0 3) (isW p2 0 2) (isW p3 0 5) ≤ 0 then dpU dp p1.toNat (becF p2 p3 (2 * p3 + 1).toNat (2 * p3 + 1).toNat (dp p1.toNat)) else dp) cd wn mn kn ik so ks rs lf K (if cod3 (isW p1 0 3) (isW p2 0 2) (isW p3 0 5) ≤ 0 then uI f 0 (if kd p1.toNat = p2 ∧ rd p1.toNat = p3 then 0 else 1) else f)) := hD
  refine lv_istore (lv' := [(5, .int (iI (cod3 (isW p1 0 3) (isW p2 0 2) (isW p3 0 5)))), (0, .ref bS), (1, .ref (a 0)), (2, .ref (b 0)), (3, .ref o), (4, .int (iI (2 + 4 * ((t : Nat) : Int))))]) hx hb dL_law_246 hl (by decide) rfl (fun ls hl => ?_)
  refine lv_aload_n hx hb dL_law_248 rfl (lv_at hl 3 rfl) ?_
  refine lv_aload_n hx hb dL_law_249 rfl (lv_at hl 1 rfl) ?_
  refine lv_iload hx hb dL_law_250 (lv_at hl 5 rfl) ?_
  refine lv_iconst (v := iI 1) hx hb dL_law_252 rfl ?_
  refine z_add hx hb dL_law_253 ?_
  refine z_sld hx hb hX hbl hbA hS (by omega) (by omega) dL_law_254 ?_
  refine z_top (b := p1) (hp1.symm) ?_
  refine lv_aload_n hx hb dL_law_255 rfl (lv_at hl 1 rfl) ?_
  refine lv_iload hx hb dL_law_256 (lv_at hl 5 rfl) ?_
  refine lv_iconst (v := iI 2) hx hb dL_law_258 rfl ?_
  refine z_add hx hb dL_law_259 ?_
  refine z_sld hx hb hX hbl hbA hS (by omega) (by omega) dL_law_260 ?_
  refine z_top (b := p2) (hp2.symm) ?_
  refine lv_aload_n hx hb dL_law_261 rfl (lv_at hl 1 rfl) ?_
  refine lv_iload hx hb dL_law_262 (lv_at hl 5 rfl) ?_
  refine lv_iconst (v := iI 3) hx hb dL_law_264 rfl ?_
  refine z_add hx hb dL_law_265 ?_
  refine z_sld hx hb hX hbl hbA hS (by omega) (by omega) dL_law_266 ?_
  refine z_top (b := p3) (hp3.symm) ?_
  have hPc := hP.sub (ws' := mdW b cB w h cd wn mn kn ik so ks rs lf K) [16, 17, 18, 19, 20, 21, 22, 23, 24] rfl
  have hDc := hD.sub (ws' := mdW b cB w h cd wn mn kn ik so ks rs lf K) [16, 17, 18, 19, 20, 21, 22, 23, 24] (by decide) rfl
  have hKc := hK.sub (tys' := mdT cB) [10, 11, 12, 13, 14, 15, 16, 17] rfl
  have hFc := va_free (wc := mdW b cB w h cd wn mn kn ik so ks rs lf K) hD hS hA [16, 17, 18, 19, 20, 21, 22, 23, 24] rfl
  refine z_calli (ws' := lwW a cA b cB o co w h wa ma ka li hk sh T (if cod3 (isW p1 0 3) (isW p2 0 2) (isW p3 0 5) ≤ 0 then uI kd p1.toNat p2 else kd) (if cod3 (isW p1 0 3) (isW p2 0 2) (isW p3 0 5) ≤ 0 then uI rd p1.toNat p3 else rd) (if cod3 (isW p1 0 3) (isW p2 0 2) (isW p3 0 5) ≤ 0 then dpU dp p1.toNat (becF p2 p3 (2 * p3 + 1).toNat (2 * p3 + 1).toNat (dp p1.toNat)) else dp) (cod3 (isW p1 0 3) (isW p2 0 2) (isW p3 0 5)) wn mn kn ik so (puM ks p1.toNat p2 (cod3 (isW p1 0 3) (isW p2 0 2) (isW p3 0 5))) (puM rs p1.toNat p3 (cod3 (isW p1 0 3) (isW p2 0 2) (isW p3 0 5))) lf K (if cod3 (isW p1 0 3) (isW p2 0 2) (isW p3 0 5) ≤ 0 then uI f 0 (if kd p1.toNat = p2 ∧ rd p1.toNat = p3 then 0 else 1) else f)) (wr := [0, 1, 2, 3, 4, 5, 6, 7, 8, 9, 10, 11, 12, 13, 14, 15, 25].filterMap (fun z9 => (lwW a cA b cB o co w h wa ma ka li hk sh T (if cod3 (isW p1 0 3) (isW p2 0 2) (isW p3 0 5) ≤ 0 then uI kd p1.toNat p2 else kd) (if cod3 (isW p1 0 3) (isW p2 0 2) (isW p3 0 5) ≤ 0 then uI rd p1.toNat p3 else rd) (if cod3 (isW p1 0 3) (isW p2 0 2) (isW p3 0 5) ≤ 0 then dpU dp p1.toNat (becF p2 p3 (2 * p3 + 1).toNat (2 * p3 + 1).toNat (dp p1.toNat)) else dp) cd wn mn kn ik so ks rs lf K (if cod3 (isW p1 0 3) (isW p2 0 2) (isW p3 0 5) ≤ 0 then uI f 0 (if kd p1.toNat = p2 ∧ rd p1.toNat = p3 then 0 else 1) else f))[z9]?)) (va_runV (As := [.int (iI p1), .int (iI p2), .int (iI p3)]) (rest := []) ⟨hx, hb, hml, hown, hts⟩ (c_X3_tool l dC dI (H).size b cB w h cd wn mn kn ik so ks rs lf K p1 p2 p3 hr1 hr2 hr3 hR.hks hR.hrs) (cwV 3 hts g_L_77 rfl rfl rfl (by decide +kernel) ⟨Nat.le_of_ble_eq_true rfl, Nat.le_of_ble_eq_true rfl⟩) (zP_V (ci := 3) (q0 := 0) rfl rfl hPc hKc hDc hS hFc hZ) rfl rfl hl.1 rfl (lv_room (Nat.le_of_ble_eq_true rfl)) dL_law_267 ⟨by show _ ≤ 601024; omega, by show _ ≤ 7292999; omega⟩) hP hD hS hFc [16, 17, 18, 19, 20, 21, 22, 23, 24] [0, 1, 2, 3, 4, 5, 6, 7, 8, 9, 10, 11, 12, 13, 14, 15, 25] [0, 1, 2, 3, 4, 5, 6, 7, 8, 9, 10, 11, 12, 13, 14, 15, 17, 18, 19, 20, 21, 22, 23, 24, 25, 16] rfl rfl (by decide) (by decide) rfl (by decide) (fun H locs _ hP hD hS _ => ?_)
  have hP : va_P (dC, dI) vwCl (lwW a cA b cB o co w h wa ma ka li hk sh T (if cod3 (isW p1 0 3) (isW p2 0 2) (isW p3 0 5) ≤ 0 then uI kd p1.toNat p2 else kd) (if cod3 (isW p1 0 3) (isW p2 0 2) (isW p3 0 5) ≤ 0 then uI rd p1.toNat p3 else rd) (if cod3 (isW p1 0 3) (isW p2 0 2) (isW p3 0 5) ≤ 0 then dpU dp p1.toNat (becF p2 p3 (2 * p3 + 1).toNat (2 * p3 + 1).toNat (dp p1.toNat)) else dp) (cod3 (isW p1 0 3) (isW p2 0 2) (isW p3 0 5)) wn mn kn ik so (puM ks p1.toNat p2 (cod3 (isW p1 0 3) (isW p2 0 2) (isW p3 0 5))) (puM rs p1.toNat p3 (cod3 (isW p1 0 3) (isW p2 0 2) (isW p3 0 5))) lf K (if cod3 (isW p1 0 3) (isW p2 0 2) (isW p3 0 5) ≤ 0 then uI f 0 (if kd p1.toNat = p2 ∧ rd p1.toNat = p3 then 0 else 1) else f)) H := hP
  have hD : va_D A (lwW a cA b cB o co w h wa ma ka li hk sh T (if cod3 (isW p1 0 3) (isW p2 0 2) (isW p3 0 5) ≤ 0 then uI kd p1.toNat p2 else kd) (if cod3 (isW p1 0 3) (isW p2 0 2) (isW p3 0 5) ≤ 0 then uI rd p1.toNat p3 else rd) (if cod3 (isW p1 0 3) (isW p2 0 2) (isW p3 0 5) ≤ 0 then dpU dp p1.toNat (becF p2 p3 (2 * p3 + 1).toNat (2 * p3 + 1).toNat (dp p1.toNat)) else dp) (cod3 (isW p1 0 3) (isW p2 0 2) (isW p3 0 5)) wn mn kn ik so (puM ks p1.toNat p2 (cod3 (isW p1 0 3) (isW p2 0 2) (isW p3 0 5))) (puM rs p1.toNat p3 (cod3 (isW p1 0 3) (isW p2 0 2) (isW p3 0 5))) lf K (if cod3 (isW p1 0 3) (isW p2 0 2) (isW p3 0 5) ≤ 0 then uI f 0 (if kd p1.toNat = p2 ∧ rd p1.toNat = p3 then 0 else 1) else f)) := hD
  refine lv_istore (lv' := [(6, .int (iI (if cod3 (isW p1 0 3) (isW p2 0 2) (isW p3 0 5) ≤ 0 ∧ ¬ (ks p1.toNat = p2 ∧ rs p1.toNat = p3) then 1 else 0))), (5, .int (iI (cod3 (isW p1 0 3) (isW p2 0 2) (isW p3 0 5)))), (0, .ref bS), (1, .ref (a 0)), (2, .ref (b 0)), (3, .ref o), (4, .int (iI (2 + 4 * ((t : Nat) : Int))))]) hx hb dL_law_270 hl (by decide) rfl (fun ls hl => ?_)
  refine lv_aload_n hx hb dL_law_272 rfl (lv_at hl 4 rfl) ?_
  have hPc := hP.sub (ws' := mdW b cB w h (cod3 (isW p1 0 3) (isW p2 0 2) (isW p3 0 5)) wn mn kn ik so (puM ks p1.toNat p2 (cod3 (isW p1 0 3) (isW p2 0 2) (isW p3 0 5))) (puM rs p1.toNat p3 (cod3 (isW p1 0 3) (isW p2 0 2) (isW p3 0 5))) lf K) [16, 17, 18, 19, 20, 21, 22, 23, 24] rfl
  have hDc := hD.sub (ws' := mdW b cB w h (cod3 (isW p1 0 3) (isW p2 0 2) (isW p3 0 5)) wn mn kn ik so (puM ks p1.toNat p2 (cod3 (isW p1 0 3) (isW p2 0 2) (isW p3 0 5))) (puM rs p1.toNat p3 (cod3 (isW p1 0 3) (isW p2 0 2) (isW p3 0 5))) lf K) [16, 17, 18, 19, 20, 21, 22, 23, 24] (by decide) rfl
  have hKc := hK.sub (tys' := mdT cB) [10, 11, 12, 13, 14, 15, 16, 17] rfl
  have hFc := va_free (wc := mdW b cB w h (cod3 (isW p1 0 3) (isW p2 0 2) (isW p3 0 5)) wn mn kn ik so (puM ks p1.toNat p2 (cod3 (isW p1 0 3) (isW p2 0 2) (isW p3 0 5))) (puM rs p1.toNat p3 (cod3 (isW p1 0 3) (isW p2 0 2) (isW p3 0 5))) lf K) hD hS hA [16, 17, 18, 19, 20, 21, 22, 23, 24] rfl
  refine z_calli (ws' := lwW a cA b cB o co w h wa ma ka li hk sh T (if cod3 (isW p1 0 3) (isW p2 0 2) (isW p3 0 5) ≤ 0 then uI kd p1.toNat p2 else kd) (if cod3 (isW p1 0 3) (isW p2 0 2) (isW p3 0 5) ≤ 0 then uI rd p1.toNat p3 else rd) (if cod3 (isW p1 0 3) (isW p2 0 2) (isW p3 0 5) ≤ 0 then dpU dp p1.toNat (becF p2 p3 (2 * p3 + 1).toNat (2 * p3 + 1).toNat (dp p1.toNat)) else dp) (cod3 (isW p1 0 3) (isW p2 0 2) (isW p3 0 5)) wn mn kn ik so (puM ks p1.toNat p2 (cod3 (isW p1 0 3) (isW p2 0 2) (isW p3 0 5))) (puM rs p1.toNat p3 (cod3 (isW p1 0 3) (isW p2 0 2) (isW p3 0 5))) lf K (if cod3 (isW p1 0 3) (isW p2 0 2) (isW p3 0 5) ≤ 0 then uI f 0 (if kd p1.toNat = p2 ∧ rd p1.toNat = p3 then 0 else 1) else f)) (wr := [0, 1, 2, 3, 4, 5, 6, 7, 8, 9, 10, 11, 12, 13, 14, 15, 25].filterMap (fun z9 => (lwW a cA b cB o co w h wa ma ka li hk sh T (if cod3 (isW p1 0 3) (isW p2 0 2) (isW p3 0 5) ≤ 0 then uI kd p1.toNat p2 else kd) (if cod3 (isW p1 0 3) (isW p2 0 2) (isW p3 0 5) ≤ 0 then uI rd p1.toNat p3 else rd) (if cod3 (isW p1 0 3) (isW p2 0 2) (isW p3 0 5) ≤ 0 then dpU dp p1.toNat (becF p2 p3 (2 * p3 + 1).toNat (2 * p3 + 1).toNat (dp p1.toNat)) else dp) (cod3 (isW p1 0 3) (isW p2 0 2) (isW p3 0 5)) wn mn kn ik so (puM ks p1.toNat p2 (cod3 (isW p1 0 3) (isW p2 0 2) (isW p3 0 5))) (puM rs p1.toNat p3 (cod3 (isW p1 0 3) (isW p2 0 2) (isW p3 0 5))) lf K (if cod3 (isW p1 0 3) (isW p2 0 2) (isW p3 0 5) ≤ 0 then uI f 0 (if kd p1.toNat = p2 ∧ rd p1.toNat = p3 then 0 else 1) else f))[z9]?)) (va_runV (As := []) (rest := []) ⟨hx, hb, hml, hown, hts⟩ (c_X3_thrown l dC dI (H).size b cB w h (cod3 (isW p1 0 3) (isW p2 0 2) (isW p3 0 5)) wn mn kn ik so (puM ks p1.toNat p2 (cod3 (isW p1 0 3) (isW p2 0 2) (isW p3 0 5))) (puM rs p1.toNat p3 (cod3 (isW p1 0 3) (isW p2 0 2) (isW p3 0 5))) lf K  ) (cwV 0 hts g_L_71 rfl rfl rfl (by decide +kernel) ⟨Nat.le_of_ble_eq_true rfl, Nat.le_of_ble_eq_true rfl⟩) (zP_V (ci := 3) (q0 := 0) rfl rfl hPc hKc hDc hS hFc hZ) rfl rfl hl.1 rfl (lv_room (Nat.le_of_ble_eq_true rfl)) dL_law_273 ⟨by show _ ≤ 601024; omega, by show _ ≤ 7292999; omega⟩) hP hD hS hFc [16, 17, 18, 19, 20, 21, 22, 23, 24] [0, 1, 2, 3, 4, 5, 6, 7, 8, 9, 10, 11, 12, 13, 14, 15, 25] [0, 1, 2, 3, 4, 5, 6, 7, 8, 9, 10, 11, 12, 13, 14, 15, 17, 18, 19, 20, 21, 22, 23, 24, 25, 16] rfl rfl (by decide) (by decide) rfl (by decide) (fun H locs _ hP hD hS _ => ?_)
  have hP : va_P (dC, dI) vwCl (lwW a cA b cB o co w h wa ma ka li hk sh T (if cod3 (isW p1 0 3) (isW p2 0 2) (isW p3 0 5) ≤ 0 then uI kd p1.toNat p2 else kd) (if cod3 (isW p1 0 3) (isW p2 0 2) (isW p3 0 5) ≤ 0 then uI rd p1.toNat p3 else rd) (if cod3 (isW p1 0 3) (isW p2 0 2) (isW p3 0 5) ≤ 0 then dpU dp p1.toNat (becF p2 p3 (2 * p3 + 1).toNat (2 * p3 + 1).toNat (dp p1.toNat)) else dp) (cod3 (isW p1 0 3) (isW p2 0 2) (isW p3 0 5)) wn mn kn ik so (puM ks p1.toNat p2 (cod3 (isW p1 0 3) (isW p2 0 2) (isW p3 0 5))) (puM rs p1.toNat p3 (cod3 (isW p1 0 3) (isW p2 0 2) (isW p3 0 5))) lf K (if cod3 (isW p1 0 3) (isW p2 0 2) (isW p3 0 5) ≤ 0 then uI f 0 (if kd p1.toNat = p2 ∧ rd p1.toNat = p3 then 0 else 1) else f)) H := hP
  have hD : va_D A (lwW a cA b cB o co w h wa ma ka li hk sh T (if cod3 (isW p1 0 3) (isW p2 0 2) (isW p3 0 5) ≤ 0 then uI kd p1.toNat p2 else kd) (if cod3 (isW p1 0 3) (isW p2 0 2) (isW p3 0 5) ≤ 0 then uI rd p1.toNat p3 else rd) (if cod3 (isW p1 0 3) (isW p2 0 2) (isW p3 0 5) ≤ 0 then dpU dp p1.toNat (becF p2 p3 (2 * p3 + 1).toNat (2 * p3 + 1).toNat (dp p1.toNat)) else dp) (cod3 (isW p1 0 3) (isW p2 0 2) (isW p3 0 5)) wn mn kn ik so (puM ks p1.toNat p2 (cod3 (isW p1 0 3) (isW p2 0 2) (isW p3 0 5))) (puM rs p1.toNat p3 (cod3 (isW p1 0 3) (isW p2 0 2) (isW p3 0 5))) lf K (if cod3 (isW p1 0 3) (isW p2 0 2) (isW p3 0 5) ≤ 0 then uI f 0 (if kd p1.toNat = p2 ∧ rd p1.toNat = p3 then 0 else 1) else f)) := hD
  refine lv_iload hx hb dL_law_276 (lv_at hl 1 rfl) ?_
  refine z_icmp_eq (tgt := 283) hx hb dL_law_278 (by decide) (by have := cod3_rg (isW p1 0 3) (isW p2 0 2) (isW p3 0 5); omega) (by have := cod3_rg (isW p1 0 3) (isW p2 0 2) (isW p3 0 5); omega) (fun c278 => ?_) (fun c278 => absurd c278 (fun z9 => z9 (rfl)))
  refine lv_iload hx hb dL_law_283 (lv_at hl 1 rfl) ?_
  refine z_if_ne (tgt := 307) hx hb dL_law_285 (by decide) (by have := cod3_rg (isW p1 0 3) (isW p2 0 2) (isW p3 0 5); omega) (fun c285 => ?_) (fun c285 => ?_)
  · refine lv_goto (tgt := 1068) hx hb dL_law_307 (by decide) ?_
    refine W.widen (k := 26 + 3 * (t + 1)) (n := 12144 + 18 * (t + 1)) (by omega) (by omega) ?_
    exact kk _ _ _ _ _ _ _ _ _ _ _ _ _ _ _ _ _ _ _ _ _ (e_tool_r hR p1 p2 p3) _ _ _ hP hD hS (lv_sub hl [2, 3, 4, 5, 6] rfl)
  · refine lv_aload_n hx hb dL_law_288 rfl (lv_at hl 5 rfl) ?_
    refine lv_iconst (v := iI 0) hx hb dL_law_289 rfl ?_
    have hcz : cod3 (isW p1 0 3) (isW p2 0 2) (isW p3 0 5) = 0 := by omega
    have hfz : (if cod3 (isW p1 0 3) (isW p2 0 2) (isW p3 0 5) ≤ 0 then uI f 0 (if kd p1.toNat = p2 ∧ rd p1.toNat = p3 then 0 else 1) else f) (0 : Int).toNat = if kd p1.toNat = p2 ∧ rd p1.toNat = p3 then 0 else 1 := by
      rw [if_pos (by omega)]
      exact uI_s
    refine z_lald (f := if cod3 (isW p1 0 3) (isW p2 0 2) (isW p3 0 5) ≤ 0 then uI f 0 (if kd p1.toNat = p2 ∧ rd p1.toNat = p3 then 0 else 1) else f) (i := 0) hx hb hK hP 25 18 rfl rfl (by decide) (by decide) dL_law_290 ?_
    refine z_topl (b := if kd p1.toNat = p2 ∧ rd p1.toNat = p3 then 0 else 1) hfz ?_
    refine lv_iload hx hb dL_law_291 (lv_at hl 0 rfl) ?_
    refine z_if_eq (tgt := 300) hx hb dL_law_293 (by decide) (by split <;> omega) (fun c293 => ?_) (fun c293 => ?_)
    · refine lv_lconst (v := lI 0) hx hb dL_law_300 (by decide) ?_
      refine z_lcmp hx hb ((e_tool_a hR p1 p2 p3 hcz).trans c293) dL_law_301 ?_
      refine z_if_eq (tgt := 307) hx hb dL_law_302 (by decide) (by omega) (fun c302 => ?_) (fun c302 => by exfalso; omega)
      refine lv_goto (tgt := 1068) hx hb dL_law_307 (by decide) ?_
      refine W.widen (k := 26 + 3 * (t + 1)) (n := 12144 + 18 * (t + 1)) (by omega) (by omega) ?_
      exact kk _ _ _ _ _ _ _ _ _ _ _ _ _ _ _ _ _ _ _ _ _ (e_tool_r hR p1 p2 p3) _ _ _ hP hD hS (lv_sub hl [2, 3, 4, 5, 6] rfl)
    · refine lv_lconst (v := lI 1) hx hb dL_law_296 (by decide) ?_
      refine lv_goto (tgt := 301) hx hb dL_law_297 (by decide) ?_
      refine z_lcmp hx hb (by have h8 := (e_tool_a hR p1 p2 p3 hcz); rw [h8]; revert c293; split <;> intro c293 <;> first | rfl | (exfalso; omega)) dL_law_301 ?_
      refine z_if_eq (tgt := 307) hx hb dL_law_302 (by decide) (by omega) (fun c302 => ?_) (fun c302 => by exfalso; omega)
      refine lv_goto (tgt := 1068) hx hb dL_law_307 (by decide) ?_
      refine W.widen (k := 26 + 3 * (t + 1)) (n := 12144 + 18 * (t + 1)) (by omega) (by omega) ?_
      exact kk _ _ _ _ _ _ _ _ _ _ _ _ _ _ _ _ _ _ _ _ _ (e_tool_r hR p1 p2 p3) _ _ _ hP hD hS (lv_sub hl [2, 3, 4, 5, 6] rfl)
theorem g_L_78 : GoodIn wsAll (va_wsS RL 78 yL_stock wsL_stock) := z_good (show ∀ w ∈ (Cond.methodLink RL 78 yL_stock :: Cond.static yL_stock :: Cond.initialized RL :: Cond.codeWith yL_stock method_5_code 4 (some .int) [(0, 9, 12, 15), (0, 9, 15, 24)] :: wsAll), w ∈ wsAll from List.forall_mem_cons.mpr ⟨wm_272, List.forall_mem_cons.mpr ⟨wm_273, List.forall_mem_cons.mpr ⟨wm_108, List.forall_mem_cons.mpr ⟨wm_274, fun _ h => h⟩⟩⟩⟩)
theorem g_L_81 : GoodIn wsAll (wsV RL 81 RX3 yX3_stock wsX3_stock) := z_good (show ∀ w ∈ (Cond.methodLink RL 81 yX3_stock :: Cond.instanceMethod yX3_stock :: Cond.selects RX3 yX3_stock yX3_stock :: Cond.initialized RX3 :: Cond.code yX3_stock prog_5_method_9_code 3 (some .int) :: wsAll), w ∈ wsAll from List.forall_mem_cons.mpr ⟨wm_475, List.forall_mem_cons.mpr ⟨wm_476, List.forall_mem_cons.mpr ⟨wm_477, List.forall_mem_cons.mpr ⟨wm_114, List.forall_mem_cons.mpr ⟨wm_478, fun _ h => h⟩⟩⟩⟩⟩)
set_option maxHeartbeats 4000000 in
set_option maxRecDepth 100000 in
theorem lw_c2 {p : Program} {l : Launch} {e : Env} {s : State} {m : MethodId} {below : List Frame} {meth : Method} {c : Code} {Q : State → Prop} {A : Nat → Prop} {dC : Nat → ClassId} {dI : Nat → Nat → Nat} {bS L : Nat} {xs : Nat → Int32} (hl9 : l.stackTraces = false) (hL : L ≤ 2050) (hx : p.tables.exec = Jvm.exec) (hb : c.code = cL_law) (hml : c.maxLocals = 7) (hown : s.vm.findClass RL = some m.cls) (hts : ∀ w ∈ wsAll, w.before #[Value.ref bS] s = true) (hA : ∀ q : Nat, s.heap.size ≤ q → A q) (hZ : zZ A s s.heap) (hX : va_X bS L xs s s.heap) (hbl : bS < s.heap.size) (hbA : ¬ A bS) (a : Nat → Nat) (cA : Nat → ClassId) (b : Nat → Nat) (cB : Nat → ClassId) (o : Nat) (co : ClassId) (w h : Nat) (hK : va_K (dC, dI) vwCl (lwT cA cB co) s) (wa ma ka li : Nat → Int) (hk sh : Int) (T : TK) (kd rd : Nat → Int) (dp : Nat → Nat → Int) (cd : Int) (wn mn kn : Nat → Int) (ik so : Int) (ks rs lf : Nat → Int) (K : MK) (f : Nat → Int) (hR : zRel w h wa ma ka li hk sh T kd rd dp wn mn kn ik so ks rs lf K) (t : Nat) (ht : 4 * t + 6 ≤ L) (kk : ∀ (wa ma ka li : Nat → Int) (hk sh : Int) (T : TK) (kd rd : Nat → Int) (dp : Nat → Nat → Int) (cd : Int) (wn mn kn : Nat → Int) (ik so : Int) (ks rs lf : Nat → Int) (K : MK) (f : Nat → Int), zRel w h wa ma ka li hk sh T kd rd dp wn mn kn ik so ks rs lf K → ∀ (H : Heap) (locs : List Loc) (ls : Array Slot), va_P (dC, dI) vwCl (lwW a cA b cB o co w h wa ma ka li hk sh T kd rd dp cd wn mn kn ik so ks rs lf K f) H → va_D A (lwW a cA b cB o co w h wa ma ka li hk sh T kd rd dp cd wn mn kn ik so ks rs lf K f) → va_S A s.heap H locs → lv_has ls 7 [(0, .ref bS), (1, .ref (a 0)), (2, .ref (b 0)), (3, .ref o), (4, .int (iI (2 + 4 * ((t : Nat) : Int))))] → W p l e room_1 s m #[Value.ref bS] below meth c H locs (26 + 3 * (t + 1)) (12144 + 18 * (t + 1)) Q (F0 m 1068 ls [])) : ∀ (H : Heap) (locs : List Loc) (ls : Array Slot), va_P (dC, dI) vwCl (lwW a cA b cB o co w h wa ma ka li hk sh T kd rd dp cd wn mn kn ik so ks rs lf K f) H → va_D A (lwW a cA b cB o co w h wa ma ka li hk sh T kd rd dp cd wn mn kn ik so ks rs lf K f) → va_S A s.heap H locs → lv_has ls 7 [(0, .ref bS), (1, .ref (a 0)), (2, .ref (b 0)), (3, .ref o), (4, .int (iI (2 + 4 * ((t : Nat) : Int))))] → W p l e room_1 s m #[Value.ref bS] below meth c H locs (26 + 3 * t) (12144 + 18 * t) Q (F0 m 310 ls []) := by
  intro H locs ls hP hD hS hl
  obtain ⟨p1, hp1, hr1⟩ : ∃ z, z = xv xs ((2 + 4 * ((t : Nat) : Int)) + 1).toNat ∧ rg z := ⟨_, rfl, xv_rg _ _⟩
  obtain ⟨p2, hp2, hr2⟩ : ∃ z, z = xv xs ((2 + 4 * ((t : Nat) : Int)) + 2).toNat ∧ rg z := ⟨_, rfl, xv_rg _ _⟩
  obtain ⟨p3, hp3, hr3⟩ : ∃ z, z = xv xs ((2 + 4 * ((t : Nat) : Int)) + 3).toNat ∧ rg z := ⟨_, rfl, xv_rg _ _⟩
  refine lv_aload_n hx hb dL_law_310 rfl (lv_at hl 1 rfl) ?_
  refine lv_aload_n hx hb dL_law_311 rfl (lv_at hl 0 rfl) ?_
  refine lv_iload hx hb dL_law_312 (lv_at hl 4 rfl) ?_
  refine lv_iconst (v := iI 1) hx hb dL_law_314 rfl ?_
  refine z_add hx hb dL_law_315 ?_
  refine z_sld hx hb hX hbl hbA hS (by omega) (by omega) dL_law_316 ?_
  refine z_top (b := p1) (hp1.symm) ?_
  refine lv_aload_n hx hb dL_law_317 rfl (lv_at hl 3 rfl) ?_
  have hPc := hP.sub (ws' := rpO a cA o co w h wa ma ka li hk sh T kd rd dp f) [0, 1, 2, 3, 4, 5, 6, 7, 8, 9, 10, 11, 12, 13, 14, 15, 25] rfl
  have hDc := hD.sub (ws' := rpO a cA o co w h wa ma ka li hk sh T kd rd dp f) [0, 1, 2, 3, 4, 5, 6, 7, 8, 9, 10, 11, 12, 13, 14, 15, 25] (by decide) rfl
  have hKc := hK.sub (tys' := rpOT cA co) [0, 1, 2, 3, 4, 5, 6, 7, 8, 9, 18] rfl
  have hFc := va_free (wc := rpO a cA o co w h wa ma ka li hk sh T kd rd dp f) hD hS hA [0, 1, 2, 3, 4, 5, 6, 7, 8, 9, 10, 11, 12, 13, 14, 15, 25] rfl
  refine z_xcalli (ws' := lwW a cA b cB o co w h wa (if codS (isW p1 1 1000) (gwF wa (w * h)) p1 ≤ 0 then flF p1 (w * h) ma else ma) ka li hk (if codS (isW p1 1 1000) (gwF wa (w * h)) p1 ≤ 0 then p1 else sh) T kd rd dp cd wn mn kn ik so ks rs lf K (if codS (isW p1 1 1000) (gwF wa (w * h)) p1 ≤ 0 then uI f 0 (zt (gwF wa (w * h))) else f)) (wr := [16, 17, 18, 19, 20, 21, 22, 23, 24].filterMap (fun z9 => (lwW a cA b cB o co w h wa ma ka li hk sh T kd rd dp cd wn mn kn ik so ks rs lf K f)[z9]?)) (vx_runSX (As := [.ref (a 0), .int (iI p1), .ref o]) (rest := []) ⟨hx, hb, hml, hown, hts⟩ (c_L_stock l hl9 dC dI (H).size a cA o co w h wa ma ka li hk sh T kd rd dp f p1 hR.hw hR.hh hR.hwa hr1) (vx_cwSW 3 hts g_L_78 rfl rfl rfl (by decide +kernel) ⟨Nat.le_of_ble_eq_true rfl, Nat.le_of_ble_eq_true rfl⟩) (zP_S hPc hKc hDc hS hFc hZ) rfl rfl hl.1 rfl (lv_room (Nat.le_of_ble_eq_true rfl)) dL_law_318 ⟨by show _ ≤ 601024; omega, by show _ ≤ 7292999; omega⟩) hP hD hS hFc (z_subOf [0, 1, 2, 3, 4, 5, 6, 7, 8, 9, 10, 11, 12, 13, 14, 15, 25] rfl) [0, 1, 2, 3, 4, 5, 6, 7, 8, 9, 10, 11, 12, 13, 14, 15, 25] [16, 17, 18, 19, 20, 21, 22, 23, 24] [9, 10, 11, 12, 13, 14, 15, 16, 17, 18, 19, 20, 21, 22, 23, 24, 0, 1, 2, 3, 4, 5, 6, 7, 8, 25] rfl rfl (by decide) (by decide) rfl (by decide) (fun E ce q9 H locs hE => hE.elim) (fun H locs _ hP hD hS _ => ?_)
  have hP : va_P (dC, dI) vwCl (lwW a cA b cB o co w h wa (if codS (isW p1 1 1000) (gwF wa (w * h)) p1 ≤ 0 then flF p1 (w * h) ma else ma) ka li hk (if codS (isW p1 1 1000) (gwF wa (w * h)) p1 ≤ 0 then p1 else sh) T kd rd dp cd wn mn kn ik so ks rs lf K (if codS (isW p1 1 1000) (gwF wa (w * h)) p1 ≤ 0 then uI f 0 (zt (gwF wa (w * h))) else f)) H := hP
  have hD : va_D A (lwW a cA b cB o co w h wa (if codS (isW p1 1 1000) (gwF wa (w * h)) p1 ≤ 0 then flF p1 (w * h) ma else ma) ka li hk (if codS (isW p1 1 1000) (gwF wa (w * h)) p1 ≤ 0 then p1 else sh) T kd rd dp cd wn mn kn ik so ks rs lf K (if codS (isW p1 1 1000) (gwF wa (w * h)) p1 ≤ 0 then uI f 0 (zt (gwF wa (w * h))) else f)) := hD
  refine lv_istore (lv' := [(5, .int (iI (codS (isW p1 1 1000) (gwF wa (w * h)) p1))), (0, .ref bS), (1, .ref (a 0)), (2, .ref (b 0)), (3, .ref o), (4, .int (iI (2 + 4 * ((t : Nat) : Int))))]) hx hb dL_law_321 hl (by decide) rfl (fun ls hl => ?_)
  refine lv_aload_n hx hb dL_law_323 rfl (lv_at hl 3 rfl) ?_
  refine lv_aload_n hx hb dL_law_324 rfl (lv_at hl 1 rfl) ?_
  refine lv_iload hx hb dL_law_325 (lv_at hl 5 rfl) ?_
  refine lv_iconst (v := iI 1) hx hb dL_law_327 rfl ?_
  refine z_add hx hb dL_law_328 ?_
  refine z_sld hx hb hX hbl hbA hS (by omega) (by omega) dL_law_329 ?_
  refine z_top (b := p1) (hp1.symm) ?_
  have hPc := hP.sub (ws' := mdW b cB w h cd wn mn kn ik so ks rs lf K) [16, 17, 18, 19, 20, 21, 22, 23, 24] rfl
  have hDc := hD.sub (ws' := mdW b cB w h cd wn mn kn ik so ks rs lf K) [16, 17, 18, 19, 20, 21, 22, 23, 24] (by decide) rfl
  have hKc := hK.sub (tys' := mdT cB) [10, 11, 12, 13, 14, 15, 16, 17] rfl
  have hFc := va_free (wc := mdW b cB w h cd wn mn kn ik so ks rs lf K) hD hS hA [16, 17, 18, 19, 20, 21, 22, 23, 24] rfl
  refine z_calli (ws' := lwW a cA b cB o co w h wa (if codS (isW p1 1 1000) (gwF wa (w * h)) p1 ≤ 0 then flF p1 (w * h) ma else ma) ka li hk (if codS (isW p1 1 1000) (gwF wa (w * h)) p1 ≤ 0 then p1 else sh) T kd rd dp (codS (isW p1 1 1000) (gmF w wn h) p1) wn (if codS (isW p1 1 1000) (gmF w wn h) p1 ≤ 0 then flF p1 400 mn else mn) kn ik (if codS (isW p1 1 1000) (gmF w wn h) p1 ≤ 0 then p1 else so) ks rs lf K (if codS (isW p1 1 1000) (gwF wa (w * h)) p1 ≤ 0 then uI f 0 (zt (gwF wa (w * h))) else f)) (wr := [0, 1, 2, 3, 4, 5, 6, 7, 8, 9, 10, 11, 12, 13, 14, 15, 25].filterMap (fun z9 => (lwW a cA b cB o co w h wa (if codS (isW p1 1 1000) (gwF wa (w * h)) p1 ≤ 0 then flF p1 (w * h) ma else ma) ka li hk (if codS (isW p1 1 1000) (gwF wa (w * h)) p1 ≤ 0 then p1 else sh) T kd rd dp cd wn mn kn ik so ks rs lf K (if codS (isW p1 1 1000) (gwF wa (w * h)) p1 ≤ 0 then uI f 0 (zt (gwF wa (w * h))) else f))[z9]?)) (va_runV (As := [.int (iI p1)]) (rest := []) ⟨hx, hb, hml, hown, hts⟩ (c_X3_stock l dC dI (H).size b cB w h cd wn mn kn ik so ks rs lf K p1 hR.hw hR.hh hR.hwn hr1) (cwV 1 hts g_L_81 rfl rfl rfl (by decide +kernel) ⟨Nat.le_of_ble_eq_true rfl, Nat.le_of_ble_eq_true rfl⟩) (zP_V (ci := 3) (q0 := 0) rfl rfl hPc hKc hDc hS hFc hZ) rfl rfl hl.1 rfl (lv_room (Nat.le_of_ble_eq_true rfl)) dL_law_330 ⟨by show _ ≤ 601024; omega, by show _ ≤ 7292999; omega⟩) hP hD hS hFc [16, 17, 18, 19, 20, 21, 22, 23, 24] [0, 1, 2, 3, 4, 5, 6, 7, 8, 9, 10, 11, 12, 13, 14, 15, 25] [0, 1, 2, 3, 4, 5, 6, 7, 8, 9, 10, 11, 12, 13, 14, 15, 17, 18, 19, 20, 21, 22, 23, 24, 25, 16] rfl rfl (by decide) (by decide) rfl (by decide) (fun H locs _ hP hD hS _ => ?_)
  have hP : va_P (dC, dI) vwCl (lwW a cA b cB o co w h wa (if codS (isW p1 1 1000) (gwF wa (w * h)) p1 ≤ 0 then flF p1 (w * h) ma else ma) ka li hk (if codS (isW p1 1 1000) (gwF wa (w * h)) p1 ≤ 0 then p1 else sh) T kd rd dp (codS (isW p1 1 1000) (gmF w wn h) p1) wn (if codS (isW p1 1 1000) (gmF w wn h) p1 ≤ 0 then flF p1 400 mn else mn) kn ik (if codS (isW p1 1 1000) (gmF w wn h) p1 ≤ 0 then p1 else so) ks rs lf K (if codS (isW p1 1 1000) (gwF wa (w * h)) p1 ≤ 0 then uI f 0 (zt (gwF wa (w * h))) else f)) H := hP
  have hD : va_D A (lwW a cA b cB o co w h wa (if codS (isW p1 1 1000) (gwF wa (w * h)) p1 ≤ 0 then flF p1 (w * h) ma else ma) ka li hk (if codS (isW p1 1 1000) (gwF wa (w * h)) p1 ≤ 0 then p1 else sh) T kd rd dp (codS (isW p1 1 1000) (gmF w wn h) p1) wn (if codS (isW p1 1 1000) (gmF w wn h) p1 ≤ 0 then flF p1 400 mn else mn) kn ik (if codS (isW p1 1 1000) (gmF w wn h) p1 ≤ 0 then p1 else so) ks rs lf K (if codS (isW p1 1 1000) (gwF wa (w * h)) p1 ≤ 0 then uI f 0 (zt (gwF wa (w * h))) else f)) := hD
  refine lv_istore (lv' := [(6, .int (iI (if codS (isW p1 1 1000) (gmF w wn h) p1 ≤ 0 then gmF w wn h else 0))), (5, .int (iI (codS (isW p1 1 1000) (gwF wa (w * h)) p1))), (0, .ref bS), (1, .ref (a 0)), (2, .ref (b 0)), (3, .ref o), (4, .int (iI (2 + 4 * ((t : Nat) : Int))))]) hx hb dL_law_333 hl (by decide) rfl (fun ls hl => ?_)
  refine lv_aload_n hx hb dL_law_335 rfl (lv_at hl 4 rfl) ?_
  have hPc := hP.sub (ws' := mdW b cB w h (codS (isW p1 1 1000) (gmF w wn h) p1) wn (if codS (isW p1 1 1000) (gmF w wn h) p1 ≤ 0 then flF p1 400 mn else mn) kn ik (if codS (isW p1 1 1000) (gmF w wn h) p1 ≤ 0 then p1 else so) ks rs lf K) [16, 17, 18, 19, 20, 21, 22, 23, 24] rfl
  have hDc := hD.sub (ws' := mdW b cB w h (codS (isW p1 1 1000) (gmF w wn h) p1) wn (if codS (isW p1 1 1000) (gmF w wn h) p1 ≤ 0 then flF p1 400 mn else mn) kn ik (if codS (isW p1 1 1000) (gmF w wn h) p1 ≤ 0 then p1 else so) ks rs lf K) [16, 17, 18, 19, 20, 21, 22, 23, 24] (by decide) rfl
  have hKc := hK.sub (tys' := mdT cB) [10, 11, 12, 13, 14, 15, 16, 17] rfl
  have hFc := va_free (wc := mdW b cB w h (codS (isW p1 1 1000) (gmF w wn h) p1) wn (if codS (isW p1 1 1000) (gmF w wn h) p1 ≤ 0 then flF p1 400 mn else mn) kn ik (if codS (isW p1 1 1000) (gmF w wn h) p1 ≤ 0 then p1 else so) ks rs lf K) hD hS hA [16, 17, 18, 19, 20, 21, 22, 23, 24] rfl
  refine z_calli (ws' := lwW a cA b cB o co w h wa (if codS (isW p1 1 1000) (gwF wa (w * h)) p1 ≤ 0 then flF p1 (w * h) ma else ma) ka li hk (if codS (isW p1 1 1000) (gwF wa (w * h)) p1 ≤ 0 then p1 else sh) T kd rd dp (codS (isW p1 1 1000) (gmF w wn h) p1) wn (if codS (isW p1 1 1000) (gmF w wn h) p1 ≤ 0 then flF p1 400 mn else mn) kn ik (if codS (isW p1 1 1000) (gmF w wn h) p1 ≤ 0 then p1 else so) ks rs lf K (if codS (isW p1 1 1000) (gwF wa (w * h)) p1 ≤ 0 then uI f 0 (zt (gwF wa (w * h))) else f)) (wr := [0, 1, 2, 3, 4, 5, 6, 7, 8, 9, 10, 11, 12, 13, 14, 15, 25].filterMap (fun z9 => (lwW a cA b cB o co w h wa (if codS (isW p1 1 1000) (gwF wa (w * h)) p1 ≤ 0 then flF p1 (w * h) ma else ma) ka li hk (if codS (isW p1 1 1000) (gwF wa (w * h)) p1 ≤ 0 then p1 else sh) T kd rd dp (codS (isW p1 1 1000) (gmF w wn h) p1) wn (if codS (isW p1 1 1000) (gmF w wn h) p1 ≤ 0 then flF p1 400 mn else mn) kn ik (if codS (isW p1 1 1000) (gmF w wn h) p1 ≤ 0 then p1 else so) ks rs lf K (if codS (isW p1 1 1000) (gwF wa (w * h)) p1 ≤ 0 then uI f 0 (zt (gwF wa (w * h))) else f))[z9]?)) (va_runV (As := []) (rest := []) ⟨hx, hb, hml, hown, hts⟩ (c_X3_thrown l dC dI (H).size b cB w h (codS (isW p1 1 1000) (gmF w wn h) p1) wn (if codS (isW p1 1 1000) (gmF w wn h) p1 ≤ 0 then flF p1 400 mn else mn) kn ik (if codS (isW p1 1 1000) (gmF w wn h) p1 ≤ 0 then p1 else so) ks rs lf K  ) (cwV 0 hts g_L_71 rfl rfl rfl (by decide +kernel) ⟨Nat.le_of_ble_eq_true rfl, Nat.le_of_ble_eq_true rfl⟩) (zP_V (ci := 3) (q0 := 0) rfl rfl hPc hKc hDc hS hFc hZ) rfl rfl hl.1 rfl (lv_room (Nat.le_of_ble_eq_true rfl)) dL_law_336 ⟨by show _ ≤ 601024; omega, by show _ ≤ 7292999; omega⟩) hP hD hS hFc [16, 17, 18, 19, 20, 21, 22, 23, 24] [0, 1, 2, 3, 4, 5, 6, 7, 8, 9, 10, 11, 12, 13, 14, 15, 25] [0, 1, 2, 3, 4, 5, 6, 7, 8, 9, 10, 11, 12, 13, 14, 15, 17, 18, 19, 20, 21, 22, 23, 24, 25, 16] rfl rfl (by decide) (by decide) rfl (by decide) (fun H locs _ hP hD hS _ => ?_)
  have hP : va_P (dC, dI) vwCl (lwW a cA b cB o co w h wa (if codS (isW p1 1 1000) (gwF wa (w * h)) p1 ≤ 0 then flF p1 (w * h) ma else ma) ka li hk (if codS (isW p1 1 1000) (gwF wa (w * h)) p1 ≤ 0 then p1 else sh) T kd rd dp (codS (isW p1 1 1000) (gmF w wn h) p1) wn (if codS (isW p1 1 1000) (gmF w wn h) p1 ≤ 0 then flF p1 400 mn else mn) kn ik (if codS (isW p1 1 1000) (gmF w wn h) p1 ≤ 0 then p1 else so) ks rs lf K (if codS (isW p1 1 1000) (gwF wa (w * h)) p1 ≤ 0 then uI f 0 (zt (gwF wa (w * h))) else f)) H := hP
  have hD : va_D A (lwW a cA b cB o co w h wa (if codS (isW p1 1 1000) (gwF wa (w * h)) p1 ≤ 0 then flF p1 (w * h) ma else ma) ka li hk (if codS (isW p1 1 1000) (gwF wa (w * h)) p1 ≤ 0 then p1 else sh) T kd rd dp (codS (isW p1 1 1000) (gmF w wn h) p1) wn (if codS (isW p1 1 1000) (gmF w wn h) p1 ≤ 0 then flF p1 400 mn else mn) kn ik (if codS (isW p1 1 1000) (gmF w wn h) p1 ≤ 0 then p1 else so) ks rs lf K (if codS (isW p1 1 1000) (gwF wa (w * h)) p1 ≤ 0 then uI f 0 (zt (gwF wa (w * h))) else f)) := hD
  refine lv_iload hx hb dL_law_339 (lv_at hl 1 rfl) ?_
  refine z_icmp_eq (tgt := 346) hx hb dL_law_341 (by decide) (by have := codS_rg (isW p1 1 1000) (gmF w wn h) p1; omega) (by have := codS_rg (isW p1 1 1000) (gwF wa (w * h)) p1; omega) (fun c341 => ?_) (fun c341 => absurd c341 (fun z9 => z9 (e_stock_c hR p1)))
  refine lv_iload hx hb dL_law_346 (lv_at hl 1 rfl) ?_
  refine z_if_ne (tgt := 363) hx hb dL_law_348 (by decide) (by have := codS_rg (isW p1 1 1000) (gwF wa (w * h)) p1; omega) (fun c348 => ?_) (fun c348 => ?_)
  · refine lv_goto (tgt := 1068) hx hb dL_law_363 (by decide) ?_
    refine W.widen (k := 26 + 3 * (t + 1)) (n := 12144 + 18 * (t + 1)) (by omega) (by omega) ?_
    exact kk _ _ _ _ _ _ _ _ _ _ _ _ _ _ _ _ _ _ _ _ _ (e_stock_r hR p1) _ _ _ hP hD hS (lv_sub hl [2, 3, 4, 5, 6] rfl)
  · refine lv_aload_n hx hb dL_law_351 rfl (lv_at hl 5 rfl) ?_
    refine lv_iconst (v := iI 0) hx hb dL_law_352 rfl ?_
    have hcz : codS (isW p1 1 1000) (gwF wa (w * h)) p1 = 0 := by omega
    have hfz : (if codS (isW p1 1 1000) (gwF wa (w * h)) p1 ≤ 0 then uI f 0 (zt (gwF wa (w * h))) else f) (0 : Int).toNat = zt (gwF wa (w * h)) := by
      rw [if_pos (by omega)]
      exact uI_s
    refine z_lald (f := if codS (isW p1 1 1000) (gwF wa (w * h)) p1 ≤ 0 then uI f 0 (zt (gwF wa (w * h))) else f) (i := 0) hx hb hK hP 25 18 rfl rfl (by decide) (by decide) dL_law_353 ?_
    refine z_topl (b := zt (gwF wa (w * h))) hfz ?_
    refine lv_iload hx hb dL_law_354 (lv_at hl 0 rfl) ?_
    refine z_i2lt hx hb dL_law_356 ?_
    refine z_lcmp hx hb (congrArg zt (e_stock_a hR p1 hcz)) dL_law_357 ?_
    refine z_if_eq (tgt := 363) hx hb dL_law_358 (by decide) (by omega) (fun c358 => ?_) (fun c358 => by exfalso; omega)
    refine lv_goto (tgt := 1068) hx hb dL_law_363 (by decide) ?_
    refine W.widen (k := 26 + 3 * (t + 1)) (n := 12144 + 18 * (t + 1)) (by omega) (by omega) ?_
    exact kk _ _ _ _ _ _ _ _ _ _ _ _ _ _ _ _ _ _ _ _ _ (e_stock_r hR p1) _ _ _ hP hD hS (lv_sub hl [2, 3, 4, 5, 6] rfl)
theorem g_L_82 : GoodIn wsAll (va_wsS RL 82 yL_lift wsL_lift) := z_good (show ∀ w ∈ (Cond.methodLink RL 82 yL_lift :: Cond.static yL_lift :: Cond.initialized RL :: Cond.codeWith yL_lift method_6_code 6 (some .int) [(0, 12, 15, 13)] :: wsAll), w ∈ wsAll from List.forall_mem_cons.mpr ⟨wm_282, List.forall_mem_cons.mpr ⟨wm_283, List.forall_mem_cons.mpr ⟨wm_108, List.forall_mem_cons.mpr ⟨wm_284, fun _ h => h⟩⟩⟩⟩)
theorem g_L_84 : GoodIn wsAll (wsV RL 84 RX3 yX3_lift wsX3_lift) := z_good (show ∀ w ∈ (Cond.methodLink RL 84 yX3_lift :: Cond.instanceMethod yX3_lift :: Cond.selects RX3 yX3_lift yX3_lift :: Cond.initialized RX3 :: Cond.code yX3_lift prog_5_method_13_code 4 (some .int) :: wsAll), w ∈ wsAll from List.forall_mem_cons.mpr ⟨wm_489, List.forall_mem_cons.mpr ⟨wm_490, List.forall_mem_cons.mpr ⟨wm_491, List.forall_mem_cons.mpr ⟨wm_114, List.forall_mem_cons.mpr ⟨wm_492, fun _ h => h⟩⟩⟩⟩⟩)
set_option maxHeartbeats 4000000 in
set_option maxRecDepth 100000 in
theorem lw_c3 {p : Program} {l : Launch} {e : Env} {s : State} {m : MethodId} {below : List Frame} {meth : Method} {c : Code} {Q : State → Prop} {A : Nat → Prop} {dC : Nat → ClassId} {dI : Nat → Nat → Nat} {bS L : Nat} {xs : Nat → Int32} (hl9 : l.stackTraces = false) (hL : L ≤ 2050) (hx : p.tables.exec = Jvm.exec) (hb : c.code = cL_law) (hml : c.maxLocals = 7) (hown : s.vm.findClass RL = some m.cls) (hts : ∀ w ∈ wsAll, w.before #[Value.ref bS] s = true) (hA : ∀ q : Nat, s.heap.size ≤ q → A q) (hZ : zZ A s s.heap) (hX : va_X bS L xs s s.heap) (hbl : bS < s.heap.size) (hbA : ¬ A bS) (a : Nat → Nat) (cA : Nat → ClassId) (b : Nat → Nat) (cB : Nat → ClassId) (o : Nat) (co : ClassId) (w h : Nat) (hK : va_K (dC, dI) vwCl (lwT cA cB co) s) (wa ma ka li : Nat → Int) (hk sh : Int) (T : TK) (kd rd : Nat → Int) (dp : Nat → Nat → Int) (cd : Int) (wn mn kn : Nat → Int) (ik so : Int) (ks rs lf : Nat → Int) (K : MK) (f : Nat → Int) (hR : zRel w h wa ma ka li hk sh T kd rd dp wn mn kn ik so ks rs lf K) (t : Nat) (ht : 4 * t + 6 ≤ L) (kk : ∀ (wa ma ka li : Nat → Int) (hk sh : Int) (T : TK) (kd rd : Nat → Int) (dp : Nat → Nat → Int) (cd : Int) (wn mn kn : Nat → Int) (ik so : Int) (ks rs lf : Nat → Int) (K : MK) (f : Nat → Int), zRel w h wa ma ka li hk sh T kd rd dp wn mn kn ik so ks rs lf K → ∀ (H : Heap) (locs : List Loc) (ls : Array Slot), va_P (dC, dI) vwCl (lwW a cA b cB o co w h wa ma ka li hk sh T kd rd dp cd wn mn kn ik so ks rs lf K f) H → va_D A (lwW a cA b cB o co w h wa ma ka li hk sh T kd rd dp cd wn mn kn ik so ks rs lf K f) → va_S A s.heap H locs → lv_has ls 7 [(0, .ref bS), (1, .ref (a 0)), (2, .ref (b 0)), (3, .ref o), (4, .int (iI (2 + 4 * ((t : Nat) : Int))))] → W p l e room_1 s m #[Value.ref bS] below meth c H locs (26 + 3 * (t + 1)) (12144 + 18 * (t + 1)) Q (F0 m 1068 ls [])) : ∀ (H : Heap) (locs : List Loc) (ls : Array Slot), va_P (dC, dI) vwCl (lwW a cA b cB o co w h wa ma ka li hk sh T kd rd dp cd wn mn kn ik so ks rs lf K f) H → va_D A (lwW a cA b cB o co w h wa ma ka li hk sh T kd rd dp cd wn mn kn ik so ks rs lf K f) → va_S A s.heap H locs → lv_has ls 7 [(0, .ref bS), (1, .ref (a 0)), (2, .ref (b 0)), (3, .ref o), (4, .int (iI (2 + 4 * ((t : Nat) : Int))))] → W p l e room_1 s m #[Value.ref bS] below meth c H locs (26 + 3 * t) (12144 + 18 * t) Q (F0 m 366 ls []) := by
  intro H locs ls hP hD hS hl
  obtain ⟨p1, hp1, hr1⟩ : ∃ z, z = xv xs ((2 + 4 * ((t : Nat) : Int)) + 1).toNat ∧ rg z := ⟨_, rfl, xv_rg _ _⟩
  obtain ⟨p2, hp2, hr2⟩ : ∃ z, z = xv xs ((2 + 4 * ((t : Nat) : Int)) + 2).toNat ∧ rg z := ⟨_, rfl, xv_rg _ _⟩
  obtain ⟨p3, hp3, hr3⟩ : ∃ z, z = xv xs ((2 + 4 * ((t : Nat) : Int)) + 3).toNat ∧ rg z := ⟨_, rfl, xv_rg _ _⟩
  refine lv_aload_n hx hb dL_law_366 rfl (lv_at hl 1 rfl) ?_
  refine lv_aload_n hx hb dL_law_367 rfl (lv_at hl 0 rfl) ?_
  refine lv_iload hx hb dL_law_368 (lv_at hl 4 rfl) ?_
  refine lv_iconst (v := iI 1) hx hb dL_law_370 rfl ?_
  refine z_add hx hb dL_law_371 ?_
  refine z_sld hx hb hX hbl hbA hS (by omega) (by omega) dL_law_372 ?_
  refine z_top (b := p1) (hp1.symm) ?_
  refine lv_aload_n hx hb dL_law_373 rfl (lv_at hl 0 rfl) ?_
  refine lv_iload hx hb dL_law_374 (lv_at hl 4 rfl) ?_
  refine lv_iconst (v := iI 2) hx hb dL_law_376 rfl ?_
  refine z_add hx hb dL_law_377 ?_
  refine z_sld hx hb hX hbl hbA hS (by omega) (by omega) dL_law_378 ?_
  refine z_top (b := p2) (hp2.symm) ?_
  refine lv_aload_n hx hb dL_law_379 rfl (lv_at hl 0 rfl) ?_
  refine lv_iload hx hb dL_law_380 (lv_at hl 4 rfl) ?_
  refine lv_iconst (v := iI 3) hx hb dL_law_382 rfl ?_
  refine z_add hx hb dL_law_383 ?_
  refine z_sld hx hb hX hbl hbA hS (by omega) (by omega) dL_law_384 ?_
  refine z_top (b := p3) (hp3.symm) ?_
  refine lv_aload_n hx hb dL_law_385 rfl (lv_at hl 3 rfl) ?_
  have hPc := hP.sub (ws' := rpO a cA o co w h wa ma ka li hk sh T kd rd dp f) [0, 1, 2, 3, 4, 5, 6, 7, 8, 9, 10, 11, 12, 13, 14, 15, 25] rfl
  have hDc := hD.sub (ws' := rpO a cA o co w h wa ma ka li hk sh T kd rd dp f) [0, 1, 2, 3, 4, 5, 6, 7, 8, 9, 10, 11, 12, 13, 14, 15, 25] (by decide) rfl
  have hKc := hK.sub (tys' := rpOT cA co) [0, 1, 2, 3, 4, 5, 6, 7, 8, 9, 18] rfl
  have hFc := va_free (wc := rpO a cA o co w h wa ma ka li hk sh T kd rd dp f) hD hS hA [0, 1, 2, 3, 4, 5, 6, 7, 8, 9, 10, 11, 12, 13, 14, 15, 25] rfl
  refine z_xcalli (ws' := lwW a cA b cB o co w h wa ma ka li hk sh T kd rd dp cd wn mn kn ik so ks rs lf K (if cod1a (plB w h p1 p2) (isW p3 0 3) ≤ 0 then uI f 0 (zt (lfF w h wa (dp p3.toNat) (rd p3.toNat) p1 p2 (nB h (rd p3.toNat) p2))) else f)) (wr := [16, 17, 18, 19, 20, 21, 22, 23, 24].filterMap (fun z9 => (lwW a cA b cB o co w h wa ma ka li hk sh T kd rd dp cd wn mn kn ik so ks rs lf K f)[z9]?)) (vx_runSX (As := [.ref (a 0), .int (iI p1), .int (iI p2), .int (iI p3), .ref o]) (rest := []) ⟨hx, hb, hml, hown, hts⟩ (c_L_lift l hl9 dC dI (H).size a cA o co w h wa ma ka li hk sh T kd rd dp f p1 p2 p3 hR.hw hR.hh hR.hrd hR.hdp hr1 hr2 hr3 hR.hwa) (vx_cwSW 5 hts g_L_82 rfl rfl rfl (by decide +kernel) ⟨Nat.le_of_ble_eq_true rfl, Nat.le_of_ble_eq_true rfl⟩) (zP_S hPc hKc hDc hS hFc hZ) rfl rfl hl.1 rfl (lv_room (Nat.le_of_ble_eq_true rfl)) dL_law_386 ⟨by show _ ≤ 601024; omega, by show _ ≤ 7292999; omega⟩) hP hD hS hFc (z_subOf [0, 1, 2, 3, 4, 5, 6, 7, 8, 9, 10, 11, 12, 13, 14, 15, 25] rfl) [0, 1, 2, 3, 4, 5, 6, 7, 8, 9, 10, 11, 12, 13, 14, 15, 25] [16, 17, 18, 19, 20, 21, 22, 23, 24] [9, 10, 11, 12, 13, 14, 15, 16, 17, 18, 19, 20, 21, 22, 23, 24, 0, 1, 2, 3, 4, 5, 6, 7, 8, 25] rfl rfl (by decide) (by decide) rfl (by decide) (fun E ce q9 H locs hE => hE.elim) (fun H locs _ hP hD hS _ => ?_)
  have hP : va_P (dC, dI) vwCl (lwW a cA b cB o co w h wa ma ka li hk sh T kd rd dp cd wn mn kn ik so ks rs lf K (if cod1a (plB w h p1 p2) (isW p3 0 3) ≤ 0 then uI f 0 (zt (lfF w h wa (dp p3.toNat) (rd p3.toNat) p1 p2 (nB h (rd p3.toNat) p2))) else f)) H := hP
  have hD : va_D A (lwW a cA b cB o co w h wa ma ka li hk sh T kd rd dp cd wn mn kn ik so ks rs lf K (if cod1a (plB w h p1 p2) (isW p3 0 3) ≤ 0 then uI f 0 (zt (lfF w h wa (dp p3.toNat) (rd p3.toNat) p1 p2 (nB h (rd p3.toNat) p2))) else f)) := hD
  refine lv_istore (lv' := [(5, .int (iI (cod1a (plB w h p1 p2) (isW p3 0 3)))), (0, .ref bS), (1, .ref (a 0)), (2, .ref (b 0)), (3, .ref o), (4, .int (iI (2 + 4 * ((t : Nat) : Int))))]) hx hb dL_law_389 hl (by decide) rfl (fun ls hl => ?_)
  refine lv_aload_n hx hb dL_law_391 rfl (lv_at hl 3 rfl) ?_
  refine lv_aload_n hx hb dL_law_392 rfl (lv_at hl 1 rfl) ?_
  refine lv_iload hx hb dL_law_393 (lv_at hl 5 rfl) ?_
  refine lv_iconst (v := iI 1) hx hb dL_law_395 rfl ?_
  refine z_add hx hb dL_law_396 ?_
  refine z_sld hx hb hX hbl hbA hS (by omega) (by omega) dL_law_397 ?_
  refine z_top (b := p1) (hp1.symm) ?_
  refine lv_aload_n hx hb dL_law_398 rfl (lv_at hl 1 rfl) ?_
  refine lv_iload hx hb dL_law_399 (lv_at hl 5 rfl) ?_
  refine lv_iconst (v := iI 2) hx hb dL_law_401 rfl ?_
  refine z_add hx hb dL_law_402 ?_
  refine z_sld hx hb hX hbl hbA hS (by omega) (by omega) dL_law_403 ?_
  refine z_top (b := p2) (hp2.symm) ?_
  refine lv_aload_n hx hb dL_law_404 rfl (lv_at hl 1 rfl) ?_
  refine lv_iload hx hb dL_law_405 (lv_at hl 5 rfl) ?_
  refine lv_iconst (v := iI 3) hx hb dL_law_407 rfl ?_
  refine z_add hx hb dL_law_408 ?_
  refine z_sld hx hb hX hbl hbA hS (by omega) (by omega) dL_law_409 ?_
  refine z_top (b := p3) (hp3.symm) ?_
  have hPc := hP.sub (ws' := mdW b cB w h cd wn mn kn ik so ks rs lf K) [16, 17, 18, 19, 20, 21, 22, 23, 24] rfl
  have hDc := hD.sub (ws' := mdW b cB w h cd wn mn kn ik so ks rs lf K) [16, 17, 18, 19, 20, 21, 22, 23, 24] (by decide) rfl
  have hKc := hK.sub (tys' := mdT cB) [10, 11, 12, 13, 14, 15, 16, 17] rfl
  have hFc := va_free (wc := mdW b cB w h cd wn mn kn ik so ks rs lf K) hD hS hA [16, 17, 18, 19, 20, 21, 22, 23, 24] rfl
  refine z_calli (ws' := lwW a cA b cB o co w h wa ma ka li hk sh T kd rd dp (cod1a (plB w h p1 p2) (isW p3 0 3)) wn mn kn ik so ks rs lf K (if cod1a (plB w h p1 p2) (isW p3 0 3) ≤ 0 then uI f 0 (zt (lfF w h wa (dp p3.toNat) (rd p3.toNat) p1 p2 (nB h (rd p3.toNat) p2))) else f)) (wr := [0, 1, 2, 3, 4, 5, 6, 7, 8, 9, 10, 11, 12, 13, 14, 15, 25].filterMap (fun z9 => (lwW a cA b cB o co w h wa ma ka li hk sh T kd rd dp cd wn mn kn ik so ks rs lf K (if cod1a (plB w h p1 p2) (isW p3 0 3) ≤ 0 then uI f 0 (zt (lfF w h wa (dp p3.toNat) (rd p3.toNat) p1 p2 (nB h (rd p3.toNat) p2))) else f))[z9]?)) (va_runV (As := [.int (iI p1), .int (iI p2), .int (iI p3)]) (rest := []) ⟨hx, hb, hml, hown, hts⟩ (c_X3_lift l dC dI (H).size b cB w h cd wn mn kn ik so ks rs lf K p1 p2 p3 hR.hw hR.hh hR.hwn hr3 hr1 hr2 hR.hks hR.hrs) (cwV 3 hts g_L_84 rfl rfl rfl (by decide +kernel) ⟨Nat.le_of_ble_eq_true rfl, Nat.le_of_ble_eq_true rfl⟩) (zP_V (ci := 3) (q0 := 0) rfl rfl hPc hKc hDc hS hFc hZ) rfl rfl hl.1 rfl (lv_room (Nat.le_of_ble_eq_true rfl)) dL_law_410 ⟨by show _ ≤ 601024; omega, by show _ ≤ 7292999; omega⟩) hP hD hS hFc [16, 17, 18, 19, 20, 21, 22, 23, 24] [0, 1, 2, 3, 4, 5, 6, 7, 8, 9, 10, 11, 12, 13, 14, 15, 25] [0, 1, 2, 3, 4, 5, 6, 7, 8, 9, 10, 11, 12, 13, 14, 15, 17, 18, 19, 20, 21, 22, 23, 24, 25, 16] rfl rfl (by decide) (by decide) rfl (by decide) (fun H locs _ hP hD hS _ => ?_)
  have hP : va_P (dC, dI) vwCl (lwW a cA b cB o co w h wa ma ka li hk sh T kd rd dp (cod1a (plB w h p1 p2) (isW p3 0 3)) wn mn kn ik so ks rs lf K (if cod1a (plB w h p1 p2) (isW p3 0 3) ≤ 0 then uI f 0 (zt (lfF w h wa (dp p3.toNat) (rd p3.toNat) p1 p2 (nB h (rd p3.toNat) p2))) else f)) H := hP
  have hD : va_D A (lwW a cA b cB o co w h wa ma ka li hk sh T kd rd dp (cod1a (plB w h p1 p2) (isW p3 0 3)) wn mn kn ik so ks rs lf K (if cod1a (plB w h p1 p2) (isW p3 0 3) ≤ 0 then uI f 0 (zt (lfF w h wa (dp p3.toNat) (rd p3.toNat) p1 p2 (nB h (rd p3.toNat) p2))) else f)) := hD
  refine lv_istore (lv' := [(6, .int (iI (if cod1a (plB w h p1 p2) (isW p3 0 3) ≤ 0 then lmF w wn (ks p3.toNat) (rs p3.toNat) p1 p2 (nB h (rs p3.toNat) p2) else 0))), (5, .int (iI (cod1a (plB w h p1 p2) (isW p3 0 3)))), (0, .ref bS), (1, .ref (a 0)), (2, .ref (b 0)), (3, .ref o), (4, .int (iI (2 + 4 * ((t : Nat) : Int))))]) hx hb dL_law_413 hl (by decide) rfl (fun ls hl => ?_)
  refine lv_aload_n hx hb dL_law_415 rfl (lv_at hl 4 rfl) ?_
  have hPc := hP.sub (ws' := mdW b cB w h (cod1a (plB w h p1 p2) (isW p3 0 3)) wn mn kn ik so ks rs lf K) [16, 17, 18, 19, 20, 21, 22, 23, 24] rfl
  have hDc := hD.sub (ws' := mdW b cB w h (cod1a (plB w h p1 p2) (isW p3 0 3)) wn mn kn ik so ks rs lf K) [16, 17, 18, 19, 20, 21, 22, 23, 24] (by decide) rfl
  have hKc := hK.sub (tys' := mdT cB) [10, 11, 12, 13, 14, 15, 16, 17] rfl
  have hFc := va_free (wc := mdW b cB w h (cod1a (plB w h p1 p2) (isW p3 0 3)) wn mn kn ik so ks rs lf K) hD hS hA [16, 17, 18, 19, 20, 21, 22, 23, 24] rfl
  refine z_calli (ws' := lwW a cA b cB o co w h wa ma ka li hk sh T kd rd dp (cod1a (plB w h p1 p2) (isW p3 0 3)) wn mn kn ik so ks rs lf K (if cod1a (plB w h p1 p2) (isW p3 0 3) ≤ 0 then uI f 0 (zt (lfF w h wa (dp p3.toNat) (rd p3.toNat) p1 p2 (nB h (rd p3.toNat) p2))) else f)) (wr := [0, 1, 2, 3, 4, 5, 6, 7, 8, 9, 10, 11, 12, 13, 14, 15, 25].filterMap (fun z9 => (lwW a cA b cB o co w h wa ma ka li hk sh T kd rd dp (cod1a (plB w h p1 p2) (isW p3 0 3)) wn mn kn ik so ks rs lf K (if cod1a (plB w h p1 p2) (isW p3 0 3) ≤ 0 then uI f 0 (zt (lfF w h wa (dp p3.toNat) (rd p3.toNat) p1 p2 (nB h (rd p3.toNat) p2))) else f))[z9]?)) (va_runV (As := []) (rest := []) ⟨hx, hb, hml, hown, hts⟩ (c_X3_thrown l dC dI (H).size b cB w h (cod1a (plB w h p1 p2) (isW p3 0 3)) wn mn kn ik so ks rs lf K  ) (cwV 0 hts g_L_71 rfl rfl rfl (by decide +kernel) ⟨Nat.le_of_ble_eq_true rfl, Nat.le_of_ble_eq_true rfl⟩) (zP_V (ci := 3) (q0 := 0) rfl rfl hPc hKc hDc hS hFc hZ) rfl rfl hl.1 rfl (lv_room (Nat.le_of_ble_eq_true rfl)) dL_law_416 ⟨by show _ ≤ 601024; omega, by show _ ≤ 7292999; omega⟩) hP hD hS hFc [16, 17, 18, 19, 20, 21, 22, 23, 24] [0, 1, 2, 3, 4, 5, 6, 7, 8, 9, 10, 11, 12, 13, 14, 15, 25] [0, 1, 2, 3, 4, 5, 6, 7, 8, 9, 10, 11, 12, 13, 14, 15, 17, 18, 19, 20, 21, 22, 23, 24, 25, 16] rfl rfl (by decide) (by decide) rfl (by decide) (fun H locs _ hP hD hS _ => ?_)
  have hP : va_P (dC, dI) vwCl (lwW a cA b cB o co w h wa ma ka li hk sh T kd rd dp (cod1a (plB w h p1 p2) (isW p3 0 3)) wn mn kn ik so ks rs lf K (if cod1a (plB w h p1 p2) (isW p3 0 3) ≤ 0 then uI f 0 (zt (lfF w h wa (dp p3.toNat) (rd p3.toNat) p1 p2 (nB h (rd p3.toNat) p2))) else f)) H := hP
  have hD : va_D A (lwW a cA b cB o co w h wa ma ka li hk sh T kd rd dp (cod1a (plB w h p1 p2) (isW p3 0 3)) wn mn kn ik so ks rs lf K (if cod1a (plB w h p1 p2) (isW p3 0 3) ≤ 0 then uI f 0 (zt (lfF w h wa (dp p3.toNat) (rd p3.toNat) p1 p2 (nB h (rd p3.toNat) p2))) else f)) := hD
  refine lv_iload hx hb dL_law_419 (lv_at hl 1 rfl) ?_
  refine z_icmp_eq (tgt := 426) hx hb dL_law_421 (by decide) (by have := cod1a_rg (plB w h p1 p2) (isW p3 0 3); omega) (by have := cod1a_rg (plB w h p1 p2) (isW p3 0 3); omega) (fun c421 => ?_) (fun c421 => absurd c421 (fun z9 => z9 (rfl)))
  refine lv_iload hx hb dL_law_426 (lv_at hl 1 rfl) ?_
  refine z_if_ne (tgt := 443) hx hb dL_law_428 (by decide) (by have := cod1a_rg (plB w h p1 p2) (isW p3 0 3); omega) (fun c428 => ?_) (fun c428 => ?_)
  · refine lv_goto (tgt := 1068) hx hb dL_law_443 (by decide) ?_
    refine W.widen (k := 26 + 3 * (t + 1)) (n := 12144 + 18 * (t + 1)) (by omega) (by omega) ?_
    exact kk _ _ _ _ _ _ _ _ _ _ _ _ _ _ _ _ _ _ _ _ _ hR _ _ _ hP hD hS (lv_sub hl [2, 3, 4, 5, 6] rfl)
  · refine lv_aload_n hx hb dL_law_431 rfl (lv_at hl 5 rfl) ?_
    refine lv_iconst (v := iI 0) hx hb dL_law_432 rfl ?_
    have hcz : cod1a (plB w h p1 p2) (isW p3 0 3) = 0 := by omega
    have hfz : (if cod1a (plB w h p1 p2) (isW p3 0 3) ≤ 0 then uI f 0 (zt (lfF w h wa (dp p3.toNat) (rd p3.toNat) p1 p2 (nB h (rd p3.toNat) p2))) else f) (0 : Int).toNat = zt (lfF w h wa (dp p3.toNat) (rd p3.toNat) p1 p2 (nB h (rd p3.toNat) p2)) := by
      rw [if_pos (by omega)]
      exact uI_s
    refine z_lald (f := if cod1a (plB w h p1 p2) (isW p3 0 3) ≤ 0 then uI f 0 (zt (lfF w h wa (dp p3.toNat) (rd p3.toNat) p1 p2 (nB h (rd p3.toNat) p2))) else f) (i := 0) hx hb hK hP 25 18 rfl rfl (by decide) (by decide) dL_law_433 ?_
    refine z_topl (b := zt (lfF w h wa (dp p3.toNat) (rd p3.toNat) p1 p2 (nB h (rd p3.toNat) p2))) hfz ?_
    refine lv_iload hx hb dL_law_434 (lv_at hl 0 rfl) ?_
    refine z_i2lt hx hb dL_law_436 ?_
    refine z_lcmp hx hb (congrArg zt (e_lift_a hR p1 p2 p3 hcz)) dL_law_437 ?_
    refine z_if_eq (tgt := 443) hx hb dL_law_438 (by decide) (by omega) (fun c438 => ?_) (fun c438 => by exfalso; omega)
    refine lv_goto (tgt := 1068) hx hb dL_law_443 (by decide) ?_
    refine W.widen (k := 26 + 3 * (t + 1)) (n := 12144 + 18 * (t + 1)) (by omega) (by omega) ?_
    exact kk _ _ _ _ _ _ _ _ _ _ _ _ _ _ _ _ _ _ _ _ _ hR _ _ _ hP hD hS (lv_sub hl [2, 3, 4, 5, 6] rfl)
