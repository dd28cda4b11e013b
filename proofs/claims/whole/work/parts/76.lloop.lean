set_option maxHeartbeats 4000000 in
set_option maxRecDepth 100000 in
/-- the law's loop, with t calls done -/
theorem lw_loop {p : Program} {l : Launch} {e : Env} {s : State} {m : MethodId} {below : List Frame} {meth : Method} {c : Code} {dC : Nat → ClassId} {dI : Nat → Nat → Nat} {bS L : Nat} {xs : Nat → Int32} (hl9 : l.stackTraces = false) (hL : L ≤ 2050) (hx : p.tables.exec = Jvm.exec) (hb : c.code = cL_law) (hml : c.maxLocals = 7) (hown : s.vm.findClass RL = some m.cls) (hts : ∀ w ∈ wsAll, w.before #[Value.ref bS] s = true) (hA : ∀ q : Nat, s.heap.size ≤ q → (fun q : Nat => s.heap.size ≤ q) q) (hZ : zZ (fun q : Nat => s.heap.size ≤ q) s s.heap) (hX : va_X bS L xs s s.heap) (hbl : bS < s.heap.size) (hbA : ¬ (fun q : Nat => s.heap.size ≤ q) bS) (hr : meth.sig.returnType = ret) (hlocks : meth.locks = false) (a : Nat → Nat) (cA : Nat → ClassId) (b : Nat → Nat) (cB : Nat → ClassId) (o : Nat) (co : ClassId) (w h : Nat) (hK : va_K (dC, dI) vwCl (lwT cA cB co) s) : ∀ (n t : Nat), (t = 0 ∨ 4 * t + 2 ≤ L) → L + 3 ≤ 4 * t + n → ∀ (wa ma ka li : Nat → Int) (hk sh : Int) (T : TK) (kd rd : Nat → Int) (dp : Nat → Nat → Int) (cd : Int) (wn mn kn : Nat → Int) (ik so : Int) (ks rs lf : Nat → Int) (K : MK) (f : Nat → Int), zRel w h wa ma ka li hk sh T kd rd dp wn mn kn ik so ks rs lf K → ∀ (H : Heap) (locs : List Loc) (ls : Array Slot), va_P (dC, dI) vwCl (lwW a cA b cB o co w h wa ma ka li hk sh T kd rd dp cd wn mn kn ik so ks rs lf K f) H → va_D (fun q : Nat => s.heap.size ≤ q) (lwW a cA b cB o co w h wa ma ka li hk sh T kd rd dp cd wn mn kn ik so ks rs lf K f) → va_S (fun q : Nat => s.heap.size ≤ q) s.heap H locs → lv_has ls 7 [(0, .ref bS), (1, .ref (a 0)), (2, .ref (b 0)), (3, .ref o), (4, .int (iI (2 + 4 * ((t : Nat) : Int))))] → W p l e room_1 s m #[Value.ref bS] below meth c H locs (26 + 3 * t) (12144 + 18 * t) (lw_Z below #[Value.ref bS] s) (F0 m 43 ls []) := by
  intro n
  induction n with
  | zero =>
    intro t h1 h2
    exfalso
    omega
  | succ n ih =>
    intro t h1 h2 wa ma ka li hk sh T kd rd dp cd wn mn kn ik so ks rs lf K f hR H locs ls hP hD hS hl
    refine lv_iload hx hb dL_law_43 (lv_at hl 4 rfl) ?_
    refine lv_aload_n hx hb dL_law_45 rfl (lv_at hl 0 rfl) ?_
    refine z_slen hx hb hX hbl hbA hS dL_law_46 ?_
    refine lv_iconst (v := iI 4) hx hb dL_law_47 rfl ?_
    refine z_sub hx hb dL_law_48 ?_
    refine z_icmp_gt (tgt := 1074) hx hb dL_law_49 (by decide) (by omega) (by omega) (fun c49 => ?_) (fun c49 => ?_)
    · refine lv_iconst (v := 1) hx hb dL_law_1074 (by decide) ?_
      refine va_forget (fun q hq => hS.2.2 q hq) ?_
      refine W.widen (k := 601024) (n := 7292999) (by omega) (by omega) ?_
      exact lw_ret hx hb hr hlocks dL_law_1075
    · refine lv_aload_n hx hb dL_law_52 rfl (lv_at hl 0 rfl) ?_
      refine lv_iload hx hb dL_law_53 (lv_at hl 4 rfl) ?_
      obtain ⟨p0, hp0⟩ : ∃ z, z = xv xs (2 + 4 * ((t : Nat) : Int)).toNat := ⟨_, rfl⟩
      refine z_sld hx hb hX hbl hbA hS (by omega) (by omega) dL_law_55 ?_
      refine z_top (b := p0) hp0.symm ?_
      refine lv_bipush (v := iI 15) hx hb dL_law_56 (by decide) ?_
      refine lv_iand hx hb dL_law_58 ?_
      have hb15 := and15 (iI p0)
      generalize iI p0 &&& iI 15 = v at hb15 ⊢
      have hc9 : v.toInt = 0 ∨ v.toInt = 1 ∨ v.toInt = 2 ∨ v.toInt = 3 ∨ v.toInt = 4 ∨ v.toInt = 5 ∨ v.toInt = 6 ∨ v.toInt = 7 ∨ v.toInt = 8 ∨ v.toInt = 9 ∨ v.toInt = 10 ∨ v.toInt = 11 ∨ v.toInt = 12 ∨ v.toInt = 13 ∨ v.toInt = 14 ∨ v.toInt = 15 := by omega
      have kk9 : ∀ (wa ma ka li : Nat → Int) (hk sh : Int) (T : TK) (kd rd : Nat → Int) (dp : Nat → Nat → Int) (cd : Int) (wn mn kn : Nat → Int) (ik so : Int) (ks rs lf : Nat → Int) (K : MK) (f : Nat → Int), zRel w h wa ma ka li hk sh T kd rd dp wn mn kn ik so ks rs lf K → ∀ (H : Heap) (locs : List Loc) (ls : Array Slot), va_P (dC, dI) vwCl (lwW a cA b cB o co w h wa ma ka li hk sh T kd rd dp cd wn mn kn ik so ks rs lf K f) H → va_D (fun q : Nat => s.heap.size ≤ q) (lwW a cA b cB o co w h wa ma ka li hk sh T kd rd dp cd wn mn kn ik so ks rs lf K f) → va_S (fun q : Nat => s.heap.size ≤ q) s.heap H locs → lv_has ls 7 [(0, .ref bS), (1, .ref (a 0)), (2, .ref (b 0)), (3, .ref o), (4, .int (iI (2 + 4 * ((t : Nat) : Int))))] → W p l e room_1 s m #[Value.ref bS] below meth c H locs (26 + 3 * (t + 1)) (12144 + 18 * (t + 1)) (lw_Z below #[Value.ref bS] s) (F0 m 1068 ls []) := by
        intro wa ma ka li hk sh T kd rd dp cd wn mn kn ik so ks rs lf K f hR H locs ls hP hD hS hl
        refine lv_iinc (v := iI (2 + 4 * ((t + 1 : Nat) : Int))) (lv' := [(4, .int (iI (2 + 4 * ((t + 1 : Nat) : Int)))), (0, .ref bS), (1, .ref (a 0)), (2, .ref (b 0)), (3, .ref o)]) hx hb dL_law_1068 hl (k := 4) rfl ((iI_add _ _).trans (congrArg iI (by omega))) (by decide) rfl (fun ls hl => ?_)
        refine lv_goto (tgt := 43) hx hb dL_law_1071 (by decide) ?_
        exact ih (t + 1) (by omega) (by omega) _ _ _ _ _ _ _ _ _ _ _ _ _ _ _ _ _ _ _ _ _ hR _ _ _ hP hD hS (lv_sub hl [1, 2, 3, 4, 0] rfl)
      rcases hc9 with hv | hv | hv | hv | hv | hv | hv | hv | hv | hv | hv | hv | hv | hv | hv | hv
      · exact lv_tableIn (off := 77) (tgt := 136) hx hb dL_law_59 (by omega) (by omega) (by rw [hv]; rfl) (by decide) (lw_c0 hl9 hL hx hb hml hown hts hA hZ hX hbl hbA a cA b cB o co w h hK _ _ _ _ _ _ _ _ _ _ _ _ _ _ _ _ _ _ _ _ _ hR t (by omega) kk9 _ _ _ hP hD hS hl)
      · exact lv_tableIn (off := 164) (tgt := 223) hx hb dL_law_59 (by omega) (by omega) (by rw [hv]; rfl) (by decide) (lw_c1 hl9 hL hx hb hml hown hts hA hZ hX hbl hbA a cA b cB o co w h hK _ _ _ _ _ _ _ _ _ _ _ _ _ _ _ _ _ _ _ _ _ hR t (by omega) kk9 _ _ _ hP hD hS hl)
      · exact lv_tableIn (off := 251) (tgt := 310) hx hb dL_law_59 (by omega) (by omega) (by rw [hv]; rfl) (by decide) (lw_c2 hl9 hL hx hb hml hown hts hA hZ hX hbl hbA a cA b cB o co w h hK _ _ _ _ _ _ _ _ _ _ _ _ _ _ _ _ _ _ _ _ _ hR t (by omega) kk9 _ _ _ hP hD hS hl)
      · exact lv_tableIn (off := 307) (tgt := 366) hx hb dL_law_59 (by omega) (by omega) (by rw [hv]; rfl) (by decide) (lw_c3 hl9 hL hx hb hml hown hts hA hZ hX hbl hbA a cA b cB o co w h hK _ _ _ _ _ _ _ _ _ _ _ _ _ _ _ _ _ _ _ _ _ hR t (by omega) kk9 _ _ _ hP hD hS hl)
      · exact lv_tableIn (off := 387) (tgt := 446) hx hb dL_law_59 (by omega) (by omega) (by rw [hv]; rfl) (by decide) (lw_c4 hl9 hL hx hb hml hown hts hA hZ hX hbl hbA a cA b cB o co w h hK _ _ _ _ _ _ _ _ _ _ _ _ _ _ _ _ _ _ _ _ _ hR t (by omega) kk9 _ _ _ hP hD hS hl)
      · exact lv_tableIn (off := 467) (tgt := 526) hx hb dL_law_59 (by omega) (by omega) (by rw [hv]; rfl) (by decide) (lw_c5 hl9 hL hx hb hml hown hts hA hZ hX hbl hbA a cA b cB o co w h hK _ _ _ _ _ _ _ _ _ _ _ _ _ _ _ _ _ _ _ _ _ hR t (by omega) kk9 _ _ _ hP hD hS hl)
      · exact lv_tableIn (off := 547) (tgt := 606) hx hb dL_law_59 (by omega) (by omega) (by rw [hv]; rfl) (by decide) (lw_c6 hl9 hL hx hb hml hown hts hA hZ hX hbl hbA a cA b cB o co w h hK _ _ _ _ _ _ _ _ _ _ _ _ _ _ _ _ _ _ _ _ _ hR t (by omega) kk9 _ _ _ hP hD hS hl)
      · exact lv_tableIn (off := 615) (tgt := 674) hx hb dL_law_59 (by omega) (by omega) (by rw [hv]; rfl) (by decide) (lw_c7 hl9 hL hx hb hml hown hts hA hZ hX hbl hbA a cA b cB o co w h hK _ _ _ _ _ _ _ _ _ _ _ _ _ _ _ _ _ _ _ _ _ hR t (by omega) kk9 _ _ _ hP hD hS hl)
      · exact lv_tableIn (off := 683) (tgt := 742) hx hb dL_law_59 (by omega) (by omega) (by rw [hv]; rfl) (by decide) (lw_c8 hl9 hL hx hb hml hown hts hA hZ hX hbl hbA a cA b cB o co w h hK _ _ _ _ _ _ _ _ _ _ _ _ _ _ _ _ _ _ _ _ _ hR t (by omega) kk9 _ _ _ hP hD hS hl)
      · exact lv_tableIn (off := 696) (tgt := 755) hx hb dL_law_59 (by omega) (by omega) (by rw [hv]; rfl) (by decide) (lw_c9 hl9 hL hx hb hml hown hts hA hZ hX hbl hbA a cA b cB o co w h hK _ _ _ _ _ _ _ _ _ _ _ _ _ _ _ _ _ _ _ _ _ hR t (by omega) kk9 _ _ _ hP hD hS hl)
      · exact lv_tableIn (off := 764) (tgt := 823) hx hb dL_law_59 (by omega) (by omega) (by rw [hv]; rfl) (by decide) (lw_c10 hl9 hL hx hb hml hown hts hA hZ hX hbl hbA a cA b cB o co w h hK _ _ _ _ _ _ _ _ _ _ _ _ _ _ _ _ _ _ _ _ _ hR t (by omega) kk9 _ _ _ hP hD hS hl)
      · exact lv_tableIn (off := 778) (tgt := 837) hx hb dL_law_59 (by omega) (by omega) (by rw [hv]; rfl) (by decide) (lw_c11 hl9 hL hx hb hml hown hts hA hZ hX hbl hbA a cA b cB o co w h hK _ _ _ _ _ _ _ _ _ _ _ _ _ _ _ _ _ _ _ _ _ hR t (by omega) kk9 _ _ _ hP hD hS hl)
      · exact lv_tableIn (off := 791) (tgt := 850) hx hb dL_law_59 (by omega) (by omega) (by rw [hv]; rfl) (by decide) (lw_c12 hl9 hL hx hb hml hown hts hA hZ hX hbl hbA a cA b cB o co w h hK _ _ _ _ _ _ _ _ _ _ _ _ _ _ _ _ _ _ _ _ _ hR t (by omega) kk9 _ _ _ hP hD hS hl)
      · exact lv_tableIn (off := 859) (tgt := 918) hx hb dL_law_59 (by omega) (by omega) (by rw [hv]; rfl) (by decide) (lw_c13 hl9 hL hx hb hml hown hts hA hZ hX hbl hbA a cA b cB o co w h hK _ _ _ _ _ _ _ _ _ _ _ _ _ _ _ _ _ _ _ _ _ hR t (by omega) kk9 _ _ _ hP hD hS hl)
      · exact lv_tableIn (off := 873) (tgt := 932) hx hb dL_law_59 (by omega) (by omega) (by rw [hv]; rfl) (by decide) (lw_c14 hl9 hL hx hb hml hown hts hA hZ hX hbl hbA a cA b cB o co w h hK _ _ _ _ _ _ _ _ _ _ _ _ _ _ _ _ _ _ _ _ _ hR t (by omega) kk9 _ _ _ hP hD hS hl)
      · exact lv_tableIn (off := 941) (tgt := 1000) hx hb dL_law_59 (by omega) (by omega) (by rw [hv]; rfl) (by decide) (lw_c15 hl9 hL hx hb hml hown hts hA hZ hX hbl hbA a cA b cB o co w h hK _ _ _ _ _ _ _ _ _ _ _ _ _ _ _ _ _ _ _ _ _ hR t (by omega) kk9 _ _ _ hP hD hS hl)
