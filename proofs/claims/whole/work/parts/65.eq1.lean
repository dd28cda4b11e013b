theorem ikM_eq {hk c u : Int} (h1 : hk = 0 ∨ hk = 1) (hc : 0 ≤ c) (h2 : c ≤ 0 → u = 0 ∨ ¬ hk = 0) : ikM hk c = if c ≤ 0 then mhF u hk else hk := by
  unfold ikM mhF
  by_cases q : c ≤ 0
  · have h3 := h2 q
    rw [if_pos q, if_pos (Or.inr (by omega))]
    split
    · rfl
    · omega
  · rw [if_neg q]
    split
    · omega
    · omega
section ERel
variable {w h : Nat} {wa ma ka li : Nat → Int} {hk sh : Int} {T : TK} {kd rd : Nat → Int} {dp : Nat → Nat → Int} {wn mn kn : Nat → Int} {ik so : Int} {ks rs lf : Nat → Int} {K : MK}
theorem e_put_a (hR : zRel w h wa ma ka li hk sh T kd rd dp wn mn kn ik so ks rs lf K) (x y v : Int) (hc : cod2 (plB w h x y) (isW v 0 1000) = 0) : ((if wa (y * (w : Int) + x).toNat = v then 0 else 1) : Int) = (if cod2 (plB w h x y) (isW v 0 1000) ≤ 0 ∧ ¬ wn (20 * y + x).toNat = v then 1 else 0) := by
  have hok := cod2_ok (p := plB w h x y) (q := isW v 0 1000) (by omega)
  have hp := plB_t.mp hok.1
  have he := hR.2.1.1.i hp.1 hp.2.1 hp.2.2.1 hp.2.2.2
  rw [he, hc]
  by_cases q : wa (y * (w : Int) + x).toNat = v
  · rw [if_pos q, if_neg (fun z => z.2 q)]
  · rw [if_neg q, if_pos ⟨Int.le_refl 0, q⟩]
theorem e_put_r (hR : zRel w h wa ma ka li hk sh T kd rd dp wn mn kn ik so ks rs lf K) (x y v : Int) : zRel w h (if cod2 (plB w h x y) (isW v 0 1000) ≤ 0 then uI wa (y * (w : Int) + x).toNat v else wa) ma ka li hk sh T kd rd dp (puM wn (20 * y + x).toNat v (cod2 (plB w h x y) (isW v 0 1000))) mn kn ik so ks rs lf K := by
  unfold puM
  by_cases q : cod2 (plB w h x y) (isW v 0 1000) ≤ 0
  · rw [if_pos q, if_pos q]
    have hok := cod2_ok (p := plB w h x y) (q := isW v 0 1000) q
    have hp := plB_t.mp hok.1
    have hv := isW_t.mp hok.2
    obtain ⟨hz, ⟨e1, e2, e3⟩, ⟨b1, b2, b3, b4⟩, ⟨c1, c2, c3, c4⟩, hr⟩ := hR
    exact ⟨hz, ⟨e1.set hz.1.2 hp.1 hp.2.1 hp.2.2.1 hp.2.2.2, e2, e3⟩, ⟨bd_uI b1 hv, b2, b3, b4⟩, ⟨bd_uI c1 hv, c2, c3, c4⟩, hr⟩
  · rw [if_neg q, if_neg q]
    exact hR
theorem e_stock_c (hR : zRel w h wa ma ka li hk sh T kd rd dp wn mn kn ik so ks rs lf K) (v : Int) : codS (isW v 1 1000) (gmF w wn h) v = codS (isW v 1 1000) (gwF wa (w * h)) v := by rw [z_gw hR.2.1.1]
theorem e_stock_a (hR : zRel w h wa ma ka li hk sh T kd rd dp wn mn kn ik so ks rs lf K) (v : Int) (hc : codS (isW v 1 1000) (gwF wa (w * h)) v = 0) : ((gwF wa (w * h)) : Int) = (if codS (isW v 1 1000) (gmF w wn h) v ≤ 0 then gmF w wn h else 0) := by rw [z_gw hR.2.1.1, if_pos (by omega)]
theorem e_stock_r (hR : zRel w h wa ma ka li hk sh T kd rd dp wn mn kn ik so ks rs lf K) (v : Int) : zRel w h wa (if codS (isW v 1 1000) (gwF wa (w * h)) v ≤ 0 then flF v (w * h) ma else ma) ka li hk (if codS (isW v 1 1000) (gwF wa (w * h)) v ≤ 0 then v else sh) T kd rd dp wn (if codS (isW v 1 1000) (gmF w wn h) v ≤ 0 then flF v 400 mn else mn) kn ik (if codS (isW v 1 1000) (gmF w wn h) v ≤ 0 then v else so) ks rs lf K := by
  rw [z_gw hR.2.1.1]
  by_cases q : codS (isW v 1 1000) (gwF wa (w * h)) v ≤ 0
  · rw [if_pos q, if_pos q, if_pos q, if_pos q]
    have hv := isW_t.mp (codS_ok q).1
    obtain ⟨hz, ⟨e1, e2, e3⟩, ⟨b1, b2, b3, b4⟩, ⟨c1, c2, c3, c4⟩, ⟨k1, k2⟩, hr1, hr2, hr3, hr4, hr5⟩ := hR
    exact ⟨hz, ⟨e1, z_fl hz.1.2 hz.2.2, e3⟩, ⟨b1, flF_rg b2 (by omega), b3, b4⟩, ⟨c1, flF_rg c2 (by omega), c3, c4⟩, ⟨k1, hv⟩, hr1, hr2, hr3, rfl, hr5⟩
  · rw [if_neg q, if_neg q, if_neg q, if_neg q]
    exact hR
theorem e_made_a (hR : zRel w h wa ma ka li hk sh T kd rd dp wn mn kn ik so ks rs lf K) (x y : Int) (hc : cod1 (plB w h x y) = 0) : ((ma (y * (w : Int) + x).toNat) : Int) = (if cod1 (plB w h x y) ≤ 0 then mn (20 * y + x).toNat else 0) := by
  rw [if_pos (by omega)]
  have hp := plB_t.mp (cod1_ok (p := plB w h x y) (by omega))
  exact (hR.2.1.2.1.i hp.1 hp.2.1 hp.2.2.1 hp.2.2.2).symm
theorem e_rest_a (hR : zRel w h wa ma ka li hk sh T kd rd dp wn mn kn ik so ks rs lf K) (v k : Int) (hc : cod1a (isW v 0 1000) (if -1 ≤ k then 1 else 0) = 0) : ((rsE k (rsF w ma wa v k h (0, -2))) : Int) = (if cod1a (isW v 0 1000) (if -1 ≤ k then 1 else 0) ≤ 0 then rsE k (rmF w mn wn v k h (0, -2)) else 0) := by
  rw [if_pos (Int.le_of_eq hc), z_rs hR.2.1.1 hR.2.1.2.1]
theorem e_below_a (hR : zRel w h wa ma ka li hk sh T kd rd dp wn mn kn ik so ks rs lf K) : ((belF ma wa (w * h)) : Int) = (bmF w mn wn h) := (z_bl hR.2.1.1 hR.2.1.2.1).symm
theorem e_sum_a (hR : zRel w h wa ma ka li hk sh T kd rd dp wn mn kn ik so ks rs lf K) : ((smF ma wa (w * h)) : Int) = (xmF w mn wn h) := (z_sm hR.2.1.1 hR.2.1.2.1).symm
theorem e_moves_a (hR : zRel w h wa ma ka li hk sh T kd rd dp wn mn kn ik so ks rs lf K) : ((T.2.1) : Int) = (K.2.2.1) := hR.2.2.2.2.2.1.2.2.1.1.symm
theorem e_way_a (hR : zRel w h wa ma ka li hk sh T kd rd dp wn mn kn ik so ks rs lf K) : ((T.2.2.1) : Int) = (K.2.2.2.1) := hR.2.2.2.2.2.1.2.2.1.2.1.symm
theorem e_move_c (hR : zRel w h wa ma ka li hk sh T kd rd dp wn mn kn ik so ks rs lf K) (k u : Int) : cod2 (if 0 ≤ k ∧ k < K.2.2.1 ∧ k < 2000 then 1 else 0) (isW u 0 2) = cod2 (if 0 ≤ k ∧ k < T.2.1 ∧ k < 2000 then 1 else 0) (isW u 0 2) := by rw [← e_moves_a hR]
theorem e_move_a (hR : zRel w h wa ma ka li hk sh T kd rd dp wn mn kn ik so ks rs lf K) (k u : Int) (hc : cod2 (if 0 ≤ k ∧ k < T.2.1 ∧ k < 2000 then 1 else 0) (isW u 0 2) = 0) : ((mvF T k u) : Int) = (if cod2 (if 0 ≤ k ∧ k < K.2.2.1 ∧ k < 2000 then 1 else 0) (isW u 0 2) ≤ 0 then K.2.1 (3 * k + u).toNat else 0) := by
  rw [e_move_c hR, if_pos (Int.le_of_eq hc)]
  have hok := cod2_ok (Int.le_of_eq hc)
  have hk1 : 0 ≤ k ∧ k < T.2.1 ∧ k < 2000 := by
    rcases Classical.em (0 ≤ k ∧ k < T.2.1 ∧ k < 2000) with q | q
    · exact q
    · exact absurd (if_neg q) hok.1
  have hu := isW_t.mp hok.2
  obtain ⟨n, rfl⟩ := Int.eq_ofNat_of_zero_le hk1.1
  obtain ⟨h1, h2, h3⟩ := hR.2.2.2.2.2.1.2.2.2 n hk1.2.1 (by have := hk1.2.2; omega)
  have h4 : u = 0 ∨ u = 1 ∨ u = 2 := by omega
  unfold mvF
  rw [Int.toNat_natCast, h3]
  rcases h4 with rfl | rfl | rfl
  · rw [if_pos rfl, show (3 * (n : Int) + 0).toNat = 3 * n from by omega]
    omega
  · rw [if_neg (by decide), if_pos rfl, show (3 * (n : Int) + 1).toNat = 3 * n + 1 from by omega]
    omega
  · rw [if_neg (by decide), if_neg (by decide), show (3 * (n : Int) + 2).toNat = 3 * n + 2 from by omega]
    omega
end ERel
/-! tools -/
theorem dOv_pf {kd r : Int} {d : Nat → Int} (h : tlOK kd r d) (dx dy : Int) : dOv d r dx dy = pfM kd r dx dy := by
  unfold dOv pfM
  split
  · rename_i q
    exact h dx dy q.1 q.2
  · rfl
theorem becR_at {kd r y : Int} {n i : Nat} {d : Nat → Int} (h : i < n) (hr : 0 ≤ r ∧ r ≤ 5) (hy : -5 ≤ y ∧ y ≤ 5) (hn : (n : Int) ≤ 2 * r + 1) : becR kd r n y d ((y + 5) * 11 + (-r + (i : Int)) + 5).toNat = das kd r ((-r + (i : Int)) * (-r + (i : Int)) + y * y) := by
  unfold becR
  induction n with
  | zero => omega
  | succ n ih =>
    show uI (itr _ n d) ((y + 5) * 11 + (-r + (n : Int)) + 5).toNat _ _ = _
    by_cases q : i = n
    · subst q
      exact uI_s
    · rw [uI_n (by omega)]
      exact ih (by omega) (by omega)
theorem becR_ne {kd r y : Int} {n p : Nat} {d : Nat → Int} (h : ∀ i : Nat, i < n → p ≠ ((y + 5) * 11 + (-r + (i : Int)) + 5).toNat) : becR kd r n y d p = d p := by
  unfold becR
  induction n with
  | zero => rfl
  | succ n ih =>
    show uI (itr _ n d) ((y + 5) * 11 + (-r + (n : Int)) + 5).toNat _ p = _
    rw [uI_n (h n (by omega))]
    exact ih (fun i hi => h i (by omega))
theorem becF_at {kd r : Int} {n k i j : Nat} {d : Nat → Int} (hj : j < k) (hi : i < n) (hr : 0 ≤ r ∧ r ≤ 5) (hn : (n : Int) ≤ 2 * r + 1) (hk : (k : Int) ≤ 2 * r + 1) : becF kd r n k d ((-r + (j : Int) + 5) * 11 + (-r + (i : Int)) + 5).toNat = das kd r ((-r + (i : Int)) * (-r + (i : Int)) + (-r + (j : Int)) * (-r + (j : Int))) := by
  unfold becF
  induction k with
  | zero => omega
  | succ k ih =>
    show becR kd r n (-r + (k : Int)) (itr _ k d) _ = _
    by_cases q : j = k
    · subst q
      exact becR_at hi hr (by omega) hn
    · rw [becR_ne (fun i' hi' => by omega)]
      exact ih (by omega) (by omega)
theorem becF_ok {kd r : Int} {d : Nat → Int} (hr : 0 ≤ r ∧ r ≤ 5) : tlOK kd r (becF kd r (2 * r + 1).toNat (2 * r + 1).toNat d) := by
  intro dx dy h1 h2
  have h3 := becF_at (kd := kd) (r := r) (n := (2 * r + 1).toNat) (k := (2 * r + 1).toNat) (i := (dx + r).toNat) (j := (dy + r).toNat) (d := d) (by omega) (by omega) hr (by omega) (by omega)
  rw [show -r + ((dx + r).toNat : Int) = dx from by omega, show -r + ((dy + r).toNat : Int) = dy from by omega] at h3
  exact h3
theorem becF_bd {kd r : Int} {n k : Nat} {d : Nat → Int} (hr : 0 ≤ r ∧ r ≤ 5) (hd : bd d (-1) 5) (hn : (n : Int) ≤ 2 * r + 1) (hk : (k : Int) ≤ 2 * r + 1) : bd (becF kd r n k d) (-1) 5 :=
  itr_inv (P := fun d => bd d (-1) 5) k hd (fun j t hj ht => itr_inv (P := fun d => bd d (-1) 5) n ht (fun i t hi ht => bd_uI ht (das_rg hr.1 hr.2 (by
    have h1 := z_sqm (a := -r + (i : Int)) (r := r) (by omega) (by omega) hr.2
    have h2 := z_sqm (a := -r + (j : Int)) (r := r) (by omega) (by omega) hr.2
    omega))))
/-- a lift over the table is the lift by the profile -/
theorem lf_lm {w h : Nat} {wa wn d : Nat → Int} {kd r x y : Int} (ht : tlOK kd r d) (e : eqP w h wn wa) (hr : 0 ≤ r ∧ r ≤ 5) (hwn : bd wn 0 1000) (hx : 0 ≤ x ∧ x < (w : Int)) (hy : 0 ≤ y ∧ y < (h : Int)) : lfF w h wa d r x y (nB h r y) = lmF w wn kd r x y (nB h r y) := by
  have h1 : lfF w h wa d r x y (nB h r y) = max (lmF w wn kd r x y (nB h r y)) 0 := by
    unfold lfF lmF
    refine itr_rel (R := fun a b => a = max b 0) _ (by decide) (fun j a b hj hab => ?_)
    unfold lfR lmR
    refine itr_rel (R := fun a b => a = max b 0) _ hab (fun i a b hi hab => ?_)
    have h2 := B_in hi hx.1 hx.2 hr.1
    have h3 := B_in hj hy.1 hy.2 hr.1
    have h4 := e.i (x := loB r x + (i : Int)) (y := loB r y + (j : Int)) (by omega) (by omega) (by omega) (by omega)
    have h5 := pfM_rg (kd := kd) (dx := loB r x + (i : Int) - x) (dy := loB r y + (j : Int) - y) hr.1 hr.2
    unfold lfS lmS
    rw [dOv_pf ht, h4]
    by_cases q : pfM kd r (loB r x + (i : Int) - x) (loB r y + (j : Int) - y) = -1
    · rw [if_pos q, if_neg (by omega)]
      exact hab
    · rw [if_neg q]
      split <;> omega
  have h2 := lmF_pos (kd := kd) hr hwn hx hy
  omega
section ERel
variable {w h : Nat} {wa ma ka li : Nat → Int} {hk sh : Int} {T : TK} {kd rd : Nat → Int} {dp : Nat → Nat → Int} {wn mn kn : Nat → Int} {ik so : Int} {ks rs lf : Nat → Int} {K : MK}
theorem zRel.tl (hR : zRel w h wa ma ka li hk sh T kd rd dp wn mn kn ik so ks rs lf K) {j : Nat} (hj : j < 4) : tlOK (ks j) (rs j) (dp j) := by rw [hR.2.2.2.2.2.2.2.2.2.1, hR.2.2.2.2.2.2.2.2.2.2]; exact (hR.2.2.2.2.2.2.1 j hj).2.2.2
theorem zRel.rr (hR : zRel w h wa ma ka li hk sh T kd rd dp wn mn kn ik so ks rs lf K) : rd = rs := hR.2.2.2.2.2.2.2.2.2.2.symm
theorem zRel.kk (hR : zRel w h wa ma ka li hk sh T kd rd dp wn mn kn ik so ks rs lf K) : kd = ks := hR.2.2.2.2.2.2.2.2.2.1.symm
theorem zRel.ss (hR : zRel w h wa ma ka li hk sh T kd rd dp wn mn kn ik so ks rs lf K) : sh = so := hR.2.2.2.2.2.2.2.2.1.symm
theorem e_tool_a (hR : zRel w h wa ma ka li hk sh T kd rd dp wn mn kn ik so ks rs lf K) (t k r : Int) (hc : cod3 (isW t 0 3) (isW k 0 2) (isW r 0 5) = 0) : ((if kd t.toNat = k ∧ rd t.toNat = r then 0 else 1) : Int) = (if cod3 (isW t 0 3) (isW k 0 2) (isW r 0 5) ≤ 0 ∧ ¬ (ks t.toNat = k ∧ rs t.toNat = r) then 1 else 0) := by
  rw [hc, hR.rr, hR.kk]
  by_cases q : ks t.toNat = k ∧ rs t.toNat = r
  · rw [if_pos q, if_neg (fun z => z.2 q)]
  · rw [if_neg q, if_pos ⟨Int.le_refl 0, q⟩]
theorem e_tool_r (hR : zRel w h wa ma ka li hk sh T kd rd dp wn mn kn ik so ks rs lf K) (t k r : Int) : zRel w h wa ma ka li hk sh T (if cod3 (isW t 0 3) (isW k 0 2) (isW r 0 5) ≤ 0 then uI kd t.toNat k else kd) (if cod3 (isW t 0 3) (isW k 0 2) (isW r 0 5) ≤ 0 then uI rd t.toNat r else rd) (if cod3 (isW t 0 3) (isW k 0 2) (isW r 0 5) ≤ 0 then dpU dp t.toNat (becF k r (2 * r + 1).toNat (2 * r + 1).toNat (dp t.toNat)) else dp) wn mn kn ik so (puM ks t.toNat k (cod3 (isW t 0 3) (isW k 0 2) (isW r 0 5))) (puM rs t.toNat r (cod3 (isW t 0 3) (isW k 0 2) (isW r 0 5))) lf K := by
  unfold puM
  by_cases q : cod3 (isW t 0 3) (isW k 0 2) (isW r 0 5) ≤ 0
  · rw [if_pos q, if_pos q, if_pos q, if_pos q, if_pos q]
    have hok := cod3_ok q
    have ht := isW_t.mp hok.1
    have hk := isW_t.mp hok.2.1
    have hr := isW_t.mp hok.2.2
    obtain ⟨h1, h2, h3, h4, h5, h6, h7, h8, h9, h10, h11⟩ := hR
    refine ⟨h1, h2, h3, h4, h5, h6, fun j hj => ?_, h8, h9, by rw [h10], by rw [h11]⟩
    by_cases e : j = t.toNat
    · subst e
      rw [uI_s, uI_s, show dpU dp t.toNat (becF k r (2 * r + 1).toNat (2 * r + 1).toNat (dp t.toNat)) t.toNat = becF k r (2 * r + 1).toNat (2 * r + 1).toNat (dp t.toNat) from if_pos rfl]
      exact ⟨hk, hr, becF_bd hr (h7 _ hj).2.2.1 (by omega) (by omega), becF_ok hr⟩
    · rw [uI_n e, uI_n e, show dpU dp t.toNat (becF k r (2 * r + 1).toNat (2 * r + 1).toNat (dp t.toNat)) j = dp j from if_neg e]
      exact h7 j hj
  · rw [if_neg q, if_neg q, if_neg q, if_neg q, if_neg q]
    exact hR
theorem e_profile_a (hR : zRel w h wa ma ka li hk sh T kd rd dp wn mn kn ik so ks rs lf K) (t x y : Int) (hc : cod1 (isW t 0 3) = 0) : ((dOv (dp t.toNat) (rd t.toNat) x y) : Int) = (if cod1 (isW t 0 3) ≤ 0 then pfM (ks t.toNat) (rs t.toNat) x y else 0) := by
  rw [if_pos (by omega), hR.rr]
  have ht := isW_t.mp (cod1_ok (p := isW t 0 3) (by omega))
  exact dOv_pf (hR.tl (by omega)) x y
theorem e_lift_a (hR : zRel w h wa ma ka li hk sh T kd rd dp wn mn kn ik so ks rs lf K) (x y t : Int) (hc : cod1a (plB w h x y) (isW t 0 3) = 0) : ((lfF w h wa (dp t.toNat) (rd t.toNat) x y (nB h (rd t.toNat) y)) : Int) = (if cod1a (plB w h x y) (isW t 0 3) ≤ 0 then lmF w wn (ks t.toNat) (rs t.toNat) x y (nB h (rs t.toNat) y) else 0) := by
  rw [if_pos (by omega), hR.rr]
  have hok := cod1a_ok (p := plB w h x y) (q := isW t 0 3) (by omega)
  have ht := isW_t.mp hok.2
  have hp := plB_t.mp hok.1
  exact lf_lm (hR.tl (by omega)) hR.2.1.1 (hR.hrs _ (by omega)) hR.hwn ⟨hp.1, hp.2.1⟩ hp.2.2
end ERel
theorem itr_cut {σ : Type} {f : Nat → σ → σ} {s : σ} {w n : Nat} (hw : w ≤ n) (h : ∀ i t, w ≤ i → i < n → f i t = t) : itr f n s = itr f w s := by
  induction n with
  | zero => rw [show w = 0 from by omega]
  | succ n ih =>
    by_cases q : w = n + 1
    · rw [q]
    · show f n (itr f n s) = _
      rw [h n _ (by omega) (by omega)]
      exact ih (by omega) (fun i t h1 h2 => h i t h1 (by omega))
theorem itr_front {σ : Type} {f : Nat → σ → σ} {s : σ} (n : Nat) : itr f (n + 1) s = itr (fun i => f (i + 1)) n (f 0 s) := by
  induction n with
  | zero => rfl
  | succ n ih =>
    show f (n + 1) (itr f (n + 1) s) = f (n + 1) (itr (fun i => f (i + 1)) n (f 0 s))
    rw [ih]
/-! merge -/
def rlS (w h : Nat) (a b : (Nat → Int) × Int) : Prop := eqP w h a.1 b.1 ∧ a.2 = b.2
theorem rlS_st {w h : Nat} {a b : (Nat → Int) × Int} {x y : Nat} {v : Int} (hw : w ≤ 20) (hx : x < w) (hy : y < h) (e : rlS w h a b) : rlS w h (stS (20 * y + x) v a) (stS (y * w + x) v b) := by
  have h1 := e.1 x y hx hy
  have h2 := e.1.set (x := (x : Int)) (y := (y : Int)) (v := v) hw (by omega) (by omega) (by omega) (by omega)
  rw [pxw, px20] at h2
  refine ⟨h2, ?_⟩
  show a.2 + (if a.1 (20 * y + x) = v then 0 else 1) = b.2 + (if b.1 (y * w + x) = v then 0 else 1)
  rw [h1, e.2]
theorem mo_mg {u b d v : Int} (hu : 1 ≤ u ∧ u ≤ 3) : moF u b d v = mgF u b d v := by
  unfold moF mgF
  have h1 : u = 1 ∨ u = 2 ∨ u = 3 := by omega
  rcases h1 with rfl | rfl | rfl
  · rw [if_pos rfl, if_pos rfl]; split <;> omega
  · rw [if_neg (show ¬ (2 : Int) = 1 from by decide), if_pos rfl, if_neg (show ¬ (2 : Int) = 1 from by decide), if_pos rfl]; split <;> omega
  · rw [if_neg (show ¬ (3 : Int) = 1 from by decide), if_neg (show ¬ (3 : Int) = 2 from by decide), if_pos rfl, if_neg (show ¬ (3 : Int) = 1 from by decide), if_neg (show ¬ (3 : Int) = 2 from by decide)]; (repeat' split) <;> omega
theorem mmF_0 {w h : Nat} {v : Int} {n : Nat} {wn kn : Nat → Int} : mmF w h 0 v n ((wn, 0), kn) = ((wn, 0), cpI wn kn n) := by
  unfold mmF
  induction n with
  | zero => rfl
  | succ n ih =>
    show mmS w h 0 v n (itr _ n _) = _
    rw [ih]
    unfold mmS
    have h1 : stS n (moF 0 (wn n) ((if (0 : Int) = 0 then uI (cpI wn kn n) n (wn n) else cpI wn kn n) n) v) (wn, 0) = (wn, 0) := by
      have h2 : moF 0 (wn n) ((if (0 : Int) = 0 then uI (cpI wn kn n) n (wn n) else cpI wn kn n) n) v = wn n := by
        unfold moF
        rw [if_neg (by decide), if_neg (by decide), if_neg (by decide)]
      rw [h2]
      unfold stS
      rw [uI_id, if_pos rfl]
      rfl
    have h3 : (if (0 : Int) = 0 then uI (cpI wn kn n) n (wn n) else cpI wn kn n) = cpI wn kn (n + 1) := by
      rw [if_pos rfl]
      funext j
      unfold cpI
      by_cases q : j = n
      · rw [q, uI_s, if_pos (by omega)]
      · rw [uI_n q]
        by_cases q2 : j < n
        · rw [if_pos q2, if_pos (by omega)]
        · rw [if_neg q2, if_neg (by omega)]
    show (if _ then stS n (moF 0 (wn n) ((if (0 : Int) = 0 then uI (cpI wn kn n) n (wn n) else cpI wn kn n) n) v) (wn, 0) else (wn, 0), (if (0 : Int) = 0 then uI (cpI wn kn n) n (wn n) else cpI wn kn n)) = _
    rw [h1, h3]
    split <;> rfl
theorem mmF_u {w h : Nat} {u v : Int} {wn kn wa ka : Nat → Int} (hw : w ≤ 20) (hh : h ≤ 20) (hu : 1 ≤ u ∧ u ≤ 3) (e : eqP w h wn wa) (ek : eqP w h kn ka) : rlS w h (mmF w h u v 400 ((wn, 0), kn)).1 (mgL ka u v (w * h) (wa, 0)) ∧ (mmF w h u v 400 ((wn, 0), kn)).2 = kn := by
  unfold mmF mgL
  rw [Nat.mul_comm w h, itr_flat, show (400 : Nat) = 20 * 20 from rfl, itr_flat]
  have hstep : ∀ i (t : ((Nat → Int) × Int) × (Nat → Int)), mmS w h u v i t = (if (i : Int) % 20 < (w : Int) ∧ (i : Int) / 20 < (h : Int) then stS i (moF u (t.1.1 i) (t.2 i) v) t.1 else t.1, t.2) := by
    intro i t
    unfold mmS
    rw [show (if u = 0 then uI t.2 i (t.1.1 i) else t.2) = t.2 from if_neg (by omega)]
  rw [itr_cut (w := h) hh (fun y t h1 h2 => by
    have h3 : itr (fun x s => mmS w h u v (y * 20 + x) s) 20 t = t := by
      refine itr_inv (P := fun q => q = t) 20 rfl (fun x q hx hq => ?_)
      rw [hstep, if_neg (by omega), hq]
    exact h3)]
  refine itr_rel (R := fun (a : ((Nat → Int) × Int) × (Nat → Int)) b => rlS w h a.1 b ∧ a.2 = kn) h ⟨⟨e, rfl⟩, rfl⟩ (fun y a b hy hab => ?_)
  rw [itr_cut (w := w) (n := 20) hw (fun x t h1 h2 => by rw [hstep, if_neg (by omega)])]
  refine itr_rel (R := fun (a : ((Nat → Int) × Int) × (Nat → Int)) b => rlS w h a.1 b ∧ a.2 = kn) w hab (fun x a b hx hab => ?_)
  rw [hstep, if_pos (by omega), show y * 20 + x = 20 * y + x from by omega]
  refine ⟨?_, hab.2⟩
  have h5 := hab.1.1 x y hx hy
  have h6 := ek x y hx hy
  show rlS w h (stS (20 * y + x) (moF u (a.1.1 (20 * y + x)) (a.2 (20 * y + x)) v) a.1) (stS (y * w + x) (mgF u (b.1 (y * w + x)) (ka (y * w + x)) v) b)
  rw [hab.2, h6, h5, mo_mg hu]
  exact rlS_st hw hx hy hab.1
theorem e_cp {w h : Nat} {wn kn wa ka : Nat → Int} (hw : w ≤ 20) (hh : h ≤ 20) (e : eqP w h wn wa) : eqP w h (cpI wn kn 400) (cpI wa ka (w * h)) := by
  intro x y hx hy
  unfold cpI
  rw [if_pos (by omega), if_pos (plt hx hy)]
  exact e x y hx hy
section ERel
variable {w h : Nat} {wa ma ka li : Nat → Int} {hk sh : Int} {T : TK} {kd rd : Nat → Int} {dp : Nat → Nat → Int} {wn mn kn : Nat → Int} {ik so : Int} {ks rs lf : Nat → Int} {K : MK}
theorem e_merge_c (hR : zRel w h wa ma ka li hk sh T kd rd dp wn mn kn ik so ks rs lf K) (u v : Int) : codM (isW u 0 3) (isW v 0 1000) u ik = codM (isW u 0 3) (isW v 0 1000) u hk := by rw [hR.2.2.2.2.2.2.2.1]
theorem e_merge_a (hR : zRel w h wa ma ka li hk sh T kd rd dp wn mn kn ik so ks rs lf K) (u v : Int) (hc : codM (isW u 0 3) (isW v 0 1000) u hk = 0) : ((mrF wa ka u v (w * h)) : Int) = (if codM (isW u 0 3) (isW v 0 1000) u ik ≤ 0 then (mmF w h u v 400 ((wn, 0), kn)).1.2 else 0) := by
  rw [e_merge_c hR, if_pos (by omega)]
  have hok := codM_ok (p := isW u 0 3) (q := isW v 0 1000) (u := u) (k := hk) (by omega)
  have hu := isW_t.mp hok.1
  unfold mrF
  by_cases q : u = 0
  · rw [if_pos q, q, mmF_0]
  · rw [if_neg q]
    exact (mmF_u hR.hw.2 hR.hh.2 (by omega) hR.2.1.1 hR.2.1.2.2).1.2.symm
theorem e_merge_r (hR : zRel w h wa ma ka li hk sh T kd rd dp wn mn kn ik so ks rs lf K) (u v : Int) : zRel w h (if codM (isW u 0 3) (isW v 0 1000) u hk ≤ 0 then mwF wa ka u v (w * h) else wa) ma (if codM (isW u 0 3) (isW v 0 1000) u hk ≤ 0 then mkF wa ka u (w * h) else ka) li (if codM (isW u 0 3) (isW v 0 1000) u hk ≤ 0 then mhF u hk else hk) sh T kd rd dp (if codM (isW u 0 3) (isW v 0 1000) u ik ≤ 0 then (mmF w h u v 400 ((wn, 0), kn)).1.1 else wn) mn (if codM (isW u 0 3) (isW v 0 1000) u ik ≤ 0 then (mmF w h u v 400 ((wn, 0), kn)).2 else kn) (ikM ik (codM (isW u 0 3) (isW v 0 1000) u ik)) so ks rs lf K := by
  rw [e_merge_c hR]
  have hik := ikM_eq (hk := hk) (c := codM (isW u 0 3) (isW v 0 1000) u hk) (u := u) hR.hk01 (codM_rg _ _ _ _).1 (fun q => by
    have hok := codM_ok q
    have hu := isW_t.mp hok.1
    have := hok.2.2
    omega)
  rw [show ik = hk from hR.2.2.2.2.2.2.2.1, hik]
  by_cases q : codM (isW u 0 3) (isW v 0 1000) u hk ≤ 0
  · rw [if_pos q, if_pos q, if_pos q, if_pos q, if_pos q]
    have hok := codM_ok q
    have hu := isW_t.mp hok.1
    have hv := isW_t.mp hok.2.1
    have hhk := hR.hk01
    have hm01 : mhF u hk = 0 ∨ mhF u hk = 1 := by unfold mhF; split <;> omega
    obtain ⟨hz, ⟨e1, e2, e3⟩, ⟨b1, b2, b3, b4⟩, ⟨c1, c2, c3, c4⟩, ⟨k1, k2⟩, h6, h7, h8, h9⟩ := hR
    have hmm := mmF_ok (w := w) (h := h) (u := u) (v := v) (n := 400) (s := ((wn, 0), kn)) c1 ⟨Int.le_refl 0, Int.le_refl 0⟩ c3
    have hE : eqP w h (mmF w h u v 400 ((wn, 0), kn)).1.1 (mwF wa ka u v (w * h)) ∧ eqP w h (mmF w h u v 400 ((wn, 0), kn)).2 (mkF wa ka u (w * h)) := by
      unfold mwF mkF
      by_cases q0 : u = 0
      · rw [if_pos q0, if_pos q0, q0, mmF_0]
        exact ⟨e1, e_cp hz.1.2 hz.2.2 e1⟩
      · rw [if_neg q0, if_neg q0]
        have h5 := mmF_u (v := v) hz.1.2 hz.2.2 (u := u) (by omega) e1 e3
        exact ⟨h5.1.1, by rw [h5.2]; exact e3⟩
    have hB1 : bd (mwF wa ka u v (w * h)) 0 1000 := by
      unfold mwF
      split
      · exact b1
      · exact (mgL_ok (u := u) (v := v) (n := w * h) (s := (wa, 0)) b3 b1 ⟨Int.le_refl 0, Int.le_refl 0⟩).1
    have hB2 : bd (mkF wa ka u (w * h)) 0 1000 := by
      unfold mkF
      split
      · exact cpI_rg b1 b3
      · exact b3
    exact ⟨hz, ⟨hE.1, e2, hE.2⟩, ⟨hB1, b2, hB2, b4⟩, ⟨hmm.1.1, c2, hmm.2, c4⟩, ⟨hm01, k2⟩, h6, h7, rfl, h9⟩
  · rw [if_neg q, if_neg q, if_neg q, if_neg q, if_neg q]
    obtain ⟨h1, h2, h3, h4, h5, h6, h7, h8, h9⟩ := hR
    exact ⟨h1, h2, h3, h4, h5, h6, h7, rfl, h9⟩
end ERel
/-! repeat: the pattern stands for itself, so both orders give the same -/
theorem sum_add {c : Nat → Int} {n : Nat} {a b : Int} : itr (fun i s => s + c i) n (a + b) = a + itr (fun i s => s + c i) n b := by
  induction n with
  | zero => rfl
  | succ n ih => show itr _ n (a + b) + c n = a + (itr _ n b + c n); rw [ih]; omega
theorem sum_rev {n : Nat} : ∀ {c : Nat → Int} {s : Int}, itr (fun i s => s + c (n - 1 - i)) n s = itr (fun i s => s + c i) n s := by
  induction n with
  | zero => intro c s; rfl
  | succ n ih =>
    intro c s
    rw [itr_front]
    have h1 : itr (fun i s => s + c (n + 1 - 1 - (i + 1))) n (s + c (n + 1 - 1 - 0)) = itr (fun i s => s + c (n - 1 - i)) n (c n + s) := by
      rw [show s + c (n + 1 - 1 - 0) = c n + s from by rw [show n + 1 - 1 - 0 = n from by omega]; omega]
      exact itr_congr n (fun i t _ => by rw [show n + 1 - 1 - (i + 1) = n - 1 - i from by omega])
    rw [h1, ih, sum_add]
    show c n + itr (fun i s => s + c i) n s = itr (fun i s => s + c i) n s + c n
    omega
/-- repeat over any order of columns and rows: q is where a place lies -/
def gR (q : Nat → Nat → Nat) (k : Nat → Nat) (dx dy J n : Nat) (s : (Nat → Int) × Int) : (Nat → Int) × Int := itr (fun i s => stS (q (k i) J) (s.1 (q (k i % dx) (J % dy))) s) n s
def gF (q : Nat → Nat → Nat) (k r : Nat → Nat) (w dx dy n : Nat) (s : (Nat → Int) × Int) : (Nat → Int) × Int := itr (fun j s => gR q k dx dy (r j) w s) n s
def ne1 (a b : Int) : Int := if a = b then 0 else 1
def inj2 (w h : Nat) (q : Nat → Nat → Nat) : Prop := ∀ x y a b : Nat, x < w → y < h → a < w → b < h → q x y = q a b → x = a ∧ y = b
def perm1 (w : Nat) (k : Nat → Nat) : Prop := (∀ i, i < w → k i < w) ∧ (∀ i j, i < w → j < w → k i = k j → i = j) ∧ ∀ x, x < w → ∃ i, i < w ∧ k i = x
def pat (w h dx dy : Nat) (q : Nat → Nat → Nat) (f0 f : Nat → Int) : Prop := ∀ a b : Nat, a < w → b < h → a < dx → b < dy → f (q a b) = f0 (q a b)
theorem gR_ok {w h dx dy J n : Nat} {q : Nat → Nat → Nat} {k : Nat → Nat} {f0 : Nat → Int} {s : (Nat → Int) × Int} (hq : inj2 w h q) (hk : perm1 w k) (hdx : 0 < dx) (hdy : 0 < dy) (hJ : J < h) (hn : n ≤ w) (hp : pat w h dx dy q f0 s.1) (hu : ∀ x, x < w → s.1 (q x J) = f0 (q x J)) :
    (∀ i, i < n → (gR q k dx dy J n s).1 (q (k i) J) = f0 (q (k i % dx) (J % dy))) ∧ (∀ x, x < w → (∀ i, i < n → k i ≠ x) → (gR q k dx dy J n s).1 (q x J) = f0 (q x J)) ∧ (∀ x y, x < w → y < h → y ≠ J → (gR q k dx dy J n s).1 (q x y) = s.1 (q x y)) ∧ (gR q k dx dy J n s).2 = itr (fun i t => t + ne1 (f0 (q (k i) J)) (f0 (q (k i % dx) (J % dy)))) n s.2 ∧ pat w h dx dy q f0 (gR q k dx dy J n s).1 := by
  induction n with
  | zero => exact ⟨fun i hi => absurd hi (by omega), fun x hx _ => hu x hx, fun _ _ _ _ _ => rfl, rfl, hp⟩
  | succ n ih =>
    obtain ⟨h1, h2, h3, h4, h5⟩ := ih (by omega)
    have hkn := hk.1 n (by omega)
    have hm1 : k n % dx < w := Nat.lt_of_le_of_lt (Nat.mod_le _ _) hkn
    have hm2 : J % dy < h := Nat.lt_of_le_of_lt (Nat.mod_le _ _) hJ
    have hv : (gR q k dx dy J n s).1 (q (k n % dx) (J % dy)) = f0 (q (k n % dx) (J % dy)) := h5 _ _ hm1 hm2 (Nat.mod_lt _ hdx) (Nat.mod_lt _ hdy)
    have hw : (gR q k dx dy J n s).1 (q (k n) J) = f0 (q (k n) J) := h2 _ hkn (fun i hi e => by have := hk.2.1 i n (by omega) (by omega) e; omega)
    have he : gR q k dx dy J (n + 1) s = (uI (gR q k dx dy J n s).1 (q (k n) J) (f0 (q (k n % dx) (J % dy))), (gR q k dx dy J n s).2 + ne1 (f0 (q (k n) J)) (f0 (q (k n % dx) (J % dy)))) := by
      show stS (q (k n) J) ((gR q k dx dy J n s).1 (q (k n % dx) (J % dy))) (gR q k dx dy J n s) = _
      rw [hv]
      unfold stS ne1
      rw [hw]
    rw [he]
    refine ⟨fun i hi => ?_, fun x hx hne => ?_, fun x y hx hy hyJ => ?_, ?_, fun a b ha hb hadx hbdy => ?_⟩
    · by_cases e : i = n
      · rw [e]; exact uI_s
      · show uI _ (q (k n) J) _ (q (k i) J) = _
        rw [uI_n (fun z => e (hk.2.1 i n (by omega) (by omega) (hq _ _ _ _ (hk.1 i (by omega)) hJ hkn hJ z).1))]
        exact h1 i (by omega)
    · show uI _ (q (k n) J) _ (q x J) = _
      rw [uI_n (fun z => hne n (by omega) (hq _ _ _ _ hx hJ hkn hJ z).1.symm)]
      exact h2 x hx (fun i hi => hne i (by omega))
    · show uI _ (q (k n) J) _ (q x y) = _
      rw [uI_n (fun z => hyJ (hq _ _ _ _ hx hy hkn hJ z).2)]
      exact h3 x y hx hy hyJ
    · show (gR q k dx dy J n s).2 + _ = itr _ n s.2 + _
      rw [h4]
    · show uI _ (q (k n) J) _ (q a b) = _
      by_cases e : q a b = q (k n) J
      · obtain ⟨rfl, rfl⟩ := hq _ _ _ _ ha hb hkn hJ e
        rw [uI_s, Nat.mod_eq_of_lt hadx, Nat.mod_eq_of_lt hbdy]
      · rw [uI_n e]
        exact h5 a b ha hb hadx hbdy
theorem gF_ok {w h dx dy n : Nat} {q : Nat → Nat → Nat} {k r : Nat → Nat} {f0 : Nat → Int} (hq : inj2 w h q) (hk : perm1 w k) (hr : perm1 h r) (hdx : 0 < dx) (hdy : 0 < dy) (hn : n ≤ h) :
    (∀ j x, j < n → x < w → (gF q k r w dx dy n (f0, 0)).1 (q x (r j)) = f0 (q (x % dx) (r j % dy))) ∧ (∀ x y, x < w → y < h → (∀ j, j < n → r j ≠ y) → (gF q k r w dx dy n (f0, 0)).1 (q x y) = f0 (q x y)) ∧ (gF q k r w dx dy n (f0, 0)).2 = itr (fun j t => itr (fun i t => t + ne1 (f0 (q (k i) (r j))) (f0 (q (k i % dx) (r j % dy)))) w t) n 0 ∧ pat w h dx dy q f0 (gF q k r w dx dy n (f0, 0)).1 := by
  induction n with
  | zero => exact ⟨fun j x hj => absurd hj (by omega), fun _ _ _ _ _ => rfl, rfl, fun _ _ _ _ _ _ => rfl⟩
  | succ n ih =>
    obtain ⟨h1, h2, h3, h4⟩ := ih (by omega)
    have hrn := hr.1 n (by omega)
    obtain ⟨g1, g2, g3, g4, g5⟩ := gR_ok (n := w) (f0 := f0) (s := gF q k r w dx dy n (f0, 0)) hq hk hdx hdy hrn (Nat.le_refl w) h4 (fun x hx => h2 x _ hx hrn (fun j hj e => by have := hr.2.1 j n (by omega) (by omega) e; omega))
    have he : gF q k r w dx dy (n + 1) (f0, 0) = gR q k dx dy (r n) w (gF q k r w dx dy n (f0, 0)) := rfl
    rw [he]
    refine ⟨fun j x hj hx => ?_, fun x y hx hy hne => ?_, ?_, g5⟩
    · by_cases e : j = n
      · rw [e]
        obtain ⟨i, hi, rfl⟩ := hk.2.2 x hx
        exact g1 i hi
      · rw [g3 x (r j) hx (hr.1 j (by omega)) (fun z => e (hr.2.1 j n (by omega) (by omega) z))]
        exact h1 j x (by omega) hx
    · rw [g3 x y hx hy (fun z => hne n (by omega) z.symm)]
      exact h2 x y hx hy (fun j hj => hne j (by omega))
    · rw [g4, h3]
      rfl
theorem gF_all {w h dx dy : Nat} {q : Nat → Nat → Nat} {k r : Nat → Nat} {f0 : Nat → Int} (hq : inj2 w h q) (hk : perm1 w k) (hr : perm1 h r) (hdx : 0 < dx) (hdy : 0 < dy) {x y : Nat} (hx : x < w) (hy : y < h) : (gF q k r w dx dy h (f0, 0)).1 (q x y) = f0 (q (x % dx) (y % dy)) := by
  obtain ⟨j, hj, rfl⟩ := hr.2.2 y hy
  exact (gF_ok hq hk hr hdx hdy (Nat.le_refl h)).1 j x hj hx
def rv (w i : Nat) : Nat := w - 1 - i
theorem perm_id (w : Nat) : perm1 w (fun i => i) := ⟨fun _ h => h, fun _ _ _ _ h => h, fun x h => ⟨x, h, rfl⟩⟩
theorem perm_rv (w : Nat) : perm1 w (rv w) := ⟨fun i h => by unfold rv; omega, fun i j h1 h2 h => by unfold rv at h; omega, fun x h => ⟨w - 1 - x, by omega, by unfold rv; omega⟩⟩
theorem inj_c (w h : Nat) : inj2 w h (fun x y => y * w + x) := fun x y a b hx _ ha _ e => by have := pinj hx ha e; exact ⟨this.2, this.1⟩
theorem inj_m {w h : Nat} (hw : w ≤ 20) : inj2 w h (fun x y => 20 * y + x) := fun x y a b hx _ ha _ e => by dsimp only at e; omega
theorem rpF_g {w h n DX DY : Nat} {s : (Nat → Int) × Int} : rpF w (DX : Int) (DY : Int) n s = gF (fun x y => y * w + x) (fun i => i) (fun i => i) w DX DY n s := by
  unfold rpF gF
  refine itr_congr n (fun j t hj => ?_)
  unfold rpR gR
  refine itr_congr w (fun i t hi => ?_)
  rw [pxw, ← Int.natCast_emod, ← Int.natCast_emod, pxw]
theorem qmF_g {w h DX DY : Nat} {s : (Nat → Int) × Int} : qmF w h (DX : Int) (DY : Int) h s = gF (fun x y => 20 * y + x) (rv w) (rv h) w DX DY h s := by
  unfold qmF gF
  refine itr_congr h (fun j t hj => ?_)
  unfold qmR gR
  refine itr_congr w (fun i t hi => ?_)
  have h1 : (h : Int) - 1 - (j : Int) = ((rv h j : Nat) : Int) := by unfold rv; omega
  have h2 : (w : Int) - 1 - (i : Int) = ((rv w i : Nat) : Int) := by unfold rv; omega
  rw [h1, h2, px20, ← Int.natCast_emod, ← Int.natCast_emod, px20]
theorem sum2_row {c : Nat → Nat → Int} {w h : Nat} : itr (fun j t => itr (fun i t => t + c i j) w t) h 0 = itr (fun j t => t + itr (fun i t => t + c i j) w 0) h 0 := by
  refine itr_congr h (fun j t _ => ?_)
  have := sum_add (c := fun i => c i j) (n := w) (a := t) (b := 0)
  rw [Int.add_zero] at this
  exact this
theorem sum2_rev {c : Nat → Nat → Int} {w h : Nat} : itr (fun j t => itr (fun i t => t + c (rv w i) (rv h j)) w t) h 0 = itr (fun j t => itr (fun i t => t + c i j) w t) h 0 := by
  rw [sum2_row (c := fun i j => c (rv w i) (rv h j)), sum2_row]
  have h1 : ∀ j, itr (fun i t => t + c (rv w i) (rv h j)) w 0 = itr (fun i t => t + c i (rv h j)) w 0 := fun j => sum_rev (c := fun i => c i (rv h j))
  rw [show (fun j t => t + itr (fun i t => t + c (rv w i) (rv h j)) w 0) = (fun j (t : Int) => t + itr (fun i t => t + c i (rv h j)) w 0) from by funext j t; rw [h1]]
  exact sum_rev (c := fun j => itr (fun i t => t + c i j) w 0)
theorem rp_qm {w h DX DY : Nat} {wa wn : Nat → Int} (hw : w ≤ 20) (hdx : 0 < DX) (hdy : 0 < DY) (e : eqP w h wn wa) : eqP w h (qmF w h (DX : Int) (DY : Int) h (wn, 0)).1 (rpF w (DX : Int) (DY : Int) h (wa, 0)).1 ∧ (rpF w (DX : Int) (DY : Int) h (wa, 0)).2 = (qmF w h (DX : Int) (DY : Int) h (wn, 0)).2 := by
  rw [rpF_g (h := h), qmF_g]
  have hs : ∀ x y, x < w → y < h → wn (20 * (y % DY) + x % DX) = wa (y % DY * w + x % DX) := fun x y hx hy => e _ _ (Nat.lt_of_le_of_lt (Nat.mod_le _ _) hx) (Nat.lt_of_le_of_lt (Nat.mod_le _ _) hy)
  refine ⟨fun x y hx hy => ?_, ?_⟩
  · have h1 := gF_all (f0 := wn) (inj_m (h := h) hw) (perm_rv w) (perm_rv h) hdx hdy hx hy
    have h2 := gF_all (f0 := wa) (inj_c w h) (perm_id w) (perm_id h) hdx hdy hx hy
    exact h1.trans ((hs x y hx hy).trans h2.symm)
  · rw [(gF_ok (f0 := wn) (inj_m (h := h) hw) (perm_rv w) (perm_rv h) hdx hdy (Nat.le_refl h)).2.2.1, (gF_ok (f0 := wa) (inj_c w h) (perm_id w) (perm_id h) hdx hdy (Nat.le_refl h)).2.2.1]
    rw [sum2_rev (c := fun i j => ne1 (wn (20 * j + i)) (wn (20 * (j % DY) + i % DX)))]
    refine itr_congr h (fun y t hy => itr_congr w (fun x t hx => ?_))
    rw [e x y hx hy, hs x y hx hy]
section ERel
variable {w h : Nat} {wa ma ka li : Nat → Int} {hk sh : Int} {T : TK} {kd rd : Nat → Int} {dp : Nat → Nat → Int} {wn mn kn : Nat → Int} {ik so : Int} {ks rs lf : Nat → Int} {K : MK}
theorem e_repeat_a (hR : zRel w h wa ma ka li hk sh T kd rd dp wn mn kn ik so ks rs lf K) (dx dy : Int) (hc : cod1a (isW dx 1 20) (isW dy 1 20) = 0) : (((rpF w dx dy h (wa, 0)).2) : Int) = (if cod1a (isW dx 1 20) (isW dy 1 20) ≤ 0 then (qmF w h dx dy h (wn, 0)).2 else 0) := by
  rw [if_pos (by omega)]
  have hok := cod1a_ok (p := isW dx 1 20) (q := isW dy 1 20) (by omega)
  have h1 := isW_t.mp hok.1
  have h2 := isW_t.mp hok.2
  obtain ⟨a, rfl⟩ := Int.eq_ofNat_of_zero_le (show 0 ≤ dx by omega)
  obtain ⟨b, rfl⟩ := Int.eq_ofNat_of_zero_le (show 0 ≤ dy by omega)
  exact (rp_qm hR.hw.2 (by omega) (by omega) hR.2.1.1).2
theorem e_repeat_r (hR : zRel w h wa ma ka li hk sh T kd rd dp wn mn kn ik so ks rs lf K) (dx dy : Int) : zRel w h (if cod1a (isW dx 1 20) (isW dy 1 20) ≤ 0 then (rpF w dx dy h (wa, 0)).1 else wa) ma ka li hk sh T kd rd dp (if cod1a (isW dx 1 20) (isW dy 1 20) ≤ 0 then (qmF w h dx dy h (wn, 0)).1 else wn) mn kn ik so ks rs lf K := by
  by_cases q : cod1a (isW dx 1 20) (isW dy 1 20) ≤ 0
  · rw [if_pos q, if_pos q]
    have hok := cod1a_ok q
    have h1 := isW_t.mp hok.1
    have h2 := isW_t.mp hok.2
    obtain ⟨a, rfl⟩ := Int.eq_ofNat_of_zero_le (show 0 ≤ dx by omega)
    obtain ⟨b, rfl⟩ := Int.eq_ofNat_of_zero_le (show 0 ≤ dy by omega)
    have hE := (rp_qm hR.hw.2 (DX := a) (DY := b) (by omega) (by omega) hR.2.1.1).1
    obtain ⟨hz, ⟨e1, e2, e3⟩, ⟨b1, b2, b3, b4⟩, ⟨c1, c2, c3, c4⟩, hr⟩ := hR
    exact ⟨hz, ⟨hE, e2, e3⟩, ⟨(rpF_ok (s := (wa, 0)) hz.1.2 b1 ⟨Int.le_refl 0, Int.le_refl 0⟩).1, b2, b3, b4⟩, ⟨(qmF_ok (s := (wn, 0)) hz.1.2 c1 ⟨Int.le_refl 0, Int.le_refl 0⟩).1, c2, c3, c4⟩, hr⟩
  · rw [if_neg q, if_neg q]
    exact hR
end ERel
