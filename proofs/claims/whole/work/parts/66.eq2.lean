/-! what a pass takes off: a number is not above a made height -/
theorem itr_le {σ : Type} {f : Nat → σ → σ} {g : σ → Int} {P : Nat → Int → Prop} (n : Nat) (hs : ∀ i s, i < n → ∀ c, c ≤ g (f i s) ↔ (c ≤ g s ∧ P i c)) (s : σ) (c : Int) : c ≤ g (itr f n s) ↔ (c ≤ g s ∧ ∀ i, i < n → P i c) := by
  induction n with
  | zero => exact ⟨fun h => ⟨h, fun i hi => absurd hi (by omega)⟩, fun h => h.1⟩
  | succ n ih =>
    have h1 := ih (fun i s hi => hs i s (by omega))
    have h2 := hs n (itr f n s) (by omega) c
    refine ⟨fun h => ?_, fun h => h2.mpr ⟨h1.mpr ⟨h.1, fun i hi => h.2 i (by omega)⟩, h.2 n (by omega)⟩⟩
    have h3 := h2.mp h
    have h4 := h1.mp h3.1
    refine ⟨h4.1, fun i hi => ?_⟩
    by_cases e : i = n
    · rw [e]; exact h3.2
    · exact h4.2 i (by omega)
theorem eq_of_le {a b : Int} (h : ∀ c, c ≤ a ↔ c ≤ b) : a = b := Int.le_antisymm ((h a).mp (Int.le_refl a)) ((h b).mpr (Int.le_refl b))
/-- a tip at i, j, of height z, over the place X, Y -/
def cst (kd r X Y i j z c : Int) : Prop := 0 ≤ pfM kd r (X - i) (Y - j) → c ≤ z + pfM kd r (X - i) (Y - j)
theorem pf_in {kd r dx dy : Int} (h : 0 ≤ pfM kd r dx dy) : (-r ≤ dx ∧ dx ≤ r) ∧ (-r ≤ dy ∧ dy ≤ r) := by
  unfold pfM at h
  split at h
  · rename_i q; exact q
  · omega
theorem cvS_le {w p : Nat} {d ma : Nat → Int} {r x y z px py : Int} (c : Int) : c ≤ cvS w d r x y z px py ma p ↔ (c ≤ ma p ∧ (p = (py * (w : Int) + px).toNat → ¬ dOv d r (px - x) (py - y) = -1 → c ≤ z + dOv d r (px - x) (py - y))) := by
  unfold cvS
  by_cases q : dOv d r (px - x) (py - y) = -1
  · rw [if_pos q]
    exact ⟨fun h => ⟨h, fun _ h2 => absurd q h2⟩, fun h => h.1⟩
  · rw [if_neg q]
    by_cases e : p = (py * (w : Int) + px).toNat
    · subst e
      by_cases q2 : z + dOv d r (px - x) (py - y) < ma (py * (w : Int) + px).toNat
      · rw [if_pos q2, uI_s]
        exact ⟨fun h => ⟨by omega, fun _ _ => h⟩, fun h => h.2 rfl q⟩
      · rw [if_neg q2]
        exact ⟨fun h => ⟨h, fun _ _ => by omega⟩, fun h => h.1⟩
    · have h1 : (if z + dOv d r (px - x) (py - y) < ma (py * (w : Int) + px).toNat then uI ma (py * (w : Int) + px).toNat (z + dOv d r (px - x) (py - y)) else ma) p = ma p := by
        split
        · exact uI_n e
        · rfl
      rw [h1]
      exact ⟨fun h => ⟨h, fun h2 => absurd h2 e⟩, fun h => h.1⟩
theorem cvF_le {w h X Y : Nat} {d ma : Nat → Int} {kd r x y z : Int} (ht : tlOK kd r d) (hr : 0 ≤ r ∧ r ≤ 5) (hx : 0 ≤ x ∧ x < (w : Int)) (hy : 0 ≤ y ∧ y < (h : Int)) (hX : X < w) (hY : Y < h) (c : Int) : c ≤ cvF w h d r x y z (nB h r y) ma (Y * w + X) ↔ (c ≤ ma (Y * w + X) ∧ cst kd r X Y x y z c) := by
  unfold cvF
  rw [itr_le (g := fun m : Nat → Int => m (Y * w + X)) (P := fun j c => ∀ i : Nat, i < nB w r x → Y * w + X = ((loB r y + (j : Int)) * (w : Int) + (loB r x + (i : Int))).toNat → ¬ dOv d r (loB r x + (i : Int) - x) (loB r y + (j : Int) - y) = -1 → c ≤ z + dOv d r (loB r x + (i : Int) - x) (loB r y + (j : Int) - y)) (nB h r y) (fun j m hj c => by
    unfold cvR
    exact itr_le (g := fun m : Nat → Int => m (Y * w + X)) (P := fun i c => Y * w + X = ((loB r y + (j : Int)) * (w : Int) + (loB r x + (i : Int))).toNat → ¬ dOv d r (loB r x + (i : Int) - x) (loB r y + (j : Int) - y) = -1 → c ≤ z + dOv d r (loB r x + (i : Int) - x) (loB r y + (j : Int) - y)) (nB w r x) (fun i m hi c => cvS_le c) m c)]
  refine and_congr_right (fun _ => ⟨fun hq hp => ?_, fun hq j hj i hi he hn => ?_⟩)
  · have h1 := pf_in hp
    have h2 := hq (Y - loB r y).toNat (by unfold nB hiB loB; omega) (X - loB r x).toNat (by unfold nB hiB loB; omega)
    rw [show loB r x + (((X : Int) - loB r x).toNat : Int) = X from by unfold loB; omega, show loB r y + (((Y : Int) - loB r y).toNat : Int) = Y from by unfold loB; omega, dOv_pf ht] at h2
    exact h2 pxw.symm (by omega)
  · have h2 := B_in hi hx.1 hx.2 hr.1
    have h3 := B_in hj hy.1 hy.2 hr.1
    obtain ⟨a, ha⟩ := Int.eq_ofNat_of_zero_le (show 0 ≤ loB r x + (i : Int) by omega)
    obtain ⟨b, hb⟩ := Int.eq_ofNat_of_zero_le (show 0 ≤ loB r y + (j : Int) by omega)
    rw [ha, hb] at he hn ⊢
    rw [pxw] at he
    obtain ⟨rfl, rfl⟩ := pinj hX (by omega) he
    rw [dOv_pf ht] at hn ⊢
    have h5 := pfM_rg (kd := kd) (dx := (X : Int) - x) (dy := (Y : Int) - y) hr.1 hr.2
    exact hq (by omega)
theorem cmS_le {w h p : Nat} {tp mn : Nat → Int} {kd r x y ii jj : Int} (c : Int) : c ≤ cmS w h tp kd r x y ii jj mn p ↔ (c ≤ mn p ∧ (p = (20 * y + x).toNat → (0 ≤ ii ∧ ii < (w : Int) ∧ 0 ≤ jj ∧ jj < (h : Int)) → 0 ≤ tp (20 * jj + ii).toNat → cst kd r x y ii jj (tp (20 * jj + ii).toNat) c)) := by
  unfold cmS cst
  by_cases q : 0 ≤ pfM kd r (x - ii) (y - jj) ∧ (0 ≤ ii ∧ ii < (w : Int) ∧ 0 ≤ jj ∧ jj < (h : Int)) ∧ 0 ≤ tp (20 * jj + ii).toNat
  · rw [if_pos q]
    by_cases e : p = (20 * y + x).toNat
    · subst e
      rw [uI_s]
      by_cases q2 : tp (20 * jj + ii).toNat + pfM kd r (x - ii) (y - jj) < mn (20 * y + x).toNat
      · rw [if_pos q2]
        exact ⟨fun h => ⟨by omega, fun _ _ _ _ => h⟩, fun h => h.2 rfl q.2.1 q.2.2 q.1⟩
      · rw [if_neg q2]
        exact ⟨fun h => ⟨h, fun _ _ _ _ => by omega⟩, fun h => h.1⟩
    · rw [uI_n e]
      exact ⟨fun h => ⟨h, fun h2 => absurd h2 e⟩, fun h => h.1⟩
  · rw [if_neg q]
    exact ⟨fun h => ⟨h, fun _ h2 h3 h4 => absurd ⟨h4, h2, h3⟩ q⟩, fun h => h.1⟩
theorem cmF_le {w h X Y : Nat} {tp mn : Nat → Int} {kd r : Int} (hw : w ≤ 20) (hr : 0 ≤ r ∧ r ≤ 5) (hX : X < w) (hY : Y < h) (c : Int) : c ≤ cmF w h tp kd r h mn (20 * Y + X) ↔ (c ≤ mn (20 * Y + X) ∧ ∀ i j : Nat, i < w → j < h → 0 ≤ tp (20 * j + i) → cst kd r X Y i j (tp (20 * j + i)) c) := by
  unfold cmF
  rw [itr_le (g := fun m : Nat → Int => m (20 * Y + X)) (P := fun b c => ∀ a : Nat, a < w → ∀ j : Nat, j < (2 * r + 1).toNat → ∀ i : Nat, i < (2 * r + 1).toNat → 20 * Y + X = (20 * (b : Int) + (a : Int)).toNat → (0 ≤ (a : Int) - r + (i : Int) ∧ (a : Int) - r + (i : Int) < (w : Int) ∧ 0 ≤ (b : Int) - r + (j : Int) ∧ (b : Int) - r + (j : Int) < (h : Int)) → 0 ≤ tp (20 * ((b : Int) - r + (j : Int)) + ((a : Int) - r + (i : Int))).toNat → cst kd r a b ((a : Int) - r + (i : Int)) ((b : Int) - r + (j : Int)) (tp (20 * ((b : Int) - r + (j : Int)) + ((a : Int) - r + (i : Int))).toNat) c) h (fun b m hb c => by
    unfold cmX
    refine itr_le (g := fun m : Nat → Int => m (20 * Y + X)) (P := fun a c => ∀ j : Nat, j < (2 * r + 1).toNat → ∀ i : Nat, i < (2 * r + 1).toNat → 20 * Y + X = (20 * (b : Int) + (a : Int)).toNat → (0 ≤ (a : Int) - r + (i : Int) ∧ (a : Int) - r + (i : Int) < (w : Int) ∧ 0 ≤ (b : Int) - r + (j : Int) ∧ (b : Int) - r + (j : Int) < (h : Int)) → 0 ≤ tp (20 * ((b : Int) - r + (j : Int)) + ((a : Int) - r + (i : Int))).toNat → cst kd r a b ((a : Int) - r + (i : Int)) ((b : Int) - r + (j : Int)) (tp (20 * ((b : Int) - r + (j : Int)) + ((a : Int) - r + (i : Int))).toNat) c) w (fun a m ha c => ?_) m c
    unfold cmQ
    refine itr_le (g := fun m : Nat → Int => m (20 * Y + X)) (P := fun j c => ∀ i : Nat, i < (2 * r + 1).toNat → 20 * Y + X = (20 * (b : Int) + (a : Int)).toNat → (0 ≤ (a : Int) - r + (i : Int) ∧ (a : Int) - r + (i : Int) < (w : Int) ∧ 0 ≤ (b : Int) - r + (j : Int) ∧ (b : Int) - r + (j : Int) < (h : Int)) → 0 ≤ tp (20 * ((b : Int) - r + (j : Int)) + ((a : Int) - r + (i : Int))).toNat → cst kd r a b ((a : Int) - r + (i : Int)) ((b : Int) - r + (j : Int)) (tp (20 * ((b : Int) - r + (j : Int)) + ((a : Int) - r + (i : Int))).toNat) c) (2 * r + 1).toNat (fun j m hj c => ?_) m c
    unfold cmR
    exact itr_le (g := fun m : Nat → Int => m (20 * Y + X)) (P := fun i c => 20 * Y + X = (20 * (b : Int) + (a : Int)).toNat → (0 ≤ (a : Int) - r + (i : Int) ∧ (a : Int) - r + (i : Int) < (w : Int) ∧ 0 ≤ (b : Int) - r + (j : Int) ∧ (b : Int) - r + (j : Int) < (h : Int)) → 0 ≤ tp (20 * ((b : Int) - r + (j : Int)) + ((a : Int) - r + (i : Int))).toNat → cst kd r a b ((a : Int) - r + (i : Int)) ((b : Int) - r + (j : Int)) (tp (20 * ((b : Int) - r + (j : Int)) + ((a : Int) - r + (i : Int))).toNat) c) (2 * r + 1).toNat (fun i m hi c => cmS_le c) m c)]
  refine and_congr_right (fun _ => ⟨fun hq i j hi hj ht hp => ?_, fun hq b hb a ha j hj i hi he hpl ht => ?_⟩)
  · have h1 := pf_in hp
    have h2 := hq Y hY X hX ((j : Int) - (Y - r)).toNat (by omega) ((i : Int) - (X - r)).toNat (by omega) px20.symm
    rw [show (X : Int) - r + (((i : Int) - (X - r)).toNat : Int) = i from by omega, show (Y : Int) - r + (((j : Int) - (Y - r)).toNat : Int) = j from by omega, px20] at h2
    exact h2 (by omega) ht hp
  · rw [px20] at he
    have h4 : a = X ∧ b = Y := by omega
    obtain ⟨rfl, rfl⟩ := h4
    obtain ⟨i', hi'⟩ := Int.eq_ofNat_of_zero_le hpl.1
    obtain ⟨j', hj'⟩ := Int.eq_ofNat_of_zero_le hpl.2.2.1
    rw [hi', hj'] at ht hpl ⊢
    rw [px20] at ht ⊢
    exact hq i' j' (by omega) (by omega) ht
/-! the moves -/
theorem mv_add {T : TK} {K : MK} {x y z : Int} (h : mvOK T K) (h0 : 0 ≤ T.2.1) (hx : 0 ≤ x ∧ x < 20) (hy : 0 ≤ y ∧ y < 20) : mvOK (tkA x y z T) (mkA x y z K) := by
  obtain ⟨⟨e1, e2, e3, e4, e5⟩, hk⟩ := h
  refine ⟨⟨?_, ?_, rfl, rfl, rfl⟩, ?_⟩
  · show K.2.2.1 + 1 = T.2.1 + 1
    rw [e1]
  · show (if 0 < K.2.2.1 then K.2.2.2.1 + (zab (x - K.2.2.2.2.1) + zab (y - K.2.2.2.2.2.1) + zab (z - K.2.2.2.2.2.2)) else K.2.2.2.1) = (if 0 < T.2.1 then T.2.2.1 + (zab (x - T.2.2.2.1) + zab (y - T.2.2.2.2.1) + zab (z - T.2.2.2.2.2)) else T.2.2.1)
    rw [e1, e2, e3, e4, e5]
  · intro k h1 h2
    have h1 : (k : Int) < T.2.1 + 1 := h1
    show (0 ≤ (if K.2.2.1 < 2000 then uI (uI (uI K.2.1 (3 * K.2.2.1).toNat x) (3 * K.2.2.1 + 1).toNat y) (3 * K.2.2.1 + 2).toNat z else K.2.1) (3 * k) ∧ (if K.2.2.1 < 2000 then uI (uI (uI K.2.1 (3 * K.2.2.1).toNat x) (3 * K.2.2.1 + 1).toNat y) (3 * K.2.2.1 + 2).toNat z else K.2.1) (3 * k) < 20) ∧ (0 ≤ (if K.2.2.1 < 2000 then uI (uI (uI K.2.1 (3 * K.2.2.1).toNat x) (3 * K.2.2.1 + 1).toNat y) (3 * K.2.2.1 + 2).toNat z else K.2.1) (3 * k + 1) ∧ (if K.2.2.1 < 2000 then uI (uI (uI K.2.1 (3 * K.2.2.1).toNat x) (3 * K.2.2.1 + 1).toNat y) (3 * K.2.2.1 + 2).toNat z else K.2.1) (3 * k + 1) < 20) ∧ (if T.2.1 < 2000 then uI T.1 T.2.1.toNat ((z * 20 + y) * 20 + x) else T.1) k = ((if K.2.2.1 < 2000 then uI (uI (uI K.2.1 (3 * K.2.2.1).toNat x) (3 * K.2.2.1 + 1).toNat y) (3 * K.2.2.1 + 2).toNat z else K.2.1) (3 * k + 2) * 20 + (if K.2.2.1 < 2000 then uI (uI (uI K.2.1 (3 * K.2.2.1).toNat x) (3 * K.2.2.1 + 1).toNat y) (3 * K.2.2.1 + 2).toNat z else K.2.1) (3 * k + 1)) * 20 + (if K.2.2.1 < 2000 then uI (uI (uI K.2.1 (3 * K.2.2.1).toNat x) (3 * K.2.2.1 + 1).toNat y) (3 * K.2.2.1 + 2).toNat z else K.2.1) (3 * k)
    rw [e1]
    by_cases q : T.2.1 < 2000
    · rw [if_pos q, if_pos q]
      by_cases e : (k : Int) = T.2.1
      · have a1 : T.2.1.toNat = k := by omega
        have a2 : (3 * T.2.1).toNat = 3 * k := by omega
        have a3 : (3 * T.2.1 + 1).toNat = 3 * k + 1 := by omega
        have a4 : (3 * T.2.1 + 2).toNat = 3 * k + 2 := by omega
        rw [a1, a2, a3, a4, uI_s, uI_s, uI_n (show 3 * k ≠ 3 * k + 2 by omega), uI_n (show 3 * k ≠ 3 * k + 1 by omega), uI_s, uI_n (show 3 * k + 1 ≠ 3 * k + 2 by omega), uI_s]
        exact ⟨hx, hy, rfl⟩
      · rw [uI_n (show k ≠ T.2.1.toNat by omega), uI_n (show 3 * k ≠ (3 * T.2.1 + 2).toNat by omega), uI_n (show 3 * k ≠ (3 * T.2.1 + 1).toNat by omega), uI_n (show 3 * k ≠ (3 * T.2.1).toNat by omega), uI_n (show 3 * k + 1 ≠ (3 * T.2.1 + 2).toNat by omega), uI_n (show 3 * k + 1 ≠ (3 * T.2.1 + 1).toNat by omega), uI_n (show 3 * k + 1 ≠ (3 * T.2.1).toNat by omega), uI_n (show 3 * k + 2 ≠ (3 * T.2.1 + 2).toNat by omega), uI_n (show 3 * k + 2 ≠ (3 * T.2.1 + 1).toNat by omega), uI_n (show 3 * k + 2 ≠ (3 * T.2.1).toNat by omega)]
        exact hk k (by omega) h2
    · rw [if_neg q, if_neg q]
      exact hk k (by omega) h2
theorem mv_new {T : TK} {K : MK} (h : mvOK T K) : mvOK (tkC T) (mkB K) := ⟨⟨rfl, rfl, h.1.2.2.1, h.1.2.2.2.1, h.1.2.2.2.2⟩, fun k h1 => absurd h1 (by show ¬ ((k : Int) < 0); omega)⟩
theorem mv_tips {T : TK} {K : MK} {n : Nat} (h : mvOK T K) : mvOK T (mkN n K) := h
/-! fine -/
def mvR (T : TK) (K : MK) : Prop := mvOK T K ∧ 0 ≤ T.2.1
theorem mvR_add {T : TK} {K : MK} {x y z : Int} (h : mvR T K) (hx : 0 ≤ x ∧ x < 20) (hy : 0 ≤ y ∧ y < 20) : mvR (tkA x y z T) (mkA x y z K) := ⟨mv_add h.1 h.2 hx hy, by show 0 ≤ T.2.1 + 1; have := h.2; omega⟩
theorem rw_mv {w h : Nat} {wa wn d : Nat → Int} {kd r y g : Int} {n : Nat} {q : TK × (Nat → Int)} {K : MK} (ht : tlOK kd r d) (e : eqP w h wn wa) (hr : 0 ≤ r ∧ r ≤ 5) (hwn : bd wn 0 1000) (hw : w ≤ 20) (hh : h ≤ 20) (hy : 0 ≤ y ∧ y < (h : Int)) (hn : n ≤ w) (hm : mvR q.1 K) : mvR (rwF w h wa d r y (evB g) n q).1 (mfR w h wn kd r y g n K) := by
  unfold rwF mfR
  refine itr_rel (R := fun (a : TK × (Nat → Int)) (b : MK) => mvR a.1 b) n hm (fun i a b hi hab => ?_)
  have hx := rwX_rg (w := w) (b := evB g) (i := (i : Int)) (by omega) (by omega)
  unfold rwS
  rw [lf_lm ht e hr hwn hx hy]
  exact mvR_add hab ⟨hx.1, by omega⟩ ⟨hy.1, by omega⟩
/-- how many rows below n are multiples of st -/
def cnt (st n : Nat) : Nat := itr (fun j c => if j % st = 0 then c + 1 else c) n 0
theorem cnt_s {st n : Nat} : cnt st (n + 1) = if n % st = 0 then cnt st n + 1 else cnt st n := rfl
theorem cnt_rg {st n : Nat} (h : 1 ≤ st) : n ≤ cnt st n * st ∧ cnt st n * st < n + st := by
  induction n with
  | zero => show 0 ≤ 0 * st ∧ 0 * st < 0 + st; omega
  | succ n ih =>
    rw [cnt_s]
    by_cases q : n % st = 0
    · rw [if_pos q, Nat.succ_mul]
      have h1 := Nat.div_add_mod n st
      rw [q, Nat.add_zero] at h1
      have h2 : n / st ≤ cnt st n := Nat.le_of_mul_le_mul_left (c := st) (by rw [h1, Nat.mul_comm]; exact ih.1) (by omega)
      have h3 : cnt st n < n / st + 1 := Nat.lt_of_mul_lt_mul_left (a := st) (by rw [Nat.mul_add, h1, Nat.mul_comm]; omega)
      have h4 : cnt st n = n / st := by omega
      rw [h4, Nat.mul_comm, h1]
      omega
    · rw [if_neg q]
      have h1 : n ≠ cnt st n * st := fun e => q (by rw [e]; exact Nat.mul_mod_left _ _)
      omega
theorem cnt_at {st n : Nat} (h : 1 ≤ st) (q : n % st = 0) : cnt st n * st = n ∧ cnt st n = n / st := by
  have ih := cnt_rg (n := n) h
  have h1 := Nat.div_add_mod n st
  rw [q, Nat.add_zero] at h1
  have h2 : n / st ≤ cnt st n := Nat.le_of_mul_le_mul_left (c := st) (by rw [h1, Nat.mul_comm]; exact ih.1) (by omega)
  have h3 : cnt st n < n / st + 1 := Nat.lt_of_mul_lt_mul_left (a := st) (by rw [Nat.mul_add, h1, Nat.mul_comm]; omega)
  have h4 : cnt st n = n / st := by omega
  exact ⟨by rw [h4, Nat.mul_comm, h1], h4⟩
theorem cnt_no {st n : Nat} (h : 1 ≤ st) (q : ¬ n % st = 0) : cnt st n = n / st + 1 := by
  have ih := cnt_rg (n := n) h
  have h1 := Nat.div_add_mod n st
  have h5 := Nat.mod_lt n (show 0 < st by omega)
  have h2 : n / st < cnt st n := Nat.lt_of_mul_lt_mul_left (a := st) (by rw [Nat.mul_comm st (cnt st n)]; omega)
  have h3 : cnt st n < n / st + 1 + 1 := Nat.lt_of_mul_lt_mul_left (a := st) (by rw [Nat.mul_add, Nat.mul_add, Nat.mul_comm st (cnt st n)]; omega)
  omega
def vis (h st j : Nat) : Prop := j % st = 0 ∨ j = h - 1
theorem mfS_y {w h st : Nat} {wn : Nat → Int} {kd r : Int} {j : Nat} {s : MK × Int} (hh : 1 ≤ h) (v : vis h st j) : mfS w h wn kd r (st : Int) (j : Int) s = (mfR w h wn kd r (j : Int) s.2 w s.1, s.2 + 1) := by
  unfold mfS
  rw [if_pos]
  rcases v with v | v
  · left; rw [← Int.natCast_emod, v]; rfl
  · right; omega
theorem mfS_n {w h st : Nat} {wn : Nat → Int} {kd r : Int} {j : Nat} {s : MK × Int} (hh : 1 ≤ h) (v : ¬ vis h st j) : mfS w h wn kd r (st : Int) (j : Int) s = s := by
  unfold mfS
  rw [if_neg]
  intro z
  rcases z with z | z
  · exact v (Or.inl (by rw [← Int.natCast_emod] at z; omega))
  · exact v (Or.inr (by omega))
theorem fn_mv {w h st : Nat} {wa wn d : Nat → Int} {kd r : Int} {q : TK × (Nat → Int)} {K : MK} (ht : tlOK kd r d) (e : eqP w h wn wa) (hr : 0 ≤ r ∧ r ≤ 5) (hwn : bd wn 0 1000) (hw : w ≤ 20) (hh : 1 ≤ h ∧ h ≤ 20) (hst : 1 ≤ st) (hm : mvR q.1 K) (n : Nat) (hn : n ≤ h - 1) : mvR (fnF w h wa d r (st : Int) (cnt st n) q).1 (mfG w h wn kd r (st : Int) n (K, 0)).1 ∧ (mfG w h wn kd r (st : Int) n (K, 0)).2 = ((cnt st n : Nat) : Int) := by
  induction n with
  | zero => exact ⟨hm, rfl⟩
  | succ n ih =>
    have ih := ih (by omega)
    have hs : mfG w h wn kd r (st : Int) (n + 1) (K, 0) = mfS w h wn kd r (st : Int) (n : Int) (mfG w h wn kd r (st : Int) n (K, 0)) := rfl
    rw [hs, cnt_s]
    by_cases v : n % st = 0
    · rw [mfS_y hh.1 (Or.inl v), if_pos v]
      have hc := (cnt_at hst v).1
      refine ⟨?_, ?_⟩
      · show mvR (rwF w h wa d r (((cnt st n : Nat) : Int) * (st : Int)) (evB ((cnt st n : Nat) : Int)) w (fnF w h wa d r (st : Int) (cnt st n) q)).1 (mfR w h wn kd r (n : Int) (mfG w h wn kd r (st : Int) n (K, 0)).2 w (mfG w h wn kd r (st : Int) n (K, 0)).1)
        rw [ih.2, show (((cnt st n : Nat) : Int) * (st : Int)) = (n : Int) from by rw [← Int.natCast_mul, hc]]
        exact rw_mv ht e hr hwn hw hh.2 ⟨by omega, by omega⟩ (Nat.le_refl w) ih.1
      · show (mfG w h wn kd r (st : Int) n (K, 0)).2 + 1 = _
        rw [ih.2]
        omega
    · rw [mfS_n hh.1 (fun z => z.elim v (fun z => by omega)), if_neg v]
      exact ih
theorem yN_cnt {h st : Nat} (hh : 1 ≤ h) (hst : 1 ≤ st) : yN h (st : Int) = if (h - 1) % st = 0 then cnt st (h - 1) + 1 else cnt st (h - 1) := by
  have h1 : yN h (st : Int) = (h - 1) / st + 1 := by
    unfold yN
    rw [show (h : Int) - 1 = ((h - 1 : Nat) : Int) from by omega, ← Int.natCast_ediv]
    generalize (h - 1) / st = m
    omega
  rw [h1]
  by_cases q : (h - 1) % st = 0
  · rw [if_pos q, (cnt_at hst q).2]
  · rw [if_neg q, cnt_no hst q]
theorem hmod {h st : Nat} (hh : 1 ≤ h) : (((h : Int) - 1) % (st : Int) = 0) ↔ (h - 1) % st = 0 := by
  rw [show (h : Int) - 1 = ((h - 1 : Nat) : Int) from by omega, ← Int.natCast_emod]
  omega
theorem mfG_last {w h st : Nat} {wn : Nat → Int} {kd r : Int} {s : MK × Int} (hh : 1 ≤ h) : mfG w h wn kd r (st : Int) h s = (mfR w h wn kd r ((h : Int) - 1) (mfG w h wn kd r (st : Int) (h - 1) s).2 w (mfG w h wn kd r (st : Int) (h - 1) s).1, (mfG w h wn kd r (st : Int) (h - 1) s).2 + 1) := by
  obtain ⟨m, rfl⟩ : ∃ m, h = m + 1 := ⟨h - 1, by omega⟩
  show mfS w (m + 1) wn kd r (st : Int) (m : Int) (mfG w (m + 1) wn kd r (st : Int) m s) = _
  rw [mfS_y hh (Or.inr (by omega))]
  rw [show (((m + 1 : Nat) : Int) - 1) = (m : Int) from by omega]
  rfl
theorem fn_all {w h st : Nat} {wa wn d : Nat → Int} {kd r : Int} {q : TK × (Nat → Int)} {K : MK} (ht : tlOK kd r d) (e : eqP w h wn wa) (hr : 0 ≤ r ∧ r ≤ 5) (hwn : bd wn 0 1000) (hw : w ≤ 20) (hh : 1 ≤ h ∧ h ≤ 20) (hst : 1 ≤ st) (hm : mvR q.1 K) : mvR (fnW w h wa d r (st : Int) q).1 (mfG w h wn kd r (st : Int) h (K, 0)).1 ∧ fnR h (st : Int) = (mfG w h wn kd r (st : Int) h (K, 0)).2 := by
  have h1 := fn_mv ht e hr hwn hw hh hst hm (h - 1) (Nat.le_refl _)
  have hy := yN_cnt (st := st) hh.1 hst
  rw [mfG_last hh.1, h1.2]
  unfold fnW fnR
  by_cases v : (h - 1) % st = 0
  · rw [if_pos v] at hy
    rw [if_pos ((hmod hh.1).mpr v), if_pos ((hmod hh.1).mpr v), hy]
    have hc := (cnt_at hst v).1
    refine ⟨?_, by omega⟩
    show mvR (rwF w h wa d r (((cnt st (h - 1) : Nat) : Int) * (st : Int)) (evB ((cnt st (h - 1) : Nat) : Int)) w (fnF w h wa d r (st : Int) (cnt st (h - 1)) q)).1 (mfR w h wn kd r ((h : Int) - 1) ((cnt st (h - 1) : Nat) : Int) w _)
    rw [show (((cnt st (h - 1) : Nat) : Int) * (st : Int)) = (h : Int) - 1 from by rw [← Int.natCast_mul, hc]; omega]
    exact rw_mv ht e hr hwn hw hh.2 ⟨by omega, by omega⟩ (Nat.le_refl w) h1.1
  · rw [if_neg v] at hy
    rw [if_neg (fun z => v ((hmod hh.1).mp z)), if_neg (fun z => v ((hmod hh.1).mp z)), hy]
    exact ⟨rw_mv ht e hr hwn hw hh.2 ⟨by omega, by omega⟩ (Nat.le_refl w) h1.1, rfl⟩
/-! what fine takes off: the class -/
def Lf (w h : Nat) (wn : Nat → Int) (kd r x y : Int) : Int := lmF w wn kd r x y (nB h r y)
theorem rwF_le {w h X Y : Nat} {wa wn d : Nat → Int} {kd r y b : Int} {q : TK × (Nat → Int)} (ht : tlOK kd r d) (e : eqP w h wn wa) (hr : 0 ≤ r ∧ r ≤ 5) (hwn : bd wn 0 1000) (hy : 0 ≤ y ∧ y < (h : Int)) (hX : X < w) (hY : Y < h) (c : Int) : c ≤ (rwF w h wa d r y b w q).2 (Y * w + X) ↔ (c ≤ q.2 (Y * w + X) ∧ ∀ x : Nat, x < w → cst kd r X Y x y (Lf w h wn kd r x y) c) := by
  unfold rwF
  rw [itr_le (g := fun s : TK × (Nat → Int) => s.2 (Y * w + X)) (P := fun i c => cst kd r X Y (rwX w b (i : Int)) y (Lf w h wn kd r (rwX w b (i : Int)) y) c) w (fun i s hi c => by
    have hx := rwX_rg (w := w) (b := b) (i := (i : Int)) (by omega) (by omega)
    show c ≤ cvF w h d r (rwX w b (i : Int)) y (lfF w h wa d r (rwX w b (i : Int)) y (nB h r y)) (nB h r y) s.2 (Y * w + X) ↔ _
    rw [lf_lm ht e hr hwn hx hy]
    exact cvF_le ht hr hx hy hX hY c)]
  refine and_congr_right (fun _ => ⟨fun hq x hx => ?_, fun hq i hi => ?_⟩)
  · by_cases q : b = 0
    · have h1 := hq (w - 1 - x) (by omega)
      rw [show rwX w b ((w - 1 - x : Nat) : Int) = x from by unfold rwX; rw [if_pos q]; omega] at h1
      exact h1
    · have h1 := hq x hx
      rw [show rwX w b (x : Int) = x from by unfold rwX; rw [if_neg q]] at h1
      exact h1
  · have hx := rwX_rg (w := w) (b := b) (i := (i : Int)) (by omega) (by omega)
    obtain ⟨x, hx2⟩ := Int.eq_ofNat_of_zero_le hx.1
    rw [hx2]
    exact hq x (by omega)
theorem fnF_le {w h X Y st n : Nat} {wa wn d : Nat → Int} {kd r : Int} {q : TK × (Nat → Int)} (ht : tlOK kd r d) (e : eqP w h wn wa) (hr : 0 ≤ r ∧ r ≤ 5) (hwn : bd wn 0 1000) (hh : 1 ≤ h) (hst : 1 ≤ st) (hn : n ≤ yN h (st : Int)) (hX : X < w) (hY : Y < h) (c : Int) : c ≤ (fnF w h wa d r (st : Int) n q).2 (Y * w + X) ↔ (c ≤ q.2 (Y * w + X) ∧ ∀ k : Nat, k < n → ∀ x : Nat, x < w → cst kd r X Y x ((k * st : Nat) : Int) (Lf w h wn kd r x ((k * st : Nat) : Int)) c) := by
  unfold fnF
  refine itr_le (g := fun s : TK × (Nat → Int) => s.2 (Y * w + X)) (P := fun k c => ∀ x : Nat, x < w → cst kd r X Y x ((k * st : Nat) : Int) (Lf w h wn kd r x ((k * st : Nat) : Int)) c) n (fun k s hk c => ?_) q c
  have hy := yN_in (h := h) (st := (st : Int)) (k := k) (by omega) hh (by omega)
  rw [← Int.natCast_mul] at hy ⊢
  exact rwF_le ht e hr hwn hy hX hY c
theorem fnW_le {w h X Y st : Nat} {wa wn d : Nat → Int} {kd r : Int} {q : TK × (Nat → Int)} (ht : tlOK kd r d) (e : eqP w h wn wa) (hr : 0 ≤ r ∧ r ≤ 5) (hwn : bd wn 0 1000) (hh : 1 ≤ h) (hst : 1 ≤ st) (hX : X < w) (hY : Y < h) (c : Int) : c ≤ (fnW w h wa d r (st : Int) q).2 (Y * w + X) ↔ (c ≤ q.2 (Y * w + X) ∧ ∀ j : Nat, j < h → vis h st j → ∀ x : Nat, x < w → cst kd r X Y x j (Lf w h wn kd r x j) c) := by
  have hF := fnF_le (q := q) ht e hr hwn hh hst (Nat.le_refl (yN h (st : Int))) hX hY c
  have hin : ∀ k : Nat, k < yN h (st : Int) → k * st < h := fun k hk => by
    have hy := yN_in (h := h) (st := (st : Int)) (k := k) hk hh (by omega)
    rw [← Int.natCast_mul] at hy
    omega
  have hto : ∀ j : Nat, j < h → j % st = 0 → ∃ k : Nat, k < yN h (st : Int) ∧ k * st = j := fun j hj hz => by
    refine ⟨j / st, ?_, ?_⟩
    · have h1 : yN h (st : Int) = (h - 1) / st + 1 := by
        unfold yN
        rw [show (h : Int) - 1 = ((h - 1 : Nat) : Int) from by omega, ← Int.natCast_ediv]
        generalize (h - 1) / st = m
        omega
      have h2 : j / st ≤ (h - 1) / st := Nat.div_le_div_right (by omega)
      omega
    · have h1 := Nat.div_add_mod j st
      rw [hz, Nat.add_zero, Nat.mul_comm] at h1
      exact h1
  unfold fnW
  by_cases v : (h - 1) % st = 0
  · rw [if_pos ((hmod hh).mpr v), hF]
    refine and_congr_right (fun _ => ⟨fun hq j hj hv x hx => ?_, fun hq k hk x hx => ?_⟩)
    · obtain ⟨k, hk, rfl⟩ := hto j hj (hv.elim (fun z => z) (fun z => by rw [z]; exact v))
      exact hq k hk x hx
    · exact hq (k * st) (hin k hk) (Or.inl (Nat.mul_mod_left _ _)) x hx
  · rw [if_neg (fun z => v ((hmod hh).mp z)), rwF_le ht e hr hwn ⟨by omega, by omega⟩ hX hY c, hF]
    rw [show (h : Int) - 1 = ((h - 1 : Nat) : Int) from by omega]
    refine ⟨fun hq => ⟨hq.1.1, fun j hj hv x hx => ?_⟩, fun hq => ⟨⟨hq.1, fun k hk x hx => ?_⟩, fun x hx => ?_⟩⟩
    · rcases hv with hv | hv
      · obtain ⟨k, hk, rfl⟩ := hto j hj hv
        exact hq.1.2 k hk x hx
      · rw [hv]
        exact hq.2 x hx
    · exact hq.2 (k * st) (hin k hk) (Or.inl (Nat.mul_mod_left _ _)) x hx
    · exact hq.2 (h - 1) (by omega) (Or.inr rfl) x hx
/-! what fine takes off: the reference's tips -/
theorem mfR_tip {w h y : Nat} {wn : Nat → Int} {kd r g : Int} {n : Nat} {K : MK} (hw : w ≤ 20) (hn : n ≤ w) : (∀ i : Nat, i < n → (mfR w h wn kd r (y : Int) g n K).1 (20 * y + (rwX w (evB g) (i : Int)).toNat) = Lf w h wn kd r (rwX w (evB g) (i : Int)) y) ∧ ∀ p : Nat, (∀ i : Nat, i < n → p ≠ 20 * y + (rwX w (evB g) (i : Int)).toNat) → (mfR w h wn kd r (y : Int) g n K).1 p = K.1 p := by
  induction n with
  | zero => exact ⟨fun i hi => absurd hi (by omega), fun _ _ => rfl⟩
  | succ n ih =>
    obtain ⟨h1, h2⟩ := ih (by omega)
    have hx := rwX_rg (w := w) (b := evB g) (i := (n : Int)) (by omega) (by omega)
    have hs : (mfR w h wn kd r (y : Int) g (n + 1) K).1 = uI (mfR w h wn kd r (y : Int) g n K).1 (20 * (y : Int) + rwX w (evB g) (n : Int)).toNat (Lf w h wn kd r (rwX w (evB g) (n : Int)) y) := rfl
    rw [hs, show (20 * (y : Int) + rwX w (evB g) (n : Int)).toNat = 20 * y + (rwX w (evB g) (n : Int)).toNat from by omega]
    refine ⟨fun i hi => ?_, fun p hp => ?_⟩
    · by_cases q : i = n
      · rw [q, uI_s]
      · have hx2 := rwX_rg (w := w) (b := evB g) (i := (i : Int)) (by omega) (by omega)
        rw [uI_n (by unfold rwX at *; split <;> omega)]
        exact h1 i (by omega)
    · rw [uI_n (hp n (by omega))]
      exact h2 p (fun i hi => hp i (by omega))
theorem mfR_row {w h y : Nat} {wn : Nat → Int} {kd r g : Int} {K : MK} (hw : w ≤ 20) {i j : Nat} (hi : i < w) : (mfR w h wn kd r (y : Int) g w K).1 (20 * j + i) = if j = y then Lf w h wn kd r i j else K.1 (20 * j + i) := by
  obtain ⟨h1, h2⟩ := mfR_tip (h := h) (y := y) (wn := wn) (kd := kd) (r := r) (g := g) (n := w) (K := K) hw (Nat.le_refl w)
  by_cases q : j = y
  · subst q
    rw [if_pos rfl]
    by_cases b : evB g = 0
    · have h3 := h1 (w - 1 - i) (by omega)
      rw [show rwX w (evB g) ((w - 1 - i : Nat) : Int) = i from by unfold rwX; rw [if_pos b]; omega] at h3
      exact h3
    · have h3 := h1 i hi
      rw [show rwX w (evB g) (i : Int) = i from by unfold rwX; rw [if_neg b]] at h3
      exact h3
  · rw [if_neg q]
    exact h2 _ (fun k hk => by
      have hx2 := rwX_rg (w := w) (b := evB g) (i := (k : Int)) (by omega) (by omega)
      omega)
theorem mfG_tip {w h st n : Nat} {wn : Nat → Int} {kd r : Int} {K : MK} (hw : w ≤ 20) (hh : 1 ≤ h) {i j : Nat} (hi : i < w) (hK : K.1 (20 * j + i) = -1) : (j < n → vis h st j → (mfG w h wn kd r (st : Int) n (K, 0)).1.1 (20 * j + i) = Lf w h wn kd r i j) ∧ (¬ (j < n ∧ vis h st j) → (mfG w h wn kd r (st : Int) n (K, 0)).1.1 (20 * j + i) = -1) := by
  induction n with
  | zero => exact ⟨fun hj => absurd hj (by omega), fun _ => hK⟩
  | succ n ih =>
    have hs : mfG w h wn kd r (st : Int) (n + 1) (K, 0) = mfS w h wn kd r (st : Int) (n : Int) (mfG w h wn kd r (st : Int) n (K, 0)) := rfl
    rw [hs]
    by_cases v : vis h st n
    · rw [mfS_y hh v]
      show (j < n + 1 → vis h st j → (mfR w h wn kd r (n : Int) _ w _).1 (20 * j + i) = _) ∧ (¬ (j < n + 1 ∧ vis h st j) → (mfR w h wn kd r (n : Int) _ w _).1 (20 * j + i) = _)
      rw [mfR_row hw hi]
      by_cases q : j = n
      · rw [if_pos q]
        exact ⟨fun _ _ => rfl, fun z => absurd ⟨by omega, by rw [q]; exact v⟩ z⟩
      · rw [if_neg q]
        exact ⟨fun hj => ih.1 (by omega), fun z => ih.2 (fun z2 => z ⟨by omega, z2.2⟩)⟩
    · rw [mfS_n hh v]
      exact ⟨fun hj hv => ih.1 (by rcases Nat.lt_or_ge j n with z | z; exact z; exact absurd (by rw [show n = j from by omega]; exact hv) v) hv, fun z => ih.2 (fun z2 => z ⟨by omega, z2.2⟩)⟩
theorem fine_eq {w h st : Nat} {wa wn d ma mn : Nat → Int} {kd r : Int} {T : TK} {K : MK} (ht : tlOK kd r d) (e : eqP w h wn wa) (em : eqP w h mn ma) (hr : 0 ≤ r ∧ r ≤ 5) (hwn : bd wn 0 1000) (hw : w ≤ 20) (hh : 1 ≤ h ∧ h ≤ 20) (hst : 1 ≤ st) : eqP w h (cmF w h (mfG w h wn kd r (st : Int) h (mkN 400 K, 0)).1.1 kd r h mn) (fnW w h wa d r (st : Int) (T, ma)).2 := by
  intro X Y hX hY
  refine eq_of_le (fun c => ?_)
  rw [cmF_le hw hr hX hY, fnW_le ht e hr hwn hh.1 hst hX hY, em X Y hX hY]
  refine and_congr_right (fun _ => ⟨fun hq j hj hv x hx => ?_, fun hq i j hi hj h0 => ?_⟩)
  · have h1 := (mfG_tip (h := h) (st := st) (n := h) (wn := wn) (kd := kd) (r := r) (K := mkN 400 K) hw hh.1 (i := x) (j := j) hx (by show flF (-1) 400 K.1 _ = -1; rw [flF_at, if_pos (by omega)])).1 hj hv
    have h2 := hq x j hx hj
    rw [h1] at h2
    exact h2 (lmF_pos (kd := kd) hr hwn ⟨by omega, by omega⟩ ⟨by omega, by omega⟩)
  · have h1 := mfG_tip (h := h) (st := st) (n := h) (wn := wn) (kd := kd) (r := r) (K := mkN 400 K) hw hh.1 (i := i) (j := j) hi (by show flF (-1) 400 K.1 _ = -1; rw [flF_at, if_pos (by omega)])
    rcases Classical.em (vis h st j) with v | v
    · rw [h1.1 hj v]
      exact hq j hj v i hi
    · rw [h1.2 (fun z => v z.2)] at h0
      omega
theorem fnW_bd {w h : Nat} {wa dp : Nat → Int} {r st M : Int} {q : TK × (Nat → Int)} (hw : w ≤ 20) (hh : 1 ≤ h ∧ h ≤ 20) (h2 : 1 ≤ st) (hwa : bd wa 0 1000) (hd : bd dp (-1) 5) (ht : tkOK q.1 M) (hm : bd q.2 0 1000) : tkOK (fnW w h wa dp r st q).1 (M + 420) ∧ bd (fnW w h wa dp r st q).2 0 1000 := by
  have h3 := fnF_ok (r := r) (n := yN h st) hw hh (Nat.le_refl _) h2 hwa hd ht hm
  have h4 := yN_le hh h2
  unfold fnW
  split
  · exact ⟨h3.1.mono (by omega), h3.2⟩
  · have h5 := rwF_ok (h := h) (r := r) (y := (h : Int) - 1) (b := evB ((yN h st : Nat) : Int)) (n := w) hw (Nat.le_refl w) ⟨by omega, by omega⟩ hwa hd h3.1 h3.2
    exact ⟨h5.1.mono (by omega), h5.2⟩
section ERel
variable {w h : Nat} {wa ma ka li : Nat → Int} {hk sh : Int} {T : TK} {kd rd : Nat → Int} {dp : Nat → Nat → Int} {wn mn kn : Nat → Int} {ik so : Int} {ks rs lf : Nat → Int} {K : MK}
theorem e_fine_a (hR : zRel w h wa ma ka li hk sh T kd rd dp wn mn kn ik so ks rs lf K) (t st : Int) (hc : cod2 (isW t 0 3) (isW st 1 20) = 0) : ((fnR h st) : Int) = (if cod2 (isW t 0 3) (isW st 1 20) ≤ 0 then (mfG w h wn (ks t.toNat) (rs t.toNat) st h (mkN 400 (mkB K), 0)).2 else 0) := by
  rw [if_pos (by omega)]
  have hok := cod2_ok (p := isW t 0 3) (q := isW st 1 20) (by omega)
  have h1 := isW_t.mp hok.1
  have h2 := isW_t.mp hok.2
  obtain ⟨s, rfl⟩ := Int.eq_ofNat_of_zero_le (show 0 ≤ st by omega)
  exact (fn_all (q := (tkC T, ma)) (hR.tl (j := t.toNat) (by omega)) hR.2.1.1 (hR.hrs _ (by omega)) hR.hwn hR.hw.2 hR.hh (by omega) ⟨mv_tips (mv_new hR.2.2.2.2.2.1.2.2), Int.le_refl 0⟩).2
theorem e_fine_r (hR : zRel w h wa ma ka li hk sh T kd rd dp wn mn kn ik so ks rs lf K) (t st : Int) : zRel w h wa (if cod2 (isW t 0 3) (isW st 1 20) ≤ 0 then (fnW w h wa (dp t.toNat) (rd t.toNat) st (tkC T, ma)).2 else ma) ka li hk sh (if cod2 (isW t 0 3) (isW st 1 20) ≤ 0 then (fnW w h wa (dp t.toNat) (rd t.toNat) st (tkC T, ma)).1 else T) kd rd dp wn (if cod2 (isW t 0 3) (isW st 1 20) ≤ 0 then cmF w h (mfG w h wn (ks t.toNat) (rs t.toNat) st h (mkN 400 (mkB K), 0)).1.1 (ks t.toNat) (rs t.toNat) h mn else mn) kn ik so ks rs lf (if cod2 (isW t 0 3) (isW st 1 20) ≤ 0 then (mfG w h wn (ks t.toNat) (rs t.toNat) st h (mkN 400 (mkB K), 0)).1 else K) := by
  by_cases q : cod2 (isW t 0 3) (isW st 1 20) ≤ 0
  · rw [if_pos q, if_pos q, if_pos q, if_pos q]
    have hok := cod2_ok q
    have h1 := isW_t.mp hok.1
    have h2 := isW_t.mp hok.2
    obtain ⟨s, rfl⟩ := Int.eq_ofNat_of_zero_le (show 0 ≤ st by omega)
    have htl := hR.tl (j := t.toNat) (by omega)
    have hrr := hR.hrs t.toNat (by omega)
    have hA := fn_all (q := (tkC T, ma)) htl hR.2.1.1 hrr hR.hwn hR.hw.2 hR.hh (show 1 ≤ s by omega) ⟨mv_tips (n := 400) (mv_new hR.2.2.2.2.2.1.2.2), Int.le_refl 0⟩
    have hE := fine_eq (T := tkC T) (K := mkB K) htl hR.2.1.1 hR.2.1.2.1 hrr hR.hwn hR.hw.2 hR.hh (show 1 ≤ s by omega)
    have hB := fnW_bd (w := w) (h := h) (r := rs t.toNat) (st := (s : Int)) (q := (tkC T, ma)) hR.hw.2 hR.hh (by omega) hR.hwa (hR.hdp t.toNat (by omega)) (tkC_ok hR.hT0) hR.hma
    have hM := mfG_ok (h := h) (kd := ks t.toNat) (st := (s : Int)) (n := h) (s := (mkN 400 (mkB K), 0)) hR.hw.2 hR.hh.2 (Nat.le_refl h) hrr hR.hwn (mkN_ok (n := 400) (mkB_ok hR.hK0)) ⟨Int.le_refl 0, Int.le_refl 0⟩
    have hh2 := hR.hh.2
    rw [hR.rr]
    have hrd := hR.rr
    obtain ⟨hz, ⟨e1, e2, e3⟩, ⟨b1, b2, b3, b4⟩, ⟨c1, c2, c3, c4⟩, h5, h6, h7⟩ := hR
    rw [hrd] at h7
    exact ⟨hz, ⟨e1, hE, e3⟩, ⟨b1, hB.2, b3, b4⟩, ⟨c1, cmF_rg c2, c3, c4⟩, h5, ⟨hB.1.mono (by omega), hM.1.mono (by omega), hA.1.1⟩, h7⟩
  · rw [if_neg q, if_neg q, if_neg q, if_neg q]
    exact hR
end ERel
/-! rough -/
theorem ltR_at {w h y n x y2 : Nat} {wa d li : Nat → Int} {r : Int} (hx : x < w) (hn : n ≤ w) : ltR w h wa d r (y : Int) n li (y2 * w + x) = if y2 = y ∧ x < n then lfF w h wa d r (x : Int) (y : Int) (nB h r (y : Int)) else li (y2 * w + x) := by
  unfold ltR
  induction n with
  | zero => rw [if_neg (by omega)]; rfl
  | succ n ih =>
    show uI (itr _ n li) ((y : Int) * (w : Int) + (n : Int)).toNat _ (y2 * w + x) = _
    rw [pxw]
    by_cases q : y2 * w + x = y * w + n
    · obtain ⟨rfl, rfl⟩ := pinj hx (by omega) q
      rw [uI_s, if_pos (by omega)]
    · rw [uI_n q, ih (by omega)]
      by_cases q2 : y2 = y ∧ x < n
      · rw [if_pos q2, if_pos (by omega)]
      · rw [if_neg q2, if_neg (fun z => q2 ⟨z.1, by
          rcases Nat.lt_or_ge x n with g | g
          · exact g
          · exact absurd (by rw [z.1, show x = n from by omega]) q⟩)]
theorem ltF_at {w h n x y : Nat} {wa d li : Nat → Int} {r : Int} (hx : x < w) : ltF w h wa d r n li (y * w + x) = if y < n then lfF w h wa d r (x : Int) (y : Int) (nB h r (y : Int)) else li (y * w + x) := by
  unfold ltF
  induction n with
  | zero => rw [if_neg (by omega)]; rfl
  | succ n ih =>
    show ltR w h wa d r (n : Int) w (itr _ n li) (y * w + x) = _
    rw [ltR_at hx (Nat.le_refl w), ih]
    by_cases q : y = n
    · subst q
      rw [if_pos ⟨rfl, hx⟩, if_pos (by omega)]
    · rw [if_neg (fun z => q z.1)]
      by_cases q2 : y < n
      · rw [if_pos q2, if_pos (by omega)]
      · rw [if_neg q2, if_neg (by omega)]
theorem llF_at {w h n k : Nat} {wn lf : Nat → Int} {kd r : Int} (hk : k < n) : llF w h wn kd r n lf k = if (k : Int) % 20 < (w : Int) ∧ (k : Int) / 20 < (h : Int) then lmF w wn kd r ((k : Int) % 20) ((k : Int) / 20) (nB h r ((k : Int) / 20)) else 0 := by
  unfold llF
  induction n with
  | zero => omega
  | succ n ih =>
    show uI (itr _ n lf) n _ k = _
    by_cases q : k = n
    · subst q
      exact uI_s
    · rw [uI_n q]
      exact ih (by omega)
theorem li_L {w h : Nat} {wa wn d li : Nat → Int} {kd r : Int} (ht : tlOK kd r d) (e : eqP w h wn wa) (hr : 0 ≤ r ∧ r ≤ 5) (hwn : bd wn 0 1000) {x y : Nat} (hx : x < w) (hy : y < h) : ltF w h wa d r h li (y * w + x) = Lf w h wn kd r x y := by
  rw [ltF_at hx, if_pos hy]
  exact lf_lm ht e hr hwn ⟨by omega, by omega⟩ ⟨by omega, by omega⟩
theorem lf_L {w h : Nat} {wn lf : Nat → Int} {kd r : Int} (hw : w ≤ 20) (hh : h ≤ 20) {x y : Nat} (hx : x < w) (hy : y < h) : llF w h wn kd r 400 lf (20 * y + x) = Lf w h wn kd r x y := by
  rw [llF_at (by omega), if_pos (by omega)]
  rw [show ((20 * y + x : Nat) : Int) % 20 = (x : Int) from by omega, show ((20 * y + x : Nat) : Int) / 20 = (y : Int) from by omega]
  rfl
/-! the moves of a level -/
theorem lv_mv {w h : Nat} {l1 l2 d : Nat → Int} {r z st sk : Int} {q : TK × (Nat → Int)} {K : MK} (hw : w ≤ 20) (hh : h ≤ 20) (e : eqP w h l2 l1) (hm : mvR q.1 K) : mvR (lvF w h l1 d r z st sk h q).1 (mlF w l2 sk z h K) := by
  unfold lvF mlF
  refine itr_rel (R := fun (a : TK × (Nat → Int)) (b : MK) => mvR a.1 b) h hm (fun y a b hy hab => ?_)
  unfold lvR mlR
  refine itr_rel (R := fun (a : TK × (Nat → Int)) (b : MK) => mvR a.1 b) w hab (fun x a b hx hab => ?_)
  unfold lvS mlS
  rw [pxw, px20, e x y hx hy]
  by_cases q : l1 (y * w + x) + sk ≤ z
  · rw [if_pos q, if_pos q]
    exact mvR_add hab ⟨by omega, by omega⟩ ⟨by omega, by omega⟩
  · rw [if_neg q, if_neg q]
    exact hab
theorem rg_mv {w h : Nat} {l1 l2 d ma mn : Nat → Int} {kd r st sk sh : Int} {T : TK} {K : MK} {n : Nat} (hw : w ≤ 20) (hh : h ≤ 20) (e : eqP w h l2 l1) (hm : mvR T K) : mvR (rgF w h l1 d r st sk sh n ((T, ma), 0)).1.1 (mrG w h l2 kd r st sk sh n ((K, mn), 0)).1.1 ∧ (rgF w h l1 d r st sk sh n ((T, ma), 0)).2 = (mrG w h l2 kd r st sk sh n ((K, mn), 0)).2 := by
  unfold rgF mrG
  refine itr_rel (R := fun (a : (TK × (Nat → Int)) × Int) (b : (MK × (Nat → Int)) × Int) => mvR a.1.1 b.1.1 ∧ a.2 = b.2) n ⟨hm, rfl⟩ (fun k a b hk hab => ?_)
  have h1 := lv_mv (q := a.1) (K := mkN 400 b.1.1) (d := d) (r := r) (z := zL sh st k) (st := st) (sk := sk) hw hh e ⟨mv_tips hab.1.1, hab.1.2⟩
  refine ⟨h1, ?_⟩
  show a.2 + inc01 a.1.1.2.1 (lvF w h l1 d r (zL sh st k) st sk h a.1).1.2.1 = b.2 + inc01 b.1.1.2.2.1 (mlF w l2 sk (zL sh st k) h (mkN 400 b.1.1)).2.2.1
  rw [hab.2, h1.1.1.1, hab.1.1.1.1]
/-! what rough takes off: the class -/
def low (sk st z L : Int) : Prop := L + sk ≤ z ∧ (z - st ≤ 0 ∨ z - st < L + sk)
theorem lvS_le {w h X Y : Nat} {l1 d : Nat → Int} {kd r z st sk : Int} {x y : Nat} {q : TK × (Nat → Int)} (ht : tlOK kd r d) (hr : 0 ≤ r ∧ r ≤ 5) (hx : x < w) (hy : y < h) (hX : X < w) (hY : Y < h) (c : Int) : c ≤ (lvS w h l1 d r z st sk (x : Int) (y : Int) q).2 (Y * w + X) ↔ (c ≤ q.2 (Y * w + X) ∧ (low sk st z (l1 (y * w + x)) → cst kd r X Y x y z c)) := by
  unfold lvS low
  rw [pxw]
  by_cases q1 : l1 (y * w + x) + sk ≤ z
  · rw [if_pos q1]
    show c ≤ (if z - st ≤ 0 ∨ z - st < l1 (y * w + x) + sk then cvF w h d r (x : Int) (y : Int) z (nB h r (y : Int)) q.2 else q.2) (Y * w + X) ↔ _
    by_cases q2 : z - st ≤ 0 ∨ z - st < l1 (y * w + x) + sk
    · rw [if_pos q2, cvF_le ht hr ⟨by omega, by omega⟩ ⟨by omega, by omega⟩ hX hY]
      exact ⟨fun h => ⟨h.1, fun _ => h.2⟩, fun h => ⟨h.1, h.2 ⟨q1, q2⟩⟩⟩
    · rw [if_neg q2]
      exact ⟨fun h => ⟨h, fun z => absurd z.2 q2⟩, fun h => h.1⟩
  · rw [if_neg q1]
    exact ⟨fun h => ⟨h, fun z => absurd z.1 q1⟩, fun h => h.1⟩
theorem rgF_le {w h X Y : Nat} {l1 d : Nat → Int} {kd r st sk sh : Int} {n : Nat} {s : (TK × (Nat → Int)) × Int} (ht : tlOK kd r d) (hr : 0 ≤ r ∧ r ≤ 5) (hX : X < w) (hY : Y < h) (c : Int) : c ≤ (rgF w h l1 d r st sk sh n s).1.2 (Y * w + X) ↔ (c ≤ s.1.2 (Y * w + X) ∧ ∀ k : Nat, k < n → ∀ y : Nat, y < h → ∀ x : Nat, x < w → low sk st (zL sh st k) (l1 (y * w + x)) → cst kd r X Y x y (zL sh st k) c) := by
  unfold rgF
  refine itr_le (g := fun s : (TK × (Nat → Int)) × Int => s.1.2 (Y * w + X)) (P := fun k c => ∀ y : Nat, y < h → ∀ x : Nat, x < w → low sk st (zL sh st k) (l1 (y * w + x)) → cst kd r X Y x y (zL sh st k) c) n (fun k s hk c => ?_) s c
  show c ≤ (lvF w h l1 d r (zL sh st k) st sk h s.1).2 (Y * w + X) ↔ _
  unfold lvF
  refine itr_le (g := fun s : TK × (Nat → Int) => s.2 (Y * w + X)) (P := fun y c => ∀ x : Nat, x < w → low sk st (zL sh st k) (l1 (y * w + x)) → cst kd r X Y x y (zL sh st k) c) h (fun y s hy c => ?_) s.1 c
  unfold lvR
  exact itr_le (g := fun s : TK × (Nat → Int) => s.2 (Y * w + X)) (P := fun x c => low sk st (zL sh st k) (l1 (y * w + x)) → cst kd r X Y x y (zL sh st k) c) w (fun x s hx c => lvS_le ht hr hx hy hX hY c) s c
/-! what rough takes off: the reference -/
theorem mlR_tip {l2 : Nat → Int} {sk z : Int} {y n i j : Nat} {K : MK} (hi : i < 20) (hn : n ≤ 20) : (mlR l2 sk z (y : Int) n K).1 (20 * j + i) = if j = y ∧ i < n ∧ l2 (20 * j + i) + sk ≤ z then z else K.1 (20 * j + i) := by
  unfold mlR
  induction n with
  | zero => rw [if_neg (by omega)]; rfl
  | succ n ih =>
    have ih := ih (by omega)
    show (mlS l2 sk z (n : Int) (y : Int) (itr _ n K)).1 (20 * j + i) = _
    unfold mlS
    rw [px20]
    by_cases a : l2 (20 * y + n) + sk ≤ z
    · rw [if_pos a]
      show uI (itr _ n K).1 (20 * (y : Int) + (n : Int)).toNat z (20 * j + i) = _
      rw [px20]
      by_cases q : 20 * j + i = 20 * y + n
      · have h1 : j = y ∧ i = n := by omega
        obtain ⟨rfl, rfl⟩ := h1
        rw [uI_s, if_pos ⟨rfl, by omega, a⟩]
      · rw [uI_n q]
        refine ih.trans ?_
        by_cases q2 : j = y ∧ i < n ∧ l2 (20 * j + i) + sk ≤ z
        · rw [if_pos q2, if_pos ⟨q2.1, by omega, q2.2.2⟩]
        · rw [if_neg q2, if_neg (fun g => q2 ⟨g.1, by omega, g.2.2⟩)]
    · rw [if_neg a]
      refine ih.trans ?_
      by_cases q2 : j = y ∧ i < n ∧ l2 (20 * j + i) + sk ≤ z
      · rw [if_pos q2, if_pos ⟨q2.1, by omega, q2.2.2⟩]
      · rw [if_neg q2, if_neg (fun g => q2 ⟨g.1, by
          rcases Nat.lt_or_ge i n with g2 | g2
          · exact g2
          · exact absurd (by rw [← g.1, ← show i = n from by omega]; exact g.2.2) a, g.2.2⟩)]
theorem mlF_tip {w : Nat} {l2 : Nat → Int} {sk z : Int} {n i j : Nat} {K : MK} (hw : w ≤ 20) (hi : i < w) : (mlF w l2 sk z n K).1 (20 * j + i) = if j < n ∧ l2 (20 * j + i) + sk ≤ z then z else K.1 (20 * j + i) := by
  unfold mlF
  induction n with
  | zero => rw [if_neg (by omega)]; rfl
  | succ n ih =>
    show (mlR l2 sk z (n : Int) w (itr _ n K)).1 (20 * j + i) = _
    rw [mlR_tip (by omega) hw, ih]
    by_cases q : j = n ∧ i < w ∧ l2 (20 * j + i) + sk ≤ z
    · rw [if_pos q, if_pos ⟨by omega, q.2.2⟩]
    · rw [if_neg q]
      by_cases q2 : j < n ∧ l2 (20 * j + i) + sk ≤ z
      · rw [if_pos q2, if_pos ⟨by omega, q2.2⟩]
      · rw [if_neg q2, if_neg (fun g => by
          rcases Nat.lt_or_ge j n with g2 | g2
          · exact q2 ⟨g2, g.2⟩
          · exact q ⟨by omega, hi, g.2⟩)]
theorem mlF_cnt {w : Nat} {l2 : Nat → Int} {sk z : Int} {n : Nat} {K : MK} : K.2.2.1 ≤ (mlF w l2 sk z n K).2.2.1 ∧ ∀ j i : Nat, j < n → i < w → l2 (20 * j + i) + sk ≤ z → K.2.2.1 < (mlF w l2 sk z n K).2.2.1 := by
  have h1 := itr_ind (f := fun j K => mlR l2 sk z (j : Int) w K) (P := fun n (K2 : MK) => K.2.2.1 ≤ K2.2.2.1 ∧ ∀ j i : Nat, j < n → i < w → l2 (20 * j + i) + sk ≤ z → K.2.2.1 < K2.2.2.1) (s := K) n ⟨Int.le_refl _, fun j i hj => absurd hj (by omega)⟩ (fun y t hy ht => by
    have h2 := itr_ind (f := fun i K => mlS l2 sk z (i : Int) (y : Int) K) (P := fun m (K2 : MK) => (t.2.2.1 ≤ K2.2.2.1) ∧ ∀ i : Nat, i < m → l2 (20 * y + i) + sk ≤ z → t.2.2.1 < K2.2.2.1) (s := t) w ⟨Int.le_refl _, fun i hi => absurd hi (by omega)⟩ (fun x u hx hu => by
      unfold mlS
      rw [px20]
      by_cases a : l2 (20 * y + x) + sk ≤ z
      · rw [if_pos a]
        have h3 : (mkA (x : Int) (y : Int) z u).2.2.1 = u.2.2.1 + 1 := rfl
        rw [h3]
        exact ⟨by have := hu.1; omega, fun i _ _ => by have := hu.1; omega⟩
      · rw [if_neg a]
        refine ⟨hu.1, fun i hi hl => hu.2 i ?_ hl⟩
        rcases Nat.lt_or_ge i x with g | g
        · exact g
        · exact absurd (by rw [← show i = x from by omega]; exact hl) a)
    have h4 : t.2.2.1 ≤ (mlR l2 sk z (y : Int) w t).2.2.1 ∧ ∀ i : Nat, i < w → l2 (20 * y + i) + sk ≤ z → t.2.2.1 < (mlR l2 sk z (y : Int) w t).2.2.1 := h2
    refine ⟨by have := ht.1; have := h4.1; omega, fun j i hj hi hl => ?_⟩
    by_cases q : j = y
    · subst q
      have := h4.2 i hi hl
      have := ht.1
      omega
    · have := ht.2 j i (by omega) hi hl
      have := h4.1
      omega)
  exact h1
theorem mrG_le {w h X Y : Nat} {l2 : Nat → Int} {kd r st sk sh : Int} {n : Nat} {s : (MK × (Nat → Int)) × Int} (hw : w ≤ 20) (hh : h ≤ 20) (hr : 0 ≤ r ∧ r ≤ 5) (hn : n ≤ zN sh st) (hs : 1 ≤ sh ∧ sh ≤ 1000) (hst : 1 ≤ st ∧ st ≤ 1000) (hX : X < w) (hY : Y < h) (c : Int) : c ≤ (mrG w h l2 kd r st sk sh n s).1.2 (20 * Y + X) ↔ (c ≤ s.1.2 (20 * Y + X) ∧ ∀ k : Nat, k < n → ∀ x y : Nat, x < w → y < h → l2 (20 * y + x) + sk ≤ zL sh st k → cst kd r X Y x y (zL sh st k) c) := by
  unfold mrG
  refine itr_le (g := fun s : (MK × (Nat → Int)) × Int => s.1.2 (20 * Y + X)) (P := fun k c => ∀ x y : Nat, x < w → y < h → l2 (20 * y + x) + sk ≤ zL sh st k → cst kd r X Y x y (zL sh st k) c) n (fun k s hk c => ?_) s c
  have hz := zL_in (k := k) (by omega) hs hst
  have htip : ∀ i j : Nat, i < w → j < h → (mlF w l2 sk (zL sh st k) h (mkN 400 s.1.1)).1 (20 * j + i) = if l2 (20 * j + i) + sk ≤ zL sh st k then zL sh st k else -1 := fun i j hi hj => by
    rw [mlF_tip hw hi]
    have h1 : (mkN 400 s.1.1).1 (20 * j + i) = -1 := by
      show flF (-1) 400 s.1.1.1 (20 * j + i) = -1
      rw [flF_at, if_pos (by omega)]
    rw [h1]
    by_cases q : l2 (20 * j + i) + sk ≤ zL sh st k
    · rw [if_pos ⟨hj, q⟩, if_pos q]
    · rw [if_neg (fun g => q g.2), if_neg q]
  have hcnt := mlF_cnt (w := w) (l2 := l2) (sk := sk) (z := zL sh st k) (n := h) (K := mkN 400 s.1.1)
  show c ≤ (if s.1.1.2.2.1 < (mlF w l2 sk (zL sh st k) h (mkN 400 s.1.1)).2.2.1 then cmF w h (mlF w l2 sk (zL sh st k) h (mkN 400 s.1.1)).1 kd r h s.1.2 else s.1.2) (20 * Y + X) ↔ _
  by_cases q : s.1.1.2.2.1 < (mlF w l2 sk (zL sh st k) h (mkN 400 s.1.1)).2.2.1
  · rw [if_pos q, cmF_le hw hr hX hY]
    refine and_congr_right (fun _ => ⟨fun hq x y hx hy hl => ?_, fun hq i j hi hj h0 => ?_⟩)
    · have h2 := hq x y hx hy
      rw [htip x y hx hy, if_pos hl] at h2
      exact h2 (by omega)
    · rw [htip i j hi hj] at h0 ⊢
      by_cases a : l2 (20 * j + i) + sk ≤ zL sh st k
      · rw [if_pos a]
        exact hq i j hi hj a
      · rw [if_neg a] at h0
        omega
  · rw [if_neg q]
    exact ⟨fun g => ⟨g, fun x y hx hy hl => absurd (hcnt.2 y x hy hx hl) q⟩, fun g => g.1⟩
theorem low_ex {sh st sk L : Int} (hs : 1 ≤ sh ∧ sh ≤ 1000) (hst : 1 ≤ st ∧ st ≤ 1000) : ∀ (m k : Nat), k + m + 1 = zN sh st → L + sk ≤ zL sh st k → ∃ k2 : Nat, k2 < zN sh st ∧ low sk st (zL sh st k2) L ∧ zL sh st k2 ≤ zL sh st k := by
  intro m
  induction m with
  | zero =>
    intro k hk hl
    refine ⟨k, by omega, ⟨hl, Or.inl ?_⟩, Int.le_refl _⟩
    have h1 := zL_out hs hst
    rw [zL_s, show k + 1 = zN sh st from by omega]
    exact h1.1
  | succ m ih =>
    intro k hk hl
    by_cases q : L + sk ≤ zL sh st (k + 1)
    · obtain ⟨k2, h1, h2, h3⟩ := ih (k + 1) (by omega) q
      have h4 := zL_s sh st k
      exact ⟨k2, h1, h2, by omega⟩
    · refine ⟨k, by omega, ⟨hl, Or.inr ?_⟩, Int.le_refl _⟩
      rw [zL_s]
      omega
theorem rough_eq {w h : Nat} {l1 l2 d ma mn : Nat → Int} {kd r st sk sh : Int} {T : TK} {K : MK} (ht : tlOK kd r d) (e : eqP w h l2 l1) (em : eqP w h mn ma) (hr : 0 ≤ r ∧ r ≤ 5) (hw : w ≤ 20) (hh : h ≤ 20) (hs : 1 ≤ sh ∧ sh ≤ 1000) (hst : 1 ≤ st ∧ st ≤ 1000) : eqP w h (mrG w h l2 kd r st sk sh (zN sh st) ((K, mn), 0)).1.2 (rgF w h l1 d r st sk sh (zN sh st) ((T, ma), 0)).1.2 := by
  intro X Y hX hY
  refine eq_of_le (fun c => ?_)
  rw [mrG_le hw hh hr (Nat.le_refl _) hs hst hX hY, rgF_le ht hr hX hY]
  dsimp only
  rw [em X Y hX hY]
  refine and_congr_right (fun _ => ⟨fun hq k hk y hy x hx hl => ?_, fun hq k hk x y hx hy hl hp => ?_⟩)
  · exact hq k hk x y hx hy (by rw [e x y hx hy]; exact hl.1)
  · rw [e x y hx hy] at hl
    obtain ⟨k2, h1, h2, h3⟩ := low_ex hs hst (zN sh st - k - 1) k (by omega) hl
    have h4 := hq k2 h1 y hy x hx h2 hp
    omega
section ERel
variable {w h : Nat} {wa ma ka li : Nat → Int} {hk sh : Int} {T : TK} {kd rd : Nat → Int} {dp : Nat → Nat → Int} {wn mn kn : Nat → Int} {ik so : Int} {ks rs lf : Nat → Int} {K : MK}
theorem e_rough_l (hR : zRel w h wa ma ka li hk sh T kd rd dp wn mn kn ik so ks rs lf K) {j : Nat} (hj : j < 4) : eqP w h (llF w h wn (ks j) (rs j) 400 lf) (ltF w h wa (dp j) (rs j) h li) := fun x y hx hy => by
  rw [lf_L hR.hw.2 hR.hh.2 hx hy, li_L (hR.tl hj) hR.2.1.1 (hR.hrs _ hj) hR.hwn hx hy]
theorem e_rough_a (hR : zRel w h wa ma ka li hk sh T kd rd dp wn mn kn ik so ks rs lf K) (t st sk : Int) (hc : cod3 (isW t 0 3) (isW st 1 1000) (isW sk 0 1000) = 0) : (((rgF w h (ltF w h wa (dp t.toNat) (rd t.toNat) h li) (dp t.toNat) (rd t.toNat) st sk sh (zN sh st) ((tkC T, ma), 0)).2) : Int) = (if cod3 (isW t 0 3) (isW st 1 1000) (isW sk 0 1000) ≤ 0 then (mrG w h (llF w h wn (ks t.toNat) (rs t.toNat) 400 lf) (ks t.toNat) (rs t.toNat) st sk so (zN so st) ((mkB K, mn), 0)).2 else 0) := by
  rw [if_pos (by omega), hR.rr, hR.ss]
  have hok := cod3_ok (p := isW t 0 3) (q := isW st 1 1000) (r := isW sk 0 1000) (by omega)
  have h1 := isW_t.mp hok.1
  exact (rg_mv hR.hw.2 hR.hh.2 (e_rough_l hR (by omega)) ⟨mv_new hR.2.2.2.2.2.1.2.2, Int.le_refl 0⟩).2
theorem e_rough_r (hR : zRel w h wa ma ka li hk sh T kd rd dp wn mn kn ik so ks rs lf K) (t st sk : Int) : zRel w h wa (if cod3 (isW t 0 3) (isW st 1 1000) (isW sk 0 1000) ≤ 0 then (rgF w h (ltF w h wa (dp t.toNat) (rd t.toNat) h li) (dp t.toNat) (rd t.toNat) st sk sh (zN sh st) ((tkC T, ma), 0)).1.2 else ma) ka (if cod3 (isW t 0 3) (isW st 1 1000) (isW sk 0 1000) ≤ 0 then ltF w h wa (dp t.toNat) (rd t.toNat) h li else li) hk sh (if cod3 (isW t 0 3) (isW st 1 1000) (isW sk 0 1000) ≤ 0 then (rgF w h (ltF w h wa (dp t.toNat) (rd t.toNat) h li) (dp t.toNat) (rd t.toNat) st sk sh (zN sh st) ((tkC T, ma), 0)).1.1 else T) kd rd dp wn (if cod3 (isW t 0 3) (isW st 1 1000) (isW sk 0 1000) ≤ 0 then (mrG w h (llF w h wn (ks t.toNat) (rs t.toNat) 400 lf) (ks t.toNat) (rs t.toNat) st sk so (zN so st) ((mkB K, mn), 0)).1.2 else mn) kn ik so ks rs (if cod3 (isW t 0 3) (isW st 1 1000) (isW sk 0 1000) ≤ 0 then llF w h wn (ks t.toNat) (rs t.toNat) 400 lf else lf) (if cod3 (isW t 0 3) (isW st 1 1000) (isW sk 0 1000) ≤ 0 then (mrG w h (llF w h wn (ks t.toNat) (rs t.toNat) 400 lf) (ks t.toNat) (rs t.toNat) st sk so (zN so st) ((mkB K, mn), 0)).1.1 else K) := by
  by_cases q : cod3 (isW t 0 3) (isW st 1 1000) (isW sk 0 1000) ≤ 0
  · rw [if_pos q, if_pos q, if_pos q, if_pos q, if_pos q, if_pos q]
    have hok := cod3_ok q
    have h1 := isW_t.mp hok.1
    have h2 := isW_t.mp hok.2.1
    have hE := e_rough_l hR (j := t.toNat) (by omega)
    have hrr := hR.hrs t.toNat (by omega)
    have hdp := hR.hdp t.toNat (by omega)
    have hL1 := ltF_rg (w := w) (h := h) (r := rs t.toNat) (n := h) hR.hwa hdp hR.hli
    have hL2 := llF_rg (w := w) (h := h) (kd := ks t.toNat) (r := rs t.toNat) (n := 400) hR.hwn hR.hlf
    have hz := zN_le hR.hso h2
    have hA := rg_mv (d := dp t.toNat) (ma := ma) (mn := mn) (kd := ks t.toNat) (r := rs t.toNat) (st := st) (sk := sk) (sh := so) (n := zN so st) hR.hw.2 hR.hh.2 hE ⟨mv_new hR.2.2.2.2.2.1.2.2, Int.le_refl 0⟩
    have hM := rough_eq (sk := sk) (T := tkC T) (K := mkB K) (hR.tl (j := t.toNat) (by omega)) hE hR.2.1.2.1 hrr hR.hw.2 hR.hh.2 hR.hso h2
    have hT := rgF_ok (w := w) (h := h) (li := ltF w h wa (dp t.toNat) (rs t.toNat) h li) (r := rs t.toNat) (st := st) (sk := sk) (sh := so) (n := zN so st) (s := ((tkC T, ma), 0)) hR.hw.2 hR.hh.2 (Nat.le_refl _) hR.hso h2 hdp (tkC_ok hR.hT0) hR.hma ⟨Int.le_refl 0, Int.le_refl 0⟩
    have hK := mrG_ok (w := w) (h := h) (lf := llF w h wn (ks t.toNat) (rs t.toNat) 400 lf) (kd := ks t.toNat) (r := rs t.toNat) (st := st) (sk := sk) (so := so) (n := zN so st) (s := ((mkB K, mn), 0)) hR.hw.2 hR.hh.2 (Nat.le_refl _) hR.hso h2 (mkB_ok hR.hK0) hR.hmn ⟨Int.le_refl 0, Int.le_refl 0⟩
    rw [hR.rr, hR.ss]
    have hrd := hR.rr
    have hss := hR.ss
    obtain ⟨hz1, ⟨e1, e2, e3⟩, ⟨b1, b2, b3, b4⟩, ⟨c1, c2, c3, c4⟩, h5, h6, h7⟩ := hR
    rw [hrd, hss] at h7
    rw [hss] at h5
    exact ⟨hz1, ⟨e1, hM, e3⟩, ⟨b1, hT.1.2, b3, hL1⟩, ⟨c1, hK.1.2, c3, hL2⟩, h5, ⟨hT.1.1.mono (by omega), hK.1.1.mono (by omega), hA.1.1⟩, h7⟩
  · rw [if_neg q, if_neg q, if_neg q, if_neg q, if_neg q, if_neg q]
    exact hR
end ERel
