/-! both pictures are one -/
/-- the same numbers at the places -/
def eqP (w h : Nat) (f g : Nat → Int) : Prop := ∀ x y : Nat, x < w → y < h → f (20 * y + x) = g (y * w + x)
theorem pxw {x y w : Nat} : ((y : Int) * (w : Int) + (x : Int)).toNat = y * w + x := by
  rw [show ((y : Int) * (w : Int) + (x : Int)) = ((y * w + x : Nat) : Int) from by simp]
  exact Int.toNat_natCast _
theorem px20 {x y : Nat} : (20 * (y : Int) + (x : Int)).toNat = 20 * y + x := by omega
theorem eqP.i {w h : Nat} {f g : Nat → Int} (e : eqP w h f g) {x y : Int} (h0 : 0 ≤ x) (h1 : x < w) (h2 : 0 ≤ y) (h3 : y < h) : f (20 * y + x).toNat = g (y * (w : Int) + x).toNat := by
  obtain ⟨a, rfl⟩ := Int.eq_ofNat_of_zero_le h0
  obtain ⟨b, rfl⟩ := Int.eq_ofNat_of_zero_le h2
  show f (20 * (b : Int) + (a : Int)).toNat = g ((b : Int) * (w : Int) + (a : Int)).toNat
  rw [pxw, px20]
  exact e a b (by omega) (by omega)
theorem pinj {w x y a b : Nat} (hx : x < w) (ha : a < w) (e : y * w + x = b * w + a) : y = b ∧ x = a := by
  have h1 : (y * w + x) / w = y := by rw [Nat.mul_comm, Nat.mul_add_div (by omega), Nat.div_eq_of_lt hx]; rfl
  have h2 : (b * w + a) / w = b := by rw [Nat.mul_comm, Nat.mul_add_div (by omega), Nat.div_eq_of_lt ha]; rfl
  have h3 : y = b := by rw [← h1, ← h2, e]
  subst h3
  exact ⟨rfl, by omega⟩
theorem eqP.set {w h : Nat} {f g : Nat → Int} (e : eqP w h f g) {x y : Int} {v : Int} (hw : w ≤ 20) (h0 : 0 ≤ x) (h1 : x < w) (h2 : 0 ≤ y) (h3 : y < h) : eqP w h (uI f (20 * y + x).toNat v) (uI g (y * (w : Int) + x).toNat v) := by
  obtain ⟨a, rfl⟩ := Int.eq_ofNat_of_zero_le h0
  obtain ⟨b, rfl⟩ := Int.eq_ofNat_of_zero_le h2
  show eqP w h (uI f (20 * (b : Int) + (a : Int)).toNat v) (uI g ((b : Int) * (w : Int) + (a : Int)).toNat v)
  rw [pxw, px20]
  intro x y hx hy
  by_cases q : y = b ∧ x = a
  · rw [q.1, q.2, uI_s, uI_s]
  · rw [uI_n (fun z => q (by omega)), uI_n (fun z => q (pinj hx (by omega) z))]
    exact e x y hx hy
/-- two runs of a loop side by side -/
theorem itr_rel {σ τ : Type} {f : Nat → σ → σ} {g : Nat → τ → τ} {R : σ → τ → Prop} {s : σ} {t : τ} (n : Nat) (h0 : R s t) (hs : ∀ i a b, i < n → R a b → R (f i a) (g i b)) : R (itr f n s) (itr g n t) := by
  induction n with
  | zero => exact h0
  | succ n ih => exact hs n _ _ (Nat.lt_succ_self n) (ih (fun i a b hi => hs i a b (Nat.lt_succ_of_lt hi)))
/-- what is true of every step counted in two loops is true of the one loop over w * h steps -/
theorem itr_flat {σ : Type} {F : Nat → σ → σ} {w h : Nat} {s : σ} : itr F (h * w) s = itr (fun y s => itr (fun x s => F (y * w + x) s) w s) h s := by
  induction h with
  | zero => rw [Nat.zero_mul]; rfl
  | succ h ih =>
    have h1 : ∀ n, itr F (h * w + n) s = itr (fun x s => F (h * w + x) s) n (itr F (h * w) s) := by
      intro n
      induction n with
      | zero => rfl
      | succ n ih2 => show F (h * w + n) (itr F (h * w + n) s) = F (h * w + n) (itr (fun x s => F (h * w + x) s) n (itr F (h * w) s)); rw [ih2]
    rw [Nat.succ_mul, h1, ih]
    rfl
theorem z_gw {w h : Nat} {wn wa : Nat → Int} (e : eqP w h wn wa) : gmF w wn h = gwF wa (w * h) := by
  unfold gmF gwF
  rw [Nat.mul_comm w h, itr_flat]
  refine itr_congr h (fun y t hy => ?_)
  unfold gmR
  refine itr_congr w (fun x t hx => ?_)
  show max t (wn (20 * (y : Int) + (x : Int)).toNat) = max t (wa (y * w + x))
  rw [px20, e x y hx hy]
theorem z_sm {w h : Nat} {wn wa mn ma : Nat → Int} (e : eqP w h wn wa) (e2 : eqP w h mn ma) : xmF w mn wn h = smF ma wa (w * h) := by
  unfold xmF smF
  rw [Nat.mul_comm w h, itr_flat]
  refine itr_congr h (fun y t hy => ?_)
  unfold xmR
  refine itr_congr w (fun x t hx => ?_)
  show t + max 0 (mn (20 * (y : Int) + (x : Int)).toNat - wn (20 * (y : Int) + (x : Int)).toNat) = t + max 0 (ma (y * w + x) - wa (y * w + x))
  rw [px20, e x y hx hy, e2 x y hx hy]
theorem z_bl {w h : Nat} {wn wa mn ma : Nat → Int} (e : eqP w h wn wa) (e2 : eqP w h mn ma) : bmF w mn wn h = belF ma wa (w * h) := by
  have h1 : (bmF w mn wn h = 0 ∨ bmF w mn wn h = 1) ∧ bmF w mn wn h = belF ma wa (w * h) := by
    unfold bmF belF
    rw [Nat.mul_comm w h, itr_flat]
    refine itr_rel (R := fun a b => (a = 0 ∨ a = 1) ∧ a = b) h ⟨Or.inl rfl, rfl⟩ (fun y a b hy hab => ?_)
    unfold bmR
    refine itr_rel (R := fun a b => (a = 0 ∨ a = 1) ∧ a = b) w hab (fun x a b hx hab => ?_)
    skip
    rw [px20, e x y hx hy, e2 x y hx hy]
    obtain ⟨h1, rfl⟩ := hab
    by_cases q : ma (y * w + x) - wa (y * w + x) < 0
    · rw [if_pos (Or.inr q), if_pos q]; exact ⟨Or.inr rfl, rfl⟩
    · rw [if_neg q]
      rcases h1 with h1 | h1
      · rw [if_neg (fun z => z.elim (fun z => z h1) q), h1]; exact ⟨Or.inl rfl, rfl⟩
      · rw [if_pos (Or.inl (by omega)), h1]; exact ⟨Or.inr rfl, rfl⟩
  exact h1.2
theorem z_rs {w h : Nat} {wn wa mn ma : Nat → Int} {v k : Int} (e : eqP w h wn wa) (e2 : eqP w h mn ma) : rmF w mn wn v k h (0, -2) = rsF w ma wa v k h (0, -2) := by
  unfold rmF rsF
  refine itr_congr h (fun y t hy => ?_)
  unfold rmR rsR
  refine itr_congr w (fun x t hx => ?_)
  skip
  unfold rsS
  rw [px20, pxw, e x y hx hy, e2 x y hx hy]
theorem flF_at {v : Int} {n : Nat} {f : Nat → Int} {k : Nat} : flF v n f k = if k < n then v else f k := by
  unfold flF
  induction n with
  | zero => rfl
  | succ n ih =>
    show uI (itr (fun i f => uI f i v) n f) n v k = _
    by_cases q : k = n
    · rw [q, uI_s, if_pos (by omega)]
    · rw [uI_n q, ih]
      by_cases q2 : k < n
      · rw [if_pos q2, if_pos (by omega)]
      · rw [if_neg q2, if_neg (by omega)]
theorem plt {w h x y : Nat} (hx : x < w) (hy : y < h) : y * w + x < w * h := by
  have h1 : (y + 1) * w ≤ h * w := Nat.mul_le_mul_right w hy
  rw [Nat.succ_mul] at h1
  rw [Nat.mul_comm w h]
  omega
theorem z_fl {w h : Nat} {v : Int} {f g : Nat → Int} (hw : w ≤ 20) (hh : h ≤ 20) : eqP w h (flF v 400 f) (flF v (w * h) g) := by
  intro x y hx hy
  rw [flF_at, flF_at, if_pos (by omega), if_pos (plt hx hy)]
/-- a tool's table holds its profile -/
def tlOK (kd r : Int) (d : Nat → Int) : Prop := ∀ dx dy : Int, (-r ≤ dx ∧ dx ≤ r) → (-r ≤ dy ∧ dy ≤ r) → d ((dy + 5) * 11 + dx + 5).toNat = das kd r (dx * dx + dy * dy)
/-- the same moves -/
def mvOK (T : TK) (K : MK) : Prop := (K.2.2.1 = T.2.1 ∧ K.2.2.2.1 = T.2.2.1 ∧ K.2.2.2.2.1 = T.2.2.2.1 ∧ K.2.2.2.2.2.1 = T.2.2.2.2.1 ∧ K.2.2.2.2.2.2 = T.2.2.2.2.2) ∧ ∀ k : Nat, (k : Int) < T.2.1 → k < 2000 → (0 ≤ K.2.1 (3 * k) ∧ K.2.1 (3 * k) < 20) ∧ (0 ≤ K.2.1 (3 * k + 1) ∧ K.2.1 (3 * k + 1) < 20) ∧ T.1 k = (K.2.1 (3 * k + 2) * 20 + K.2.1 (3 * k + 1)) * 20 + K.2.1 (3 * k)
def zRel (w h : Nat) (wa ma ka li : Nat → Int) (hk sh : Int) (T : TK) (kd rd : Nat → Int) (dp : Nat → Nat → Int) (wn mn kn : Nat → Int) (ik so : Int) (ks rs lf : Nat → Int) (K : MK) : Prop :=
  ((1 ≤ w ∧ w ≤ 20) ∧ (1 ≤ h ∧ h ≤ 20)) ∧ (eqP w h wn wa ∧ eqP w h mn ma ∧ eqP w h kn ka) ∧ (bd wa 0 1000 ∧ bd ma 0 1000 ∧ bd ka 0 1000 ∧ bd li 0 1000) ∧ (bd wn 0 1000 ∧ bd mn 0 1000 ∧ bd kn 0 1000 ∧ bd lf (-1) 1000) ∧ ((hk = 0 ∨ hk = 1) ∧ (1 ≤ sh ∧ sh ≤ 1000)) ∧ (tkOK T 1000000 ∧ mkOK K 1000000 ∧ mvOK T K) ∧ (∀ j, j < 4 → (0 ≤ kd j ∧ kd j ≤ 2) ∧ (0 ≤ rd j ∧ rd j ≤ 5) ∧ bd (dp j) (-1) 5 ∧ tlOK (kd j) (rd j) (dp j)) ∧ (ik = hk ∧ so = sh ∧ ks = kd ∧ rs = rd)
section ZRel
variable {w h : Nat} {wa ma ka li : Nat → Int} {hk sh : Int} {T : TK} {kd rd : Nat → Int} {dp : Nat → Nat → Int} {wn mn kn : Nat → Int} {ik so : Int} {ks rs lf : Nat → Int} {K : MK}
theorem zRel.hw (hR : zRel w h wa ma ka li hk sh T kd rd dp wn mn kn ik so ks rs lf K) : 1 ≤ w ∧ w ≤ 20 := hR.1.1
theorem zRel.hh (hR : zRel w h wa ma ka li hk sh T kd rd dp wn mn kn ik so ks rs lf K) : 1 ≤ h ∧ h ≤ 20 := hR.1.2
theorem zRel.hwa (hR : zRel w h wa ma ka li hk sh T kd rd dp wn mn kn ik so ks rs lf K) : bd wa 0 1000 := hR.2.2.1.1
theorem zRel.hma (hR : zRel w h wa ma ka li hk sh T kd rd dp wn mn kn ik so ks rs lf K) : bd ma 0 1000 := hR.2.2.1.2.1
theorem zRel.hka (hR : zRel w h wa ma ka li hk sh T kd rd dp wn mn kn ik so ks rs lf K) : bd ka 0 1000 := hR.2.2.1.2.2.1
theorem zRel.hli (hR : zRel w h wa ma ka li hk sh T kd rd dp wn mn kn ik so ks rs lf K) : bd li 0 1000 := hR.2.2.1.2.2.2
theorem zRel.hwn (hR : zRel w h wa ma ka li hk sh T kd rd dp wn mn kn ik so ks rs lf K) : bd wn 0 1000 := hR.2.2.2.1.1
theorem zRel.hmn (hR : zRel w h wa ma ka li hk sh T kd rd dp wn mn kn ik so ks rs lf K) : bd mn 0 1000 := hR.2.2.2.1.2.1
theorem zRel.hkn (hR : zRel w h wa ma ka li hk sh T kd rd dp wn mn kn ik so ks rs lf K) : bd kn 0 1000 := hR.2.2.2.1.2.2.1
theorem zRel.hlf (hR : zRel w h wa ma ka li hk sh T kd rd dp wn mn kn ik so ks rs lf K) : bd lf (-1) 1000 := hR.2.2.2.1.2.2.2
theorem zRel.hk01 (hR : zRel w h wa ma ka li hk sh T kd rd dp wn mn kn ik so ks rs lf K) : hk = 0 ∨ hk = 1 := hR.2.2.2.2.1.1
theorem zRel.hsh (hR : zRel w h wa ma ka li hk sh T kd rd dp wn mn kn ik so ks rs lf K) : 1 ≤ sh ∧ sh ≤ 1000 := hR.2.2.2.2.1.2
theorem zRel.hT0 (hR : zRel w h wa ma ka li hk sh T kd rd dp wn mn kn ik so ks rs lf K) : tkOK T 1000000 := hR.2.2.2.2.2.1.1
theorem zRel.hK0 (hR : zRel w h wa ma ka li hk sh T kd rd dp wn mn kn ik so ks rs lf K) : mkOK K 1000000 := hR.2.2.2.2.2.1.2.1
theorem zRel.hkd (hR : zRel w h wa ma ka li hk sh T kd rd dp wn mn kn ik so ks rs lf K) : ∀ j, j < 4 → 0 ≤ kd j ∧ kd j ≤ 2 := fun j hj => (hR.2.2.2.2.2.2.1 j hj).1
theorem zRel.hrd (hR : zRel w h wa ma ka li hk sh T kd rd dp wn mn kn ik so ks rs lf K) : ∀ j, j < 4 → 0 ≤ rd j ∧ rd j ≤ 5 := fun j hj => (hR.2.2.2.2.2.2.1 j hj).2.1
theorem zRel.hdp (hR : zRel w h wa ma ka li hk sh T kd rd dp wn mn kn ik so ks rs lf K) : ∀ j, j < 4 → bd (dp j) (-1) 5 := fun j hj => (hR.2.2.2.2.2.2.1 j hj).2.2.1
theorem zRel.hik (hR : zRel w h wa ma ka li hk sh T kd rd dp wn mn kn ik so ks rs lf K) : ik = 0 ∨ ik = 1 := by have := hR.2.2.2.2.2.2.2.1; have := hR.hk01; omega
theorem zRel.hso (hR : zRel w h wa ma ka li hk sh T kd rd dp wn mn kn ik so ks rs lf K) : 1 ≤ so ∧ so ≤ 1000 := by have := hR.2.2.2.2.2.2.2.2.1; have := hR.hsh; omega
theorem zRel.hks (hR : zRel w h wa ma ka li hk sh T kd rd dp wn mn kn ik so ks rs lf K) : ∀ j, j < 4 → 0 ≤ ks j ∧ ks j ≤ 2 := by rw [hR.2.2.2.2.2.2.2.2.2.1]; exact hR.hkd
theorem zRel.hrs (hR : zRel w h wa ma ka li hk sh T kd rd dp wn mn kn ik so ks rs lf K) : ∀ j, j < 4 → 0 ≤ rs j ∧ rs j ≤ 5 := by rw [hR.2.2.2.2.2.2.2.2.2.2]; exact hR.hrd
end ZRel
/-- a new relief and a new reference -/
theorem e_new (w h : Nat) (hw : 1 ≤ w ∧ w ≤ 20) (hh : 1 ≤ h ∧ h ≤ 20) : zRel w h (fun _ => 0) (flF 1000 (w * h) (fun _ => 0)) (fun _ => 0) (fun _ => 0) 0 1000 ((fun _ => 0), 0, 0, 0, 0, 0) (fun _ => 0) (fun _ => 0) (fun _ => (fun _ => 0)) (fun _ => 0) (flF 1000 400 (fun _ => 0)) (fun _ => 0) 0 1000 (fun _ => 0) (fun _ => 0) (fun _ => 0) ((fun _ => 0), (fun _ => 0), 0, 0, 0, 0, 0) := by
  have b0 : bd (fun _ => 0) 0 1000 := fun _ => by simp
  refine ⟨⟨hw, hh⟩, ⟨fun _ _ _ _ => rfl, z_fl hw.2 hh.2, fun _ _ _ _ => rfl⟩, ⟨b0, flF_rg b0 (by decide), b0, b0⟩, ⟨b0, flF_rg b0 (by decide), b0, fun _ => by simp⟩, ⟨Or.inl rfl, by decide⟩, ⟨⟨by decide, by decide, by decide, by decide, fun _ => by simp⟩, ⟨by decide, by decide, by decide, by decide, fun _ => by simp⟩, ⟨rfl, rfl, rfl, rfl, rfl⟩, fun k h1 _ => ?_⟩, fun j _ => ⟨by simp, by simp, fun _ => by simp, fun dx dy h1 h2 => ?_⟩, rfl, rfl, rfl, rfl⟩
  · exact absurd h1 (by show ¬ ((k : Int) < 0); omega)
  · dsimp only at h1 h2 ⊢
    have h3 : dx = 0 := by omega
    have h4 : dy = 0 := by omega
    subst h3; subst h4
    decide
