/-! the reference's methods as functions of numbers -/
abbrev MK : Type := (Nat → Int) × (Nat → Int) × Int × Int × Int × Int × Int
def mkB (K : MK) : MK := (K.1, K.2.1, 0, 0, K.2.2.2.2.1, K.2.2.2.2.2.1, K.2.2.2.2.2.2)
def mkN (n : Nat) (K : MK) : MK := (flF (-1) n K.1, K.2.1, K.2.2.1, K.2.2.2.1, K.2.2.2.2.1, K.2.2.2.2.2.1, K.2.2.2.2.2.2)
def mkA (x y z : Int) (K : MK) : MK := (uI K.1 (20 * y + x).toNat z, if K.2.2.1 < 2000 then uI (uI (uI K.2.1 (3 * K.2.2.1).toNat x) (3 * K.2.2.1 + 1).toNat y) (3 * K.2.2.1 + 2).toNat z else K.2.1, K.2.2.1 + 1, if 0 < K.2.2.1 then K.2.2.2.1 + (zab (x - K.2.2.2.2.1) + zab (y - K.2.2.2.2.2.1) + zab (z - K.2.2.2.2.2.2)) else K.2.2.2.1, x, y, z)
def mkOK (K : MK) (M : Int) : Prop := (0 ≤ K.2.2.1 ∧ K.2.2.1 ≤ M) ∧ (0 ≤ K.2.2.2.2.1 ∧ K.2.2.2.2.1 < 20) ∧ (0 ≤ K.2.2.2.2.2.1 ∧ K.2.2.2.2.2.1 < 20) ∧ (0 ≤ K.2.2.2.2.2.2 ∧ K.2.2.2.2.2.2 ≤ 1000) ∧ bd K.1 (-1) 1000
theorem mkOK.mono {K : MK} {M M' : Int} (h : mkOK K M) (hm : M ≤ M') : mkOK K M' := ⟨⟨h.1.1, by have := h.1.2; omega⟩, h.2⟩
theorem mkA_ok {K : MK} {M x y z : Int} (h : mkOK K M) (hx : 0 ≤ x ∧ x < 20) (hy : 0 ≤ y ∧ y < 20) (hz : 0 ≤ z ∧ z ≤ 1000) : mkOK (mkA x y z K) (M + 1) := by
  obtain ⟨h1, h2, h3, h4, h5⟩ := h
  refine ⟨?_, hx, hy, hz, bd_uI h5 (by omega)⟩
  show 0 ≤ K.2.2.1 + 1 ∧ K.2.2.1 + 1 ≤ M + 1
  omega
theorem mkB_ok {K : MK} {M : Int} (h : mkOK K M) : mkOK (mkB K) 0 := ⟨⟨Int.le_refl 0, Int.le_refl 0⟩, h.2⟩
theorem mkN_ok {K : MK} {M : Int} {n : Nat} (h : mkOK K M) : mkOK (mkN n K) M := ⟨h.1, h.2.1, h.2.2.1, h.2.2.2.1, flF_rg h.2.2.2.2 (by decide)⟩
def plB (w h : Nat) (x y : Int) : Int := if 0 ≤ x ∧ x < (w : Int) ∧ 0 ≤ y ∧ y < (h : Int) then 1 else 0
theorem plB_01 (w h : Nat) (x y : Int) : plB w h x y = 0 ∨ plB w h x y = 1 := by unfold plB; split <;> simp
theorem plB_rg (w h : Nat) (x y : Int) : rg (plB w h x y) := by rcases plB_01 w h x y with e | e <;> rw [e] <;> decide
theorem plB_t {w h : Nat} {x y : Int} : ¬ plB w h x y = 0 ↔ (0 ≤ x ∧ x < (w : Int) ∧ 0 ≤ y ∧ y < (h : Int)) := by unfold plB; split <;> simp_all
theorem plB_f {w h : Nat} {x y : Int} : plB w h x y = 0 ↔ ¬ (0 ≤ x ∧ x < (w : Int) ∧ 0 ≤ y ∧ y < (h : Int)) := by unfold plB; split <;> simp_all
/-- the code of a call: 0, or which exception -/
def cod1 (p : Int) : Int := if p = 0 then 1 else 0
def cod1a (p q : Int) : Int := if p = 0 ∨ q = 0 then 1 else 0
def cod2 (p q : Int) : Int := if p = 0 then 1 else if q = 0 then 2 else 0
def cod3 (p q r : Int) : Int := if p = 0 then 1 else if q = 0 ∨ r = 0 then 2 else 0
def codS (p g v : Int) : Int := if p = 0 then 1 else if v < g then 2 else 0
def codM (p q u k : Int) : Int := if p = 0 ∨ q = 0 then 1 else if 0 < u ∧ k = 0 then 2 else 0
theorem cod1_rg (p : Int) : 0 ≤ cod1 p ∧ cod1 p ≤ 2 := by unfold cod1; split <;> omega
theorem cod1a_rg (p q : Int) : 0 ≤ cod1a p q ∧ cod1a p q ≤ 2 := by unfold cod1a; split <;> omega
theorem cod2_rg (p q : Int) : 0 ≤ cod2 p q ∧ cod2 p q ≤ 2 := by unfold cod2; (repeat' split) <;> omega
theorem cod3_rg (p q r : Int) : 0 ≤ cod3 p q r ∧ cod3 p q r ≤ 2 := by unfold cod3; (repeat' split) <;> omega
theorem codS_rg (p g v : Int) : 0 ≤ codS p g v ∧ codS p g v ≤ 2 := by unfold codS; (repeat' split) <;> omega
theorem codM_rg (p q u k : Int) : 0 ≤ codM p q u k ∧ codM p q u k ≤ 2 := by unfold codM; (repeat' split) <;> omega
theorem cod1_ok {p : Int} (h : cod1 p ≤ 0) : ¬ p = 0 := by unfold cod1 at h; split at h <;> omega
theorem cod1a_ok {p q : Int} (h : cod1a p q ≤ 0) : ¬ p = 0 ∧ ¬ q = 0 := by unfold cod1a at h; split at h <;> omega
theorem cod2_ok {p q : Int} (h : cod2 p q ≤ 0) : ¬ p = 0 ∧ ¬ q = 0 := by unfold cod2 at h; (repeat' split at h) <;> omega
theorem cod3_ok {p q r : Int} (h : cod3 p q r ≤ 0) : ¬ p = 0 ∧ ¬ q = 0 ∧ ¬ r = 0 := by unfold cod3 at h; (repeat' split at h) <;> omega
theorem codS_ok {p g v : Int} (h : codS p g v ≤ 0) : ¬ p = 0 ∧ g ≤ v := by unfold codS at h; (repeat' split at h) <;> omega
theorem codM_ok {p q u k : Int} (h : codM p q u k ≤ 0) : ¬ p = 0 ∧ ¬ q = 0 ∧ (u ≤ 0 ∨ ¬ k = 0) := by unfold codM at h; (repeat' split at h) <;> omega
theorem uI_id {f : Nat → Int} {k : Nat} : uI f k (f k) = f := by
  funext j
  by_cases h : j = k
  · rw [h, uI_s]
  · rw [uI_n h]
def puM (f : Nat → Int) (k : Nat) (v c : Int) : Nat → Int := if c ≤ 0 then uI f k v else f
theorem z_i20 {w h : Nat} {x y : Int} (hw : w ≤ 20) (hh : h ≤ 20) (h0 : 0 ≤ x) (h1 : x < w) (h2 : 0 ≤ y) (h3 : y < h) : 0 ≤ 20 * y + x ∧ 20 * y + x < ((400 : Nat) : Int) := by omega
def pfM (kd r dx dy : Int) : Int := if (-r ≤ dx ∧ dx ≤ r) ∧ (-r ≤ dy ∧ dy ≤ r) then das kd r (dx * dx + dy * dy) else -1
theorem pfM_rg {kd r dx dy : Int} (h0 : 0 ≤ r) (h5 : r ≤ 5) : -1 ≤ pfM kd r dx dy ∧ pfM kd r dx dy ≤ 5 := by
  unfold pfM
  split
  · rename_i h
    have h1 := z_sqm h.1.1 h.1.2 h5
    have h2 := z_sqm h.2.1 h.2.2 h5
    exact das_rg h0 h5 (by omega)
  · omega
def gmR (wn : Nat → Int) (y : Int) (n : Nat) (g : Int) : Int := itr (fun i g => max g (wn (20 * y + (i : Int)).toNat)) n g
def gmF (w : Nat) (wn : Nat → Int) (n : Nat) : Int := itr (fun j g => gmR wn (j : Int) w g) n 0
theorem gmR_rg {wn : Nat → Int} {y g : Int} {n : Nat} (h : bd wn 0 1000) (hg : 0 ≤ g ∧ g ≤ 1000) : 0 ≤ gmR wn y n g ∧ gmR wn y n g ≤ 1000 :=
  itr_inv (P := fun g => 0 ≤ g ∧ g ≤ 1000) n hg (fun i g _ hg => by have := h (20 * y + (i : Int)).toNat; omega)
theorem gmF_rg {w : Nat} {wn : Nat → Int} {n : Nat} (h : bd wn 0 1000) : 0 ≤ gmF w wn n ∧ gmF w wn n ≤ 1000 :=
  itr_inv (P := fun g => 0 ≤ g ∧ g ≤ 1000) n (by decide) (fun _ _ _ hg => gmR_rg h hg)
def lmS (wn : Nat → Int) (kd r x y px py g : Int) : Int := if 0 ≤ pfM kd r (px - x) (py - y) ∧ g < wn (20 * py + px).toNat - pfM kd r (px - x) (py - y) then wn (20 * py + px).toNat - pfM kd r (px - x) (py - y) else g
def lmR (wn : Nat → Int) (kd r x y py : Int) (n : Nat) (g : Int) : Int := itr (fun i g => lmS wn kd r x y (loB r x + (i : Int)) py g) n g
def lmF (w : Nat) (wn : Nat → Int) (kd r x y : Int) (n : Nat) : Int := itr (fun j g => lmR wn kd r x y (loB r y + (j : Int)) (nB w r x) g) n (-1)
theorem lmS_rg {wn : Nat → Int} {kd r x y px py g : Int} (hw : bd wn 0 1000) (hg : -1 ≤ g ∧ g ≤ 1000) : -1 ≤ lmS wn kd r x y px py g ∧ lmS wn kd r x y px py g ≤ 1000 := by
  unfold lmS
  have h2 := hw (20 * py + px).toNat
  split <;> omega
theorem lmR_rg {wn : Nat → Int} {kd r x y py g : Int} {n : Nat} (hw : bd wn 0 1000) (hg : -1 ≤ g ∧ g ≤ 1000) : -1 ≤ lmR wn kd r x y py n g ∧ lmR wn kd r x y py n g ≤ 1000 :=
  itr_inv (P := fun g => -1 ≤ g ∧ g ≤ 1000) n hg (fun _ _ _ h => lmS_rg hw h)
theorem lmF_rg {w : Nat} {wn : Nat → Int} {kd r x y : Int} {n : Nat} (hw : bd wn 0 1000) : -1 ≤ lmF w wn kd r x y n ∧ lmF w wn kd r x y n ≤ 1000 :=
  itr_inv (P := fun g => -1 ≤ g ∧ g ≤ 1000) n (by decide) (fun _ _ _ h => lmR_rg hw h)
