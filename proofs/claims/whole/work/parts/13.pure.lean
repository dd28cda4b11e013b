/-! the class's methods as functions of numbers -/
def itr {σ : Type} (f : Nat → σ → σ) : Nat → σ → σ
  | 0, s => s
  | n + 1, s => f n (itr f n s)
theorem itr_inv {σ : Type} {f : Nat → σ → σ} {P : σ → Prop} {s : σ} (n : Nat) (h0 : P s) (hs : ∀ i t, i < n → P t → P (f i t)) : P (itr f n s) := by
  induction n with
  | zero => exact h0
  | succ n ih => exact hs n _ (Nat.lt_succ_self n) (ih (fun i t h => hs i t (Nat.lt_succ_of_lt h)))
/-- an invariant that knows the step's number -/
theorem itr_ind {σ : Type} {f : Nat → σ → σ} {P : Nat → σ → Prop} {s : σ} (n : Nat) (h0 : P 0 s) (hs : ∀ i t, i < n → P i t → P (i + 1) (f i t)) : P n (itr f n s) := by
  induction n with
  | zero => exact h0
  | succ n ih => exact hs n _ (Nat.lt_succ_self n) (ih (fun i t h => hs i t (Nat.lt_succ_of_lt h)))
theorem itr_congr {σ : Type} {f g : Nat → σ → σ} {s : σ} (n : Nat) (h : ∀ i t, i < n → f i t = g i t) : itr f n s = itr g n s := by
  induction n with
  | zero => rfl
  | succ n ih => show f n (itr f n s) = g n (itr g n s); rw [ih (fun i t hi => h i t (Nat.lt_succ_of_lt hi)), h n _ (Nat.lt_succ_self n)]
abbrev bd (f : Nat → Int) (lo hi : Int) : Prop := ∀ k, lo ≤ f k ∧ f k ≤ hi
theorem bd_uI {f : Nat → Int} {lo hi x : Int} {k : Nat} (h : bd f lo hi) (hx : lo ≤ x ∧ x ≤ hi) : bd (uI f k x) lo hi := by
  intro j
  by_cases hj : j = k
  · rw [hj, uI_s]; exact hx
  · rw [uI_n hj]; exact h j
/-- a place of the relief -/
theorem z_ix {w h : Nat} {x y : Int} (h0 : 0 ≤ x) (h1 : x < w) (h2 : 0 ≤ y) (h3 : y < h) : 0 ≤ y * w + x ∧ y * w + x < ((w * h : Nat) : Int) := by
  obtain ⟨a, rfl⟩ := Int.eq_ofNat_of_zero_le h0
  obtain ⟨b, rfl⟩ := Int.eq_ofNat_of_zero_le h2
  have h4 : b + 1 ≤ h := by omega
  have h5 : (b + 1) * w ≤ h * w := Nat.mul_le_mul_right w h4
  have h6 : (b + 1) * w = b * w + w := Nat.succ_mul b w
  have h7 : w * h = h * w := Nat.mul_comm w h
  have h8 : ((b : Int) * (w : Int)) = ((b * w : Nat) : Int) := by simp
  rw [h8]
  omega
theorem z_wh {w h : Nat} (hw : w ≤ 20) (hh : h ≤ 20) : w * h ≤ 400 := by
  have := Nat.mul_le_mul hw hh
  omega
def isW (n a b : Int) : Int := if a ≤ n ∧ n ≤ b then 1 else 0
theorem isW_01 (n a b : Int) : isW n a b = 0 ∨ isW n a b = 1 := by unfold isW; split <;> simp
theorem isW_rg (n a b : Int) : rg (isW n a b) := by rcases isW_01 n a b with h | h <;> rw [h] <;> decide
theorem isW_t {n a b : Int} : ¬ isW n a b = 0 ↔ (a ≤ n ∧ n ≤ b) := by unfold isW; split <;> simp_all
theorem isW_f {n a b : Int} : isW n a b = 0 ↔ ¬ (a ≤ n ∧ n ≤ b) := by unfold isW; split <;> simp_all
theorem z_sq {r : Int} (h0 : 0 ≤ r) (h5 : r ≤ 5) : 0 ≤ r * r ∧ r * r ≤ 25 := by
  have h2 : r = 0 ∨ r = 1 ∨ r = 2 ∨ r = 3 ∨ r = 4 ∨ r = 5 := by omega
  rcases h2 with rfl | rfl | rfl | rfl | rfl | rfl <;> decide
def flR (q : Int) : Int := if q < 1 then 0 else if q < 4 then 1 else if q < 9 then 2 else if q < 16 then 3 else if q < 25 then 4 else 5
def clR (q : Int) : Int := if q ≤ 0 then 0 else if q ≤ 1 then 1 else if q ≤ 4 then 2 else if q ≤ 9 then 3 else if q ≤ 16 then 4 else 5
def das (kd r q : Int) : Int := if r * r - q < 0 then -1 else if kd = 1 then r - flR (r * r - q) else if kd = 2 then clR q else 0
def dOv (dp : Nat → Int) (r dx dy : Int) : Int := if (-r ≤ dx ∧ dx ≤ r) ∧ (-r ≤ dy ∧ dy ≤ r) then dp ((dy + 5) * 11 + dx + 5).toNat else -1
def becR (kd r : Int) (n : Nat) (y : Int) (d : Nat → Int) : Nat → Int := itr (fun i d => uI d ((y + 5) * 11 + (-r + (i : Int)) + 5).toNat (das kd r ((-r + (i : Int)) * (-r + (i : Int)) + y * y))) n d
def becF (kd r : Int) (n k : Nat) (d : Nat → Int) : Nat → Int := itr (fun j d => becR kd r n (-r + (j : Int)) d) k d
theorem flR_rg (q : Int) : 0 ≤ flR q ∧ flR q ≤ 5 := by unfold flR; (repeat' split) <;> omega
theorem clR_rg (q : Int) : 0 ≤ clR q ∧ clR q ≤ 5 := by unfold clR; (repeat' split) <;> omega
theorem das_rg {kd r q : Int} (h0 : 0 ≤ r) (h5 : r ≤ 5) (hq : 0 ≤ q) : -1 ≤ das kd r q ∧ das kd r q ≤ 5 := by
  have h1 := clR_rg q
  have h2 : r = 0 ∨ r = 1 ∨ r = 2 ∨ r = 3 ∨ r = 4 ∨ r = 5 := by omega
  unfold das
  rcases h2 with rfl | rfl | rfl | rfl | rfl | rfl <;> (unfold flR; (repeat' split) <;> omega)
theorem dOv_rg {dp : Nat → Int} {r dx dy : Int} (h : bd dp (-1) 5) : -1 ≤ dOv dp r dx dy ∧ dOv dp r dx dy ≤ 5 := by
  unfold dOv
  split
  · exact h _
  · omega
def loB (r x : Int) : Int := max 0 (x - r)
def hiB (n : Nat) (r x : Int) : Int := min ((n : Int) - 1) (x + r)
def nB (n : Nat) (r x : Int) : Nat := (hiB n r x + 1 - loB r x).toNat
def lfS (w : Nat) (wa dp : Nat → Int) (r x y px py g : Int) : Int := if dOv dp r (px - x) (py - y) = -1 then g else max g (wa (py * w + px).toNat - dOv dp r (px - x) (py - y))
def lfR (w : Nat) (wa dp : Nat → Int) (r x y py : Int) (n : Nat) (g : Int) : Int := itr (fun i g => lfS w wa dp r x y (loB r x + (i : Int)) py g) n g
def lfF (w h : Nat) (wa dp : Nat → Int) (r x y : Int) (n : Nat) : Int := itr (fun j g => lfR w wa dp r x y (loB r y + (j : Int)) (nB w r x) g) n 0
theorem lfS_rg {w : Nat} {wa dp : Nat → Int} {r x y px py g : Int} (hw : bd wa 0 1000) (hd : bd dp (-1) 5) (hg : 0 ≤ g ∧ g ≤ 1000) : 0 ≤ lfS w wa dp r x y px py g ∧ lfS w wa dp r x y px py g ≤ 1000 := by
  unfold lfS
  have h1 := dOv_rg (r := r) (dx := px - x) (dy := py - y) hd
  have h2 := hw (py * w + px).toNat
  split
  · exact hg
  · omega
theorem lfR_rg {w : Nat} {wa dp : Nat → Int} {r x y py g : Int} {n : Nat} (hw : bd wa 0 1000) (hd : bd dp (-1) 5) (hg : 0 ≤ g ∧ g ≤ 1000) : 0 ≤ lfR w wa dp r x y py n g ∧ lfR w wa dp r x y py n g ≤ 1000 :=
  itr_inv (P := fun g => 0 ≤ g ∧ g ≤ 1000) n hg (fun _ _ _ h => lfS_rg hw hd h)
theorem lfF_rg {w h : Nat} {wa dp : Nat → Int} {r x y : Int} {n : Nat} (hw : bd wa 0 1000) (hd : bd dp (-1) 5) : 0 ≤ lfF w h wa dp r x y n ∧ lfF w h wa dp r x y n ≤ 1000 :=
  itr_inv (P := fun g => 0 ≤ g ∧ g ≤ 1000) n (by decide) (fun _ _ _ h => lfR_rg hw hd h)
def cvS (w : Nat) (dp : Nat → Int) (r x y z px py : Int) (ma : Nat → Int) : Nat → Int := if dOv dp r (px - x) (py - y) = -1 then ma else if z + dOv dp r (px - x) (py - y) < ma (py * w + px).toNat then uI ma (py * w + px).toNat (z + dOv dp r (px - x) (py - y)) else ma
def cvR (w : Nat) (dp : Nat → Int) (r x y z py : Int) (n : Nat) (ma : Nat → Int) : Nat → Int := itr (fun i ma => cvS w dp r x y z (loB r x + (i : Int)) py ma) n ma
def cvF (w h : Nat) (dp : Nat → Int) (r x y z : Int) (n : Nat) (ma : Nat → Int) : Nat → Int := itr (fun j ma => cvR w dp r x y z (loB r y + (j : Int)) (nB w r x) ma) n ma
theorem cvS_rg {w : Nat} {dp ma : Nat → Int} {r x y z px py : Int} (hz : 0 ≤ z) (hd : bd dp (-1) 5) (hm : bd ma 0 1000) : bd (cvS w dp r x y z px py ma) 0 1000 := by
  unfold cvS
  have h1 := dOv_rg (r := r) (dx := px - x) (dy := py - y) hd
  have h2 := hm (py * w + px).toNat
  split
  · exact hm
  · split
    · exact bd_uI hm (by omega)
    · exact hm
theorem cvR_rg {w : Nat} {dp ma : Nat → Int} {r x y z py : Int} {n : Nat} (hz : 0 ≤ z) (hd : bd dp (-1) 5) (hm : bd ma 0 1000) : bd (cvR w dp r x y z py n ma) 0 1000 :=
  itr_inv (P := fun ma => bd ma 0 1000) n hm (fun _ _ _ h => cvS_rg hz hd h)
theorem cvF_rg {w h : Nat} {dp ma : Nat → Int} {r x y z : Int} {n : Nat} (hz : 0 ≤ z) (hd : bd dp (-1) 5) (hm : bd ma 0 1000) : bd (cvF w h dp r x y z n ma) 0 1000 :=
  itr_inv (P := fun ma => bd ma 0 1000) n hm (fun _ _ _ h => cvR_rg hz hd h)
/-- the moves: kept ones, how many, their way, the last one -/
abbrev TK : Type := (Nat → Int) × Int × Int × Int × Int × Int
def tkA (x y z : Int) (T : TK) : TK := (if T.2.1 < 2000 then uI T.1 T.2.1.toNat ((z * 20 + y) * 20 + x) else T.1, T.2.1 + 1, if 0 < T.2.1 then T.2.2.1 + (zab (x - T.2.2.2.1) + zab (y - T.2.2.2.2.1) + zab (z - T.2.2.2.2.2)) else T.2.2.1, x, y, z)
def tkC (T : TK) : TK := (T.1, 0, 0, T.2.2.2.1, T.2.2.2.2.1, T.2.2.2.2.2)
theorem z_sqm {a r : Int} (h0 : -r ≤ a) (h1 : a ≤ r) (h5 : r ≤ 5) : 0 ≤ a * a ∧ a * a ≤ 25 := by
  have h2 : a = -5 ∨ a = -4 ∨ a = -3 ∨ a = -2 ∨ a = -1 ∨ a = 0 ∨ a = 1 ∨ a = 2 ∨ a = 3 ∨ a = 4 ∨ a = 5 := by omega
  rcases h2 with rfl | rfl | rfl | rfl | rfl | rfl | rfl | rfl | rfl | rfl | rfl <;> decide
def mgF (u b d v : Int) : Int := if u = 1 then max b d else if u = 2 then min b d else max 0 (min 1000 (b + d - v))
theorem B_in {n i : Nat} {r x : Int} (hi : i < nB n r x) (h0 : 0 ≤ x) (h1 : x < n) (hr : 0 ≤ r) : 0 ≤ loB r x + (i : Int) ∧ loB r x + (i : Int) ≤ hiB n r x ∧ hiB n r x < n ∧ loB r x + (i : Int) ≤ x + r ∧ x - r ≤ loB r x + (i : Int) := by
  unfold nB hiB loB at *
  omega
theorem B_out {n : Nat} {r x : Int} (h0 : 0 ≤ x) (h1 : x < n) (hr : 0 ≤ r) : loB r x + ((nB n r x : Nat) : Int) = hiB n r x + 1 ∧ 0 ≤ loB r x ∧ hiB n r x < n ∧ loB r x ≤ hiB n r x := by
  unfold nB hiB loB
  omega
theorem zab_le {a b : Int} (h : -b ≤ a) (h2 : a ≤ b) : 0 ≤ zab a ∧ zab a ≤ b := by
  unfold zab
  split <;> omega
