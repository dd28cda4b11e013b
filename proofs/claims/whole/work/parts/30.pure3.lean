def flF (v : Int) (n : Nat) (f : Nat → Int) : Nat → Int := itr (fun i f => uI f i v) n f
theorem flF_rg {v : Int} {n : Nat} {f : Nat → Int} {lo hi : Int} (h : bd f lo hi) (hv : lo ≤ v ∧ v ≤ hi) : bd (flF v n f) lo hi := itr_inv (P := fun f => bd f lo hi) n h (fun _ _ _ hf => bd_uI hf hv)
def inc01 (a b : Int) : Int := if a < b then 1 else 0
theorem inc01_01 (a b : Int) : inc01 a b = 0 ∨ inc01 a b = 1 := by unfold inc01; split <;> simp
def evB (k : Int) : Int := if k % 2 = 0 then 1 else 0
theorem evB_01 (k : Int) : evB k = 0 ∨ evB k = 1 := by unfold evB; split <;> simp
theorem evB_rg (k : Int) : rg (evB k) := by rcases evB_01 k with h | h <;> rw [h] <;> decide
theorem mulS (i : Nat) (st : Int) : ((i : Nat) : Int) * st + st = ((i + 1 : Nat) : Int) * st := by
  rw [show ((i + 1 : Nat) : Int) = (i : Int) + 1 from by omega, Int.add_mul, Int.one_mul]
def zL (sh st : Int) (k : Nat) : Int := sh - ((k : Int) + 1) * st
def zN (sh st : Int) : Nat := ((sh - 1) / st).toNat
theorem zL_0 (sh st : Int) : sh - st = zL sh st 0 := by
  unfold zL
  rw [show (((0 : Nat) : Int) + 1) = 1 from rfl, Int.one_mul]
theorem zL_s (sh st : Int) (k : Nat) : zL sh st k - st = zL sh st (k + 1) := by
  unfold zL
  have := mulS (k + 1) st
  rw [show ((k + 1 : Nat) : Int) = (k : Int) + 1 from by omega] at this ⊢
  rw [show ((k + 1 + 1 : Nat) : Int) = (k : Int) + 1 + 1 from by omega] at this
  omega
theorem zL_in {sh st : Int} {k : Nat} (h : k < zN sh st) (h1 : 1 ≤ sh ∧ sh ≤ 1000) (h2 : 1 ≤ st ∧ st ≤ 1000) : 0 < zL sh st k ∧ zL sh st k ≤ 1000 := by
  unfold zN at h
  unfold zL
  have h3 : (k : Int) + 1 ≤ (sh - 1) / st := by omega
  have h4 := (Int.le_ediv_iff_mul_le (by omega : 0 < st)).mp h3
  have h5 : 0 ≤ ((k : Int) + 1) * st := Int.mul_nonneg (by omega) (by omega)
  omega
theorem zL_out {sh st : Int} (h1 : 1 ≤ sh ∧ sh ≤ 1000) (h2 : 1 ≤ st ∧ st ≤ 1000) : zL sh st (zN sh st) ≤ 0 ∧ -1000 ≤ zL sh st (zN sh st) := by
  have h0 : 0 ≤ (sh - 1) / st := Int.ediv_nonneg (by omega) (by omega)
  have hn : ((zN sh st : Nat) : Int) = (sh - 1) / st := by unfold zN; omega
  unfold zL
  rw [hn]
  have h4 : ¬ ((sh - 1) / st + 1 ≤ (sh - 1) / st) := by omega
  have h5 := mt (Int.le_ediv_iff_mul_le (by omega : 0 < st)).mpr h4
  have h6 := (Int.le_ediv_iff_mul_le (a := (sh - 1) / st) (b := sh - 1) (by omega : 0 < st)).mp (Int.le_refl _)
  have h7 : ((sh - 1) / st + 1) * st = (sh - 1) / st * st + st := by rw [Int.add_mul, Int.one_mul]
  omega
theorem zN_le {sh st : Int} (h1 : 1 ≤ sh ∧ sh ≤ 1000) (h2 : 1 ≤ st ∧ st ≤ 1000) : zN sh st ≤ 1000 := by
  have h3 := Int.ediv_le_self (a := sh - 1) st (by omega)
  unfold zN
  omega
def rgS (w h : Nat) (li dp : Nat → Int) (r st sk sh : Int) (k : Nat) (s : (TK × (Nat → Int)) × Int) : (TK × (Nat → Int)) × Int := (lvF w h li dp r (zL sh st k) st sk h s.1, s.2 + inc01 s.1.1.2.1 (lvF w h li dp r (zL sh st k) st sk h s.1).1.2.1)
def rgF (w h : Nat) (li dp : Nat → Int) (r st sk sh : Int) (n : Nat) (s : (TK × (Nat → Int)) × Int) : (TK × (Nat → Int)) × Int := itr (fun k s => rgS w h li dp r st sk sh k s) n s
theorem rgF_ok {w h : Nat} {li dp : Nat → Int} {r st sk sh M : Int} {n : Nat} {s : (TK × (Nat → Int)) × Int} (hw : w ≤ 20) (hh : h ≤ 20) (hn : n ≤ zN sh st) (h1 : 1 ≤ sh ∧ sh ≤ 1000) (h2 : 1 ≤ st ∧ st ≤ 1000) (hd : bd dp (-1) 5) (ht : tkOK s.1.1 M) (hm : bd s.1.2 0 1000) (hl : 0 ≤ s.2 ∧ s.2 ≤ 0) : (tkOK (rgF w h li dp r st sk sh n s).1.1 (M + 400 * n) ∧ bd (rgF w h li dp r st sk sh n s).1.2 0 1000) ∧ 0 ≤ (rgF w h li dp r st sk sh n s).2 ∧ (rgF w h li dp r st sk sh n s).2 ≤ n := by
  have hq := itr_ind (f := fun k s => rgS w h li dp r st sk sh k s) (P := fun i s => (tkOK s.1.1 (M + 400 * (i : Int)) ∧ bd s.1.2 0 1000) ∧ 0 ≤ s.2 ∧ s.2 ≤ (i : Int)) (s := s) n ⟨⟨ht.mono (by omega), hm⟩, hl⟩ (fun i t hi hp => by
    have hz := zL_in (k := i) (by omega) h1 h2
    obtain ⟨a, b⟩ := lvF_ok (w := w) (h := h) (li := li) (r := r) (st := st) (sk := sk) (z := zL sh st i) (n := h) hw hh ⟨by omega, by omega⟩ hd hp.1.1 hp.1.2
    have h01 := inc01_01 t.1.1.2.1 (lvF w h li dp r (zL sh st i) st sk h t.1).1.2.1
    refine ⟨⟨a.mono (by omega), b⟩, ?_⟩
    show 0 ≤ t.2 + inc01 _ _ ∧ t.2 + inc01 _ _ ≤ _
    omega)
  exact hq
def yN (h : Nat) (st : Int) : Nat := (((h : Int) - 1) / st + 1).toNat
theorem yN_in {h : Nat} {st : Int} {k : Nat} (hk : k < yN h st) (h1 : 1 ≤ h) (h2 : 1 ≤ st) : 0 ≤ (k : Int) * st ∧ (k : Int) * st < h := by
  unfold yN at hk
  have h0 : 0 ≤ ((h : Int) - 1) / st := Int.ediv_nonneg (by omega) (by omega)
  have h3 : (k : Int) ≤ ((h : Int) - 1) / st := by omega
  have h4 := (Int.le_ediv_iff_mul_le (by omega : 0 < st)).mp h3
  exact ⟨Int.mul_nonneg (by omega) (by omega), by omega⟩
theorem yN_out {h : Nat} {st : Int} (h1 : 1 ≤ h) (h2 : 1 ≤ st) : (h : Int) ≤ ((yN h st : Nat) : Int) * st ∧ ((yN h st : Nat) : Int) * st ≤ (h : Int) - 1 + st := by
  have h0 : 0 ≤ ((h : Int) - 1) / st := Int.ediv_nonneg (by omega) (by omega)
  have hn : ((yN h st : Nat) : Int) = ((h : Int) - 1) / st + 1 := by unfold yN; omega
  rw [hn]
  have h4 : ¬ (((h : Int) - 1) / st + 1 ≤ ((h : Int) - 1) / st) := by omega
  have h5 := mt (Int.le_ediv_iff_mul_le (by omega : 0 < st)).mpr h4
  have h6 := (Int.le_ediv_iff_mul_le (a := ((h : Int) - 1) / st) (b := (h : Int) - 1) (by omega : 0 < st)).mp (Int.le_refl _)
  have h7 : (((h : Int) - 1) / st + 1) * st = ((h : Int) - 1) / st * st + st := by rw [Int.add_mul, Int.one_mul]
  omega
theorem yN_le {h : Nat} {st : Int} (h1 : 1 ≤ h ∧ h ≤ 20) (h2 : 1 ≤ st) : yN h st ≤ 20 := by
  have h3 := Int.ediv_le_self (a := (h : Int) - 1) st (by omega)
  unfold yN
  omega
def fnF (w h : Nat) (wa dp : Nat → Int) (r st : Int) (n : Nat) (q : TK × (Nat → Int)) : TK × (Nat → Int) := itr (fun k q => rwF w h wa dp r ((k : Int) * st) (evB (k : Int)) w q) n q
def fnW (w h : Nat) (wa dp : Nat → Int) (r st : Int) (q : TK × (Nat → Int)) : TK × (Nat → Int) := if ((h : Int) - 1) % st = 0 then fnF w h wa dp r st (yN h st) q else rwF w h wa dp r ((h : Int) - 1) (evB ((yN h st : Nat) : Int)) w (fnF w h wa dp r st (yN h st) q)
def fnR (h : Nat) (st : Int) : Int := if ((h : Int) - 1) % st = 0 then ((yN h st : Nat) : Int) else ((yN h st : Nat) : Int) + 1
theorem fnF_ok {w h : Nat} {wa dp : Nat → Int} {r st M : Int} {n : Nat} {q : TK × (Nat → Int)} (hw : w ≤ 20) (hh : 1 ≤ h ∧ h ≤ 20) (hn : n ≤ yN h st) (h2 : 1 ≤ st) (hwa : bd wa 0 1000) (hd : bd dp (-1) 5) (ht : tkOK q.1 M) (hm : bd q.2 0 1000) : tkOK (fnF w h wa dp r st n q).1 (M + 20 * n) ∧ bd (fnF w h wa dp r st n q).2 0 1000 := by
  have hq := itr_ind (f := fun k q => rwF w h wa dp r ((k : Int) * st) (evB (k : Int)) w q) (P := fun i q => tkOK q.1 (M + 20 * (i : Int)) ∧ bd q.2 0 1000) (s := q) n ⟨ht.mono (by omega), hm⟩ (fun i t hi hp => by
    have hy := yN_in (k := i) (by omega) hh.1 h2
    obtain ⟨a, b⟩ := rwF_ok (w := w) (h := h) (r := r) (y := (i : Int) * st) (b := evB (i : Int)) (n := w) hw (Nat.le_refl _) ⟨hy.1, by omega⟩ hwa hd hp.1 hp.2
    exact ⟨a.mono (by omega), b⟩)
  exact hq
def dpU (dp : Nat → Nat → Int) (j : Nat) (d : Nat → Int) : Nat → Nat → Int := fun i => if i = j then d else dp i
