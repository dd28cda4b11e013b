def cmS (w h : Nat) (tp : Nat → Int) (kd r x y ii jj : Int) (mn : Nat → Int) : Nat → Int := if 0 ≤ pfM kd r (x - ii) (y - jj) ∧ (0 ≤ ii ∧ ii < (w : Int) ∧ 0 ≤ jj ∧ jj < (h : Int)) ∧ 0 ≤ tp (20 * jj + ii).toNat then uI mn (20 * y + x).toNat (if tp (20 * jj + ii).toNat + pfM kd r (x - ii) (y - jj) < mn (20 * y + x).toNat then tp (20 * jj + ii).toNat + pfM kd r (x - ii) (y - jj) else mn (20 * y + x).toNat) else mn
def cmR (w h : Nat) (tp : Nat → Int) (kd r x y jj : Int) (n : Nat) (mn : Nat → Int) : Nat → Int := itr (fun i mn => cmS w h tp kd r x y (x - r + (i : Int)) jj mn) n mn
def cmQ (w h : Nat) (tp : Nat → Int) (kd r x y : Int) (n : Nat) (mn : Nat → Int) : Nat → Int := itr (fun j mn => cmR w h tp kd r x y (y - r + (j : Int)) (2 * r + 1).toNat mn) n mn
def cmX (w h : Nat) (tp : Nat → Int) (kd r y : Int) (n : Nat) (mn : Nat → Int) : Nat → Int := itr (fun i mn => cmQ w h tp kd r (i : Int) y (2 * r + 1).toNat mn) n mn
def cmF (w h : Nat) (tp : Nat → Int) (kd r : Int) (n : Nat) (mn : Nat → Int) : Nat → Int := itr (fun j mn => cmX w h tp kd r (j : Int) w mn) n mn
theorem cmS_rg {w h : Nat} {tp mn : Nat → Int} {kd r x y ii jj : Int} (hm : bd mn 0 1000) : bd (cmS w h tp kd r x y ii jj mn) 0 1000 := by
  unfold cmS
  have h2 := hm (20 * y + x).toNat
  split
  · refine bd_uI hm ?_
    split <;> omega
  · exact hm
theorem cmR_rg {w h : Nat} {tp mn : Nat → Int} {kd r x y jj : Int} {n : Nat} (hm : bd mn 0 1000) : bd (cmR w h tp kd r x y jj n mn) 0 1000 := itr_inv (P := fun mn => bd mn 0 1000) n hm (fun _ _ _ h => cmS_rg h)
theorem cmQ_rg {w h : Nat} {tp mn : Nat → Int} {kd r x y : Int} {n : Nat} (hm : bd mn 0 1000) : bd (cmQ w h tp kd r x y n mn) 0 1000 := itr_inv (P := fun mn => bd mn 0 1000) n hm (fun _ _ _ h => cmR_rg h)
theorem cmX_rg {w h : Nat} {tp mn : Nat → Int} {kd r y : Int} {n : Nat} (hm : bd mn 0 1000) : bd (cmX w h tp kd r y n mn) 0 1000 := itr_inv (P := fun mn => bd mn 0 1000) n hm (fun _ _ _ h => cmQ_rg h)
theorem cmF_rg {w h : Nat} {tp mn : Nat → Int} {kd r : Int} {n : Nat} (hm : bd mn 0 1000) : bd (cmF w h tp kd r n mn) 0 1000 := itr_inv (P := fun mn => bd mn 0 1000) n hm (fun _ _ _ h => cmX_rg h)
/-- the lift is never below 0: the middle is covered -/
theorem lmR_ge {wn : Nat → Int} {kd r x y py g : Int} {n : Nat} : g ≤ lmR wn kd r x y py n g := by
  refine itr_inv (P := fun t => g ≤ t) n (Int.le_refl g) (fun i t _ h => ?_)
  show g ≤ lmS wn kd r x y _ py t
  unfold lmS
  split <;> omega
theorem lmR_hit {wn : Nat → Int} {kd r x y py g : Int} {n i : Nat} (hi : i < n) (h : 0 ≤ pfM kd r (loB r x + (i : Int) - x) (py - y)) : wn (20 * py + (loB r x + (i : Int))).toNat - pfM kd r (loB r x + (i : Int) - x) (py - y) ≤ lmR wn kd r x y py n g := by
  induction n with
  | zero => omega
  | succ n ih =>
    show _ ≤ lmS wn kd r x y (loB r x + (n : Int)) py (lmR wn kd r x y py n g)
    by_cases e : i = n
    · subst e
      unfold lmS
      split <;> omega
    · have h1 := ih (by omega)
      unfold lmS
      split <;> omega
theorem lmF_hit {w : Nat} {wn : Nat → Int} {kd r x y : Int} {n i j : Nat} (hj : j < n) (hi : i < nB w r x) (h : 0 ≤ pfM kd r (loB r x + (i : Int) - x) (loB r y + (j : Int) - y)) : wn (20 * (loB r y + (j : Int)) + (loB r x + (i : Int))).toNat - pfM kd r (loB r x + (i : Int) - x) (loB r y + (j : Int) - y) ≤ lmF w wn kd r x y n := by
  induction n with
  | zero => omega
  | succ n ih =>
    show _ ≤ lmR wn kd r x y (loB r y + (n : Int)) (nB w r x) (lmF w wn kd r x y n)
    by_cases e : j = n
    · subst e
      exact lmR_hit hi h
    · exact Int.le_trans (ih (by omega)) lmR_ge
theorem pfM_0 {kd r : Int} (h0 : 0 ≤ r) (h5 : r ≤ 5) : pfM kd r 0 0 = 0 := by
  have h2 : r = 0 ∨ r = 1 ∨ r = 2 ∨ r = 3 ∨ r = 4 ∨ r = 5 := by omega
  unfold pfM das
  rcases h2 with rfl | rfl | rfl | rfl | rfl | rfl <;> simp [flR, clR]
theorem lmF_pos {w h : Nat} {wn : Nat → Int} {kd r x y : Int} (hr : 0 ≤ r ∧ r ≤ 5) (hw : bd wn 0 1000) (hx : 0 ≤ x ∧ x < (w : Int)) (hy : 0 ≤ y ∧ y < (h : Int)) : 0 ≤ lmF w wn kd r x y (nB h r y) := by
  have hi : (x - loB r x).toNat < nB w r x ∧ loB r x + ((x - loB r x).toNat : Int) = x := by unfold nB hiB loB; omega
  have hj : (y - loB r y).toNat < nB h r y ∧ loB r y + ((y - loB r y).toNat : Int) = y := by unfold nB hiB loB; omega
  have hp : pfM kd r (loB r x + ((x - loB r x).toNat : Int) - x) (loB r y + ((y - loB r y).toNat : Int) - y) = 0 := by
    rw [hi.2, hj.2, Int.sub_self, Int.sub_self]
    exact pfM_0 hr.1 hr.2
  have h1 := lmF_hit (w := w) (wn := wn) (kd := kd) (r := r) (x := x) (y := y) hj.1 hi.1 (by omega)
  rw [hp] at h1
  have h2 := hw (20 * (loB r y + ((y - loB r y).toNat : Int)) + (loB r x + ((x - loB r x).toNat : Int))).toNat
  omega
def llF (w h : Nat) (wn : Nat → Int) (kd r : Int) (n : Nat) (lf : Nat → Int) : Nat → Int := itr (fun i lf => uI lf i (if (i : Int) % 20 < (w : Int) ∧ (i : Int) / 20 < (h : Int) then lmF w wn kd r ((i : Int) % 20) ((i : Int) / 20) (nB h r ((i : Int) / 20)) else 0)) n lf
theorem llF_rg {w h : Nat} {wn lf : Nat → Int} {kd r : Int} {n : Nat} (hw : bd wn 0 1000) (hl : bd lf (-1) 1000) : bd (llF w h wn kd r n lf) (-1) 1000 :=
  itr_inv (P := fun lf => bd lf (-1) 1000) n hl (fun i t _ h => bd_uI h (by split; exact lmF_rg hw; omega))
def mlS (lf : Nat → Int) (sk z x y : Int) (K : MK) : MK := if lf (20 * y + x).toNat + sk ≤ z then mkA x y z K else K
def mlR (lf : Nat → Int) (sk z y : Int) (n : Nat) (K : MK) : MK := itr (fun i K => mlS lf sk z (i : Int) y K) n K
def mlF (w : Nat) (lf : Nat → Int) (sk z : Int) (n : Nat) (K : MK) : MK := itr (fun j K => mlR lf sk z (j : Int) w K) n K
theorem mlR_ok {lf : Nat → Int} {sk z y M : Int} {n : Nat} {K : MK} (hn : n ≤ 20) (hy : 0 ≤ y ∧ y < 20) (hz : 0 ≤ z ∧ z ≤ 1000) (h1 : mkOK K M) : mkOK (mlR lf sk z y n K) (M + n) := by
  have h := itr_ind (f := fun i K => mlS lf sk z (i : Int) y K) (P := fun i K => mkOK K (M + (i : Int))) (s := K) n (h1.mono (by omega)) (fun i t hi ht => by
    show mkOK (mlS lf sk z (i : Int) y t) _
    unfold mlS
    split
    · exact (mkA_ok ht ⟨by omega, by omega⟩ hy hz).mono (by omega)
    · exact ht.mono (by omega))
  exact h
theorem mlF_ok {w : Nat} {lf : Nat → Int} {sk z M : Int} {n : Nat} {K : MK} (hw : w ≤ 20) (hn : n ≤ 20) (hz : 0 ≤ z ∧ z ≤ 1000) (h1 : mkOK K M) : mkOK (mlF w lf sk z n K) (M + 20 * n) := by
  have h := itr_ind (f := fun j K => mlR lf sk z (j : Int) w K) (P := fun i K => mkOK K (M + 20 * (i : Int))) (s := K) n (h1.mono (by omega)) (fun i t hi ht => (mlR_ok (y := (i : Int)) hw ⟨by omega, by omega⟩ hz ht).mono (by omega))
  exact h
def mrS (w h : Nat) (lf : Nat → Int) (kd r st sk so : Int) (k : Nat) (s : (MK × (Nat → Int)) × Int) : (MK × (Nat → Int)) × Int := ((mlF w lf sk (zL so st k) h (mkN 400 s.1.1), if s.1.1.2.2.1 < (mlF w lf sk (zL so st k) h (mkN 400 s.1.1)).2.2.1 then cmF w h (mlF w lf sk (zL so st k) h (mkN 400 s.1.1)).1 kd r h s.1.2 else s.1.2), s.2 + inc01 s.1.1.2.2.1 (mlF w lf sk (zL so st k) h (mkN 400 s.1.1)).2.2.1)
def mrG (w h : Nat) (lf : Nat → Int) (kd r st sk so : Int) (n : Nat) (s : (MK × (Nat → Int)) × Int) : (MK × (Nat → Int)) × Int := itr (fun k s => mrS w h lf kd r st sk so k s) n s
theorem mrG_ok {w h : Nat} {lf : Nat → Int} {kd r st sk so M : Int} {n : Nat} {s : (MK × (Nat → Int)) × Int} (hw : w ≤ 20) (hh : h ≤ 20) (hn : n ≤ zN so st) (h1 : 1 ≤ so ∧ so ≤ 1000) (h2 : 1 ≤ st ∧ st ≤ 1000) (ht : mkOK s.1.1 M) (hm : bd s.1.2 0 1000) (hl : 0 ≤ s.2 ∧ s.2 ≤ 0) : (mkOK (mrG w h lf kd r st sk so n s).1.1 (M + 400 * n) ∧ bd (mrG w h lf kd r st sk so n s).1.2 0 1000) ∧ 0 ≤ (mrG w h lf kd r st sk so n s).2 ∧ (mrG w h lf kd r st sk so n s).2 ≤ n := by
  have hq := itr_ind (f := fun k s => mrS w h lf kd r st sk so k s) (P := fun i s => (mkOK s.1.1 (M + 400 * (i : Int)) ∧ bd s.1.2 0 1000) ∧ 0 ≤ s.2 ∧ s.2 ≤ (i : Int)) (s := s) n ⟨⟨ht.mono (by omega), hm⟩, hl⟩ (fun i t hi hp => by
    have hz := zL_in (k := i) (by omega) h1 h2
    have a := mlF_ok (w := w) (lf := lf) (sk := sk) (z := zL so st i) (n := h) hw hh ⟨by omega, by omega⟩ (mkN_ok (n := 400) hp.1.1)
    have h01 := inc01_01 t.1.1.2.2.1 (mlF w lf sk (zL so st i) h (mkN 400 t.1.1)).2.2.1
    refine ⟨⟨a.mono (by omega), ?_⟩, ?_⟩
    · show bd (if t.1.1.2.2.1 < (mlF w lf sk (zL so st i) h (mkN 400 t.1.1)).2.2.1 then cmF w h (mlF w lf sk (zL so st i) h (mkN 400 t.1.1)).1 kd r h t.1.2 else t.1.2) 0 1000
      split
      · exact cmF_rg hp.1.2
      · exact hp.1.2
    · show 0 ≤ t.2 + inc01 _ _ ∧ t.2 + inc01 _ _ ≤ _
      omega)
  exact hq
def mfR (w h : Nat) (wn : Nat → Int) (kd r y g : Int) (n : Nat) (K : MK) : MK := itr (fun i K => mkA (rwX w (evB g) (i : Int)) y (lmF w wn kd r (rwX w (evB g) (i : Int)) y (nB h r y)) K) n K
def mfS (w h : Nat) (wn : Nat → Int) (kd r st y : Int) (s : MK × Int) : MK × Int := if y % st = 0 ∨ y = (h : Int) - 1 then (mfR w h wn kd r y s.2 w s.1, s.2 + 1) else s
def mfG (w h : Nat) (wn : Nat → Int) (kd r st : Int) (n : Nat) (s : MK × Int) : MK × Int := itr (fun j s => mfS w h wn kd r st (j : Int) s) n s
theorem mfR_ok {w h : Nat} {wn : Nat → Int} {kd r y g M : Int} {n : Nat} {K : MK} (hw : w ≤ 20) (hn : n ≤ w) (hh : h ≤ 20) (hy : 0 ≤ y ∧ y < (h : Int)) (hr : 0 ≤ r ∧ r ≤ 5) (hwn : bd wn 0 1000) (h1 : mkOK K M) : mkOK (mfR w h wn kd r y g n K) (M + n) := by
  have hq := itr_ind (f := fun i K => mkA (rwX w (evB g) (i : Int)) y (lmF w wn kd r (rwX w (evB g) (i : Int)) y (nB h r y)) K) (P := fun i K => mkOK K (M + (i : Int))) (s := K) n (h1.mono (by omega)) (fun i t hi ht => by
    have hx := rwX_rg (w := w) (b := evB g) (i := (i : Int)) (by omega) (by omega)
    have hz := lmF_pos (kd := kd) hr hwn hx hy
    have hz2 := lmF_rg (w := w) (kd := kd) (r := r) (x := rwX w (evB g) (i : Int)) (y := y) (n := nB h r y) hwn
    exact (mkA_ok ht ⟨hx.1, by omega⟩ ⟨hy.1, by omega⟩ ⟨hz, hz2.2⟩).mono (by omega))
  exact hq
theorem mfG_ok {w h : Nat} {wn : Nat → Int} {kd r st M : Int} {n : Nat} {s : MK × Int} (hw : w ≤ 20) (hh : h ≤ 20) (hn : n ≤ h) (hr : 0 ≤ r ∧ r ≤ 5) (hwn : bd wn 0 1000) (h1 : mkOK s.1 M) (h2 : 0 ≤ s.2 ∧ s.2 ≤ 0) : mkOK (mfG w h wn kd r st n s).1 (M + 20 * n) ∧ 0 ≤ (mfG w h wn kd r st n s).2 ∧ (mfG w h wn kd r st n s).2 ≤ n := by
  have hq := itr_ind (f := fun j s => mfS w h wn kd r st (j : Int) s) (P := fun i s => mkOK s.1 (M + 20 * (i : Int)) ∧ 0 ≤ s.2 ∧ s.2 ≤ (i : Int)) (s := s) n ⟨h1.mono (by omega), h2⟩ (fun i t hi ht => by
    show mkOK (mfS w h wn kd r st (i : Int) t).1 _ ∧ 0 ≤ (mfS w h wn kd r st (i : Int) t).2 ∧ (mfS w h wn kd r st (i : Int) t).2 ≤ _
    unfold mfS
    split
    · refine ⟨(mfR_ok (kd := kd) hw (Nat.le_refl w) hh ⟨by omega, by omega⟩ hr hwn ht.1).mono (by omega), ?_⟩
      show 0 ≤ t.2 + 1 ∧ t.2 + 1 ≤ _
      omega
    · exact ⟨ht.1.mono (by omega), by omega, by omega⟩)
  exact hq
