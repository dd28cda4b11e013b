/-! further functions of the class -/
def gwF (wa : Nat → Int) (n : Nat) : Int := itr (fun i g => max g (wa i)) n 0
theorem gwF_rg {wa : Nat → Int} {n : Nat} (h : bd wa 0 1000) : 0 ≤ gwF wa n ∧ gwF wa n ≤ 1000 :=
  itr_inv (P := fun g => 0 ≤ g ∧ g ≤ 1000) n (by decide) (fun i g _ hg => by have := h i; omega)
def ltR (w h : Nat) (wa dp : Nat → Int) (r y : Int) (n : Nat) (li : Nat → Int) : Nat → Int := itr (fun i li => uI li (y * (w : Int) + (i : Int)).toNat (lfF w h wa dp r (i : Int) y (nB h r y))) n li
def ltF (w h : Nat) (wa dp : Nat → Int) (r : Int) (n : Nat) (li : Nat → Int) : Nat → Int := itr (fun j li => ltR w h wa dp r (j : Int) w li) n li
theorem ltR_rg {w h : Nat} {wa dp li : Nat → Int} {r y : Int} {n : Nat} (hw : bd wa 0 1000) (hd : bd dp (-1) 5) (hl : bd li 0 1000) : bd (ltR w h wa dp r y n li) 0 1000 :=
  itr_inv (P := fun li => bd li 0 1000) n hl (fun _ _ _ h => bd_uI h (lfF_rg hw hd))
theorem ltF_rg {w h : Nat} {wa dp li : Nat → Int} {r : Int} {n : Nat} (hw : bd wa 0 1000) (hd : bd dp (-1) 5) (hl : bd li 0 1000) : bd (ltF w h wa dp r n li) 0 1000 :=
  itr_inv (P := fun li => bd li 0 1000) n hl (fun _ _ _ h => ltR_rg hw hd h)
/-- what holds of the moves -/
def tkOK (T : TK) (M : Int) : Prop := (0 ≤ T.2.1 ∧ T.2.1 ≤ M) ∧ (0 ≤ T.2.2.2.1 ∧ T.2.2.2.1 < 20) ∧ (0 ≤ T.2.2.2.2.1 ∧ T.2.2.2.2.1 < 20) ∧ (0 ≤ T.2.2.2.2.2 ∧ T.2.2.2.2.2 ≤ 1000) ∧ bd T.1 0 500000
theorem tkOK.mono {T : TK} {M M' : Int} (h : tkOK T M) (hm : M ≤ M') : tkOK T M' := ⟨⟨h.1.1, by have := h.1.2; omega⟩, h.2⟩
theorem tkA_ok {T : TK} {M x y z : Int} (h : tkOK T M) (hx : 0 ≤ x ∧ x < 20) (hy : 0 ≤ y ∧ y < 20) (hz : 0 ≤ z ∧ z ≤ 1000) : tkOK (tkA x y z T) (M + 1) := by
  obtain ⟨h1, h2, h3, h4, h5⟩ := h
  refine ⟨?_, hx, hy, hz, ?_⟩
  · show 0 ≤ T.2.1 + 1 ∧ T.2.1 + 1 ≤ M + 1
    omega
  · show bd (if T.2.1 < 2000 then uI T.1 T.2.1.toNat ((z * 20 + y) * 20 + x) else T.1) 0 500000
    split
    · exact bd_uI h5 (by omega)
    · exact h5
theorem tkC_ok {T : TK} {M : Int} (h : tkOK T M) : tkOK (tkC T) 0 := ⟨⟨Int.le_refl 0, Int.le_refl 0⟩, h.2⟩
def lvS (w h : Nat) (li dp : Nat → Int) (r z st sk x y : Int) (q : TK × (Nat → Int)) : TK × (Nat → Int) := if li (y * (w : Int) + x).toNat + sk ≤ z then (tkA x y z q.1, if z - st ≤ 0 ∨ z - st < li (y * (w : Int) + x).toNat + sk then cvF w h dp r x y z (nB h r y) q.2 else q.2) else q
def lvR (w h : Nat) (li dp : Nat → Int) (r z st sk y : Int) (n : Nat) (q : TK × (Nat → Int)) : TK × (Nat → Int) := itr (fun i q => lvS w h li dp r z st sk (i : Int) y q) n q
def lvF (w h : Nat) (li dp : Nat → Int) (r z st sk : Int) (n : Nat) (q : TK × (Nat → Int)) : TK × (Nat → Int) := itr (fun j q => lvR w h li dp r z st sk (j : Int) w q) n q
theorem lvS_ok {w h : Nat} {li dp : Nat → Int} {r z st sk x y M : Int} {q : TK × (Nat → Int)} (hx : 0 ≤ x ∧ x < 20) (hy : 0 ≤ y ∧ y < 20) (hz : 0 ≤ z ∧ z ≤ 1000) (hd : bd dp (-1) 5) (h1 : tkOK q.1 M) (h2 : bd q.2 0 1000) : tkOK (lvS w h li dp r z st sk x y q).1 (M + 1) ∧ bd (lvS w h li dp r z st sk x y q).2 0 1000 := by
  unfold lvS
  split
  · refine ⟨tkA_ok h1 hx hy hz, ?_⟩
    show bd (if z - st ≤ 0 ∨ z - st < li (y * (w : Int) + x).toNat + sk then cvF w h dp r x y z (nB h r y) q.2 else q.2) 0 1000
    split
    · exact cvF_rg hz.1 hd h2
    · exact h2
  · exact ⟨h1.mono (by omega), h2⟩
theorem lvR_ok {w h : Nat} {li dp : Nat → Int} {r z st sk y M : Int} {n : Nat} {q : TK × (Nat → Int)} (hn : n ≤ 20) (hy : 0 ≤ y ∧ y < 20) (hz : 0 ≤ z ∧ z ≤ 1000) (hd : bd dp (-1) 5) (h1 : tkOK q.1 M) (h2 : bd q.2 0 1000) : tkOK (lvR w h li dp r z st sk y n q).1 (M + n) ∧ bd (lvR w h li dp r z st sk y n q).2 0 1000 := by
  have h := itr_ind (f := fun i q => lvS w h li dp r z st sk (i : Int) y q) (P := fun i q => tkOK q.1 (M + (i : Int)) ∧ bd q.2 0 1000) (s := q) n ⟨h1.mono (by omega), h2⟩ (fun i t hi ht => by
    obtain ⟨a, b⟩ := lvS_ok (w := w) (h := h) (li := li) (r := r) (st := st) (sk := sk) (x := (i : Int)) ⟨by omega, by omega⟩ hy hz hd ht.1 ht.2
    exact ⟨a.mono (by omega), b⟩)
  exact h
theorem lvF_ok {w h : Nat} {li dp : Nat → Int} {r z st sk M : Int} {n : Nat} {q : TK × (Nat → Int)} (hw : w ≤ 20) (hn : n ≤ 20) (hz : 0 ≤ z ∧ z ≤ 1000) (hd : bd dp (-1) 5) (h1 : tkOK q.1 M) (h2 : bd q.2 0 1000) : tkOK (lvF w h li dp r z st sk n q).1 (M + 20 * n) ∧ bd (lvF w h li dp r z st sk n q).2 0 1000 := by
  have h := itr_ind (f := fun j q => lvR w h li dp r z st sk (j : Int) w q) (P := fun i q => tkOK q.1 (M + 20 * (i : Int)) ∧ bd q.2 0 1000) (s := q) n ⟨h1.mono (by omega), h2⟩ (fun i t hi ht => by
    obtain ⟨a, b⟩ := lvR_ok (w := w) (h := h) (li := li) (r := r) (st := st) (sk := sk) (y := (i : Int)) hw ⟨by omega, by omega⟩ hz hd ht.1 ht.2
    exact ⟨a.mono (by omega), b⟩)
  exact h
def rwX (w : Nat) (b i : Int) : Int := if b = 0 then (w : Int) - 1 - i else i
def rwS (w h : Nat) (wa dp : Nat → Int) (r x y : Int) (q : TK × (Nat → Int)) : TK × (Nat → Int) := (tkA x y (lfF w h wa dp r x y (nB h r y)) q.1, cvF w h dp r x y (lfF w h wa dp r x y (nB h r y)) (nB h r y) q.2)
def rwF (w h : Nat) (wa dp : Nat → Int) (r y b : Int) (n : Nat) (q : TK × (Nat → Int)) : TK × (Nat → Int) := itr (fun i q => rwS w h wa dp r (rwX w b (i : Int)) y q) n q
theorem rwX_rg {w : Nat} {b i : Int} (h0 : 0 ≤ i) (h1 : i < w) : 0 ≤ rwX w b i ∧ rwX w b i < w := by
  unfold rwX
  split <;> omega
theorem rwF_ok {w h : Nat} {wa dp : Nat → Int} {r y b M : Int} {n : Nat} {q : TK × (Nat → Int)} (hw : w ≤ 20) (hn : n ≤ w) (hy : 0 ≤ y ∧ y < 20) (hwa : bd wa 0 1000) (hd : bd dp (-1) 5) (h1 : tkOK q.1 M) (h2 : bd q.2 0 1000) : tkOK (rwF w h wa dp r y b n q).1 (M + n) ∧ bd (rwF w h wa dp r y b n q).2 0 1000 := by
  have h := itr_ind (f := fun i q => rwS w h wa dp r (rwX w b (i : Int)) y q) (P := fun i q => tkOK q.1 (M + (i : Int)) ∧ bd q.2 0 1000) (s := q) n ⟨h1.mono (by omega), h2⟩ (fun i t hi ht => by
    have hx := rwX_rg (w := w) (b := b) (i := (i : Int)) (by omega) (by omega)
    have hz := lfF_rg (w := w) (h := h) (r := r) (x := rwX w b (i : Int)) (y := y) (n := nB h r y) hwa hd
    exact ⟨(tkA_ok ht.1 ⟨hx.1, by omega⟩ hy hz).mono (by omega), cvF_rg (h := h) hz.1 hd ht.2⟩)
  exact h
