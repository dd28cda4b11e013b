def bmR (mn wn : Nat → Int) (y : Int) (n : Nat) (b : Int) : Int := itr (fun i b => if ¬ b = 0 ∨ mn (20 * y + (i : Int)).toNat - wn (20 * y + (i : Int)).toNat < 0 then 1 else 0) n b
def bmF (w : Nat) (mn wn : Nat → Int) (n : Nat) : Int := itr (fun j b => bmR mn wn (j : Int) w b) n 0
theorem bmR_01 {mn wn : Nat → Int} {y b : Int} {n : Nat} (h : b = 0 ∨ b = 1) : bmR mn wn y n b = 0 ∨ bmR mn wn y n b = 1 := itr_inv (P := fun b => b = 0 ∨ b = 1) n h (fun i t _ _ => by split <;> simp)
theorem bmF_01 {w : Nat} {mn wn : Nat → Int} {n : Nat} : bmF w mn wn n = 0 ∨ bmF w mn wn n = 1 := itr_inv (P := fun b => b = 0 ∨ b = 1) n (Or.inl rfl) (fun _ _ _ h => bmR_01 h)
def xmR (mn wn : Nat → Int) (y : Int) (n : Nat) (b : Int) : Int := itr (fun i b => b + max 0 (mn (20 * y + (i : Int)).toNat - wn (20 * y + (i : Int)).toNat)) n b
def xmF (w : Nat) (mn wn : Nat → Int) (n : Nat) : Int := itr (fun j b => xmR mn wn (j : Int) w b) n 0
def rmR (mn wn : Nat → Int) (v k y : Int) (n : Nat) (s : Int × Int) : Int × Int := itr (fun i s => rsS mn wn v k (20 * y + (i : Int)).toNat (20 * y + (i : Int)) s) n s
def rmF (w : Nat) (mn wn : Nat → Int) (v k : Int) (n : Nat) (s : Int × Int) : Int × Int := itr (fun j s => rmR mn wn v k (j : Int) w s) n s
theorem rmR_keep {mn wn : Nat → Int} {v k y : Int} {n : Nat} {s : Int × Int} (h : ¬ s.2 = -2) : rmR mn wn v k y n s = s :=
  itr_inv (P := fun t => t = s) n rfl (fun i t _ ht => by rw [ht]; exact rsS_keep h)
theorem rmR_hit {mn wn : Nat → Int} {v k y : Int} {n i : Nat} {s : Int × Int} (hi : i < n) (h : ¬ (rmR mn wn v k y (i + 1) s).2 = -2) : rmR mn wn v k y n s = rmR mn wn v k y (i + 1) s := by
  induction n with
  | zero => omega
  | succ n ih =>
    by_cases e : i = n
    · rw [e]
    · have h1 := ih (by omega)
      show rsS mn wn v k _ _ (rmR mn wn v k y n s) = _
      rw [h1]
      exact rsS_keep h
theorem rmF_hit {w : Nat} {mn wn : Nat → Int} {v k : Int} {n j : Nat} {s : Int × Int} (hj : j < n) (h : ¬ (rmF w mn wn v k (j + 1) s).2 = -2) : rmF w mn wn v k n s = rmF w mn wn v k (j + 1) s := by
  induction n with
  | zero => omega
  | succ n ih =>
    by_cases e : j = n
    · rw [e]
    · have h1 := ih (by omega)
      show rmR mn wn v k _ w (rmF w mn wn v k n s) = _
      rw [h1]
      exact rmR_keep h
theorem rmR_n {mn wn : Nat → Int} {v k y : Int} {n : Nat} {s : Int × Int} (h : 0 ≤ s.1) : s.1 ≤ (rmR mn wn v k y n s).1 ∧ (rmR mn wn v k y n s).1 ≤ s.1 + n := by
  have h2 := itr_ind (f := fun i s => rsS mn wn v k (20 * y + (i : Int)).toNat (20 * y + (i : Int)) s) (P := fun i t => s.1 ≤ t.1 ∧ t.1 ≤ s.1 + (i : Int)) (s := s) n ⟨by omega, by omega⟩ (fun i t _ ht => by
    show s.1 ≤ (rsS mn wn v k _ _ t).1 ∧ (rsS mn wn v k _ _ t).1 ≤ _
    unfold rsS
    (repeat' split) <;> (try simp only) <;> omega)
  exact h2
theorem rmF_n {w : Nat} {mn wn : Nat → Int} {v k : Int} {n : Nat} {s : Int × Int} (hw : w ≤ 20) (h : 0 ≤ s.1) : 0 ≤ (rmF w mn wn v k n s).1 ∧ (rmF w mn wn v k n s).1 ≤ s.1 + 20 * n := by
  have h2 := itr_ind (f := fun j s => rmR mn wn v k (j : Int) w s) (P := fun i t => 0 ≤ t.1 ∧ t.1 ≤ s.1 + 20 * (i : Int)) (s := s) n ⟨h, by omega⟩ (fun i t _ ht => by
    have h3 := rmR_n (mn := mn) (wn := wn) (v := v) (k := k) (y := (i : Int)) (n := w) ht.1
    show 0 ≤ (rmR mn wn v k (i : Int) w t).1 ∧ (rmR mn wn v k (i : Int) w t).1 ≤ _
    omega)
  exact h2
def qmR (w : Nat) (dx dy y : Int) (n : Nat) (s : (Nat → Int) × Int) : (Nat → Int) × Int := itr (fun i s => stS (20 * y + ((w : Int) - 1 - (i : Int))).toNat (s.1 (20 * (y % dy) + ((w : Int) - 1 - (i : Int)) % dx).toNat) s) n s
def qmF (w h : Nat) (dx dy : Int) (n : Nat) (s : (Nat → Int) × Int) : (Nat → Int) × Int := itr (fun j s => qmR w dx dy ((h : Int) - 1 - (j : Int)) w s) n s
theorem qmR_ok {w : Nat} {dx dy y M : Int} {n : Nat} {s : (Nat → Int) × Int} (h : bd s.1 0 1000) (hn : 0 ≤ s.2 ∧ s.2 ≤ M) : bd (qmR w dx dy y n s).1 0 1000 ∧ 0 ≤ (qmR w dx dy y n s).2 ∧ (qmR w dx dy y n s).2 ≤ M + n := by
  have h2 := itr_ind (f := fun i s => stS (20 * y + ((w : Int) - 1 - (i : Int))).toNat (s.1 (20 * (y % dy) + ((w : Int) - 1 - (i : Int)) % dx).toNat) s) (P := fun i t => bd t.1 0 1000 ∧ 0 ≤ t.2 ∧ t.2 ≤ M + (i : Int)) (s := s) n ⟨h, hn.1, by omega⟩ (fun i t _ ht => by
    have h3 := stS_ok (p := (20 * y + ((w : Int) - 1 - (i : Int))).toNat) (v := t.1 (20 * (y % dy) + ((w : Int) - 1 - (i : Int)) % dx).toNat) ht.1 (ht.1 _) ht.2
    exact ⟨h3.1, h3.2.1, by have := h3.2.2; omega⟩)
  exact h2
theorem qmF_ok {w h : Nat} {dx dy : Int} {n : Nat} {s : (Nat → Int) × Int} (hw : w ≤ 20) (hs : bd s.1 0 1000) (hn : 0 ≤ s.2 ∧ s.2 ≤ 0) : bd (qmF w h dx dy n s).1 0 1000 ∧ 0 ≤ (qmF w h dx dy n s).2 ∧ (qmF w h dx dy n s).2 ≤ 20 * n := by
  have h2 := itr_ind (f := fun j s => qmR w dx dy ((h : Int) - 1 - (j : Int)) w s) (P := fun i t => bd t.1 0 1000 ∧ 0 ≤ t.2 ∧ t.2 ≤ 20 * (i : Int)) (s := s) n ⟨hs, hn.1, by omega⟩ (fun i t _ ht => by
    have h3 := qmR_ok (w := w) (dx := dx) (dy := dy) (y := (h : Int) - 1 - (i : Int)) (n := w) ht.1 ht.2
    exact ⟨h3.1, h3.2.1, by have := h3.2.2; omega⟩)
  exact h2
def moF (u b d v : Int) : Int := if u = 1 then (if b < d then d else b) else if u = 2 then (if d < b then d else b) else if u = 3 then (if b + d - v < 0 then 0 else if 1000 < b + d - v then 1000 else b + d - v) else b
theorem moF_rg {u b d v : Int} (h2 : 0 ≤ b ∧ b ≤ 1000) (h3 : 0 ≤ d ∧ d ≤ 1000) : 0 ≤ moF u b d v ∧ moF u b d v ≤ 1000 := by
  unfold moF
  (repeat' split) <;> omega
/-- a step of merge: the wanted heights, how many are other ones, the kept heights -/
def mmS (w h : Nat) (u v : Int) (i : Nat) (s : ((Nat → Int) × Int) × (Nat → Int)) : ((Nat → Int) × Int) × (Nat → Int) := (if (i : Int) % 20 < (w : Int) ∧ (i : Int) / 20 < (h : Int) then stS i (moF u (s.1.1 i) ((if u = 0 then uI s.2 i (s.1.1 i) else s.2) i) v) s.1 else s.1, if u = 0 then uI s.2 i (s.1.1 i) else s.2)
def mmF (w h : Nat) (u v : Int) (n : Nat) (s : ((Nat → Int) × Int) × (Nat → Int)) : ((Nat → Int) × Int) × (Nat → Int) := itr (fun i s => mmS w h u v i s) n s
theorem mmF_ok {w h : Nat} {u v : Int} {n : Nat} {s : ((Nat → Int) × Int) × (Nat → Int)} (h1 : bd s.1.1 0 1000) (hn : 0 ≤ s.1.2 ∧ s.1.2 ≤ 0) (h3 : bd s.2 0 1000) : (bd (mmF w h u v n s).1.1 0 1000 ∧ 0 ≤ (mmF w h u v n s).1.2 ∧ (mmF w h u v n s).1.2 ≤ n) ∧ bd (mmF w h u v n s).2 0 1000 := by
  have h2 := itr_ind (f := fun i s => mmS w h u v i s) (P := fun i t => (bd t.1.1 0 1000 ∧ 0 ≤ t.1.2 ∧ t.1.2 ≤ (i : Int)) ∧ bd t.2 0 1000) (s := s) n ⟨⟨h1, hn.1, by omega⟩, h3⟩ (fun i t _ ht => by
    have hk : bd (if u = 0 then uI t.2 i (t.1.1 i) else t.2) 0 1000 := by
      split
      · exact bd_uI ht.2 (ht.1.1 i)
      · exact ht.2
    refine ⟨?_, hk⟩
    obtain ⟨X, hX⟩ : ∃ X, X = (mmS w h u v i t).1 := ⟨_, rfl⟩
    have hX2 : X = (if (i : Int) % 20 < (w : Int) ∧ (i : Int) / 20 < (h : Int) then stS i (moF u (t.1.1 i) ((if u = 0 then uI t.2 i (t.1.1 i) else t.2) i) v) t.1 else t.1) := hX
    show bd (mmS w h u v i t).1.1 0 1000 ∧ 0 ≤ (mmS w h u v i t).1.2 ∧ (mmS w h u v i t).1.2 ≤ _
    rw [← hX, hX2]
    split
    · have h3 := stS_ok (p := i) (v := moF u (t.1.1 i) ((if u = 0 then uI t.2 i (t.1.1 i) else t.2) i) v) ht.1.1 (moF_rg (ht.1.1 i) (hk i)) ht.1.2
      exact ⟨h3.1, h3.2.1, by have := h3.2.2; omega⟩
    · exact ⟨ht.1.1, ht.1.2.1, by have := ht.1.2.2; omega⟩)
  exact h2
