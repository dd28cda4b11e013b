/-- rest: how many were found, and where the k-th is (-2: not yet) -/
def rsS (ma wa : Nat → Int) (v k : Int) (p : Nat) (c : Int) (s : Int × Int) : Int × Int := if s.2 = -2 then (if ma p - wa p > v then (if s.1 = k then (s.1, c) else (s.1 + 1, -2)) else s) else s
def rsR (w : Nat) (ma wa : Nat → Int) (v k y : Int) (n : Nat) (s : Int × Int) : Int × Int := itr (fun i s => rsS ma wa v k (y * (w : Int) + (i : Int)).toNat (20 * y + (i : Int)) s) n s
def rsF (w : Nat) (ma wa : Nat → Int) (v k : Int) (n : Nat) (s : Int × Int) : Int × Int := itr (fun j s => rsR w ma wa v k (j : Int) w s) n s
def rsE (k : Int) (s : Int × Int) : Int := if s.2 = -2 then (if k = -1 then s.1 else -1) else s.2
theorem rsS_keep {ma wa : Nat → Int} {v k c : Int} {p : Nat} {s : Int × Int} (h : ¬ s.2 = -2) : rsS ma wa v k p c s = s := by unfold rsS; rw [if_neg h]
theorem rsR_keep {w : Nat} {ma wa : Nat → Int} {v k y : Int} {n : Nat} {s : Int × Int} (h : ¬ s.2 = -2) : rsR w ma wa v k y n s = s :=
  itr_inv (P := fun t => t = s) n rfl (fun i t _ ht => by rw [ht]; exact rsS_keep h)
theorem rsR_hit {w : Nat} {ma wa : Nat → Int} {v k y : Int} {n i : Nat} {s : Int × Int} (hi : i < n) (h : ¬ (rsR w ma wa v k y (i + 1) s).2 = -2) : rsR w ma wa v k y n s = rsR w ma wa v k y (i + 1) s := by
  induction n with
  | zero => omega
  | succ n ih =>
    by_cases e : i = n
    · rw [e]
    · have h1 := ih (by omega)
      show rsS ma wa v k _ _ (rsR w ma wa v k y n s) = _
      rw [h1]
      exact rsS_keep h
theorem rsF_hit {w : Nat} {ma wa : Nat → Int} {v k : Int} {n j : Nat} {s : Int × Int} (hj : j < n) (h : ¬ (rsF w ma wa v k (j + 1) s).2 = -2) : rsF w ma wa v k n s = rsF w ma wa v k (j + 1) s := by
  induction n with
  | zero => omega
  | succ n ih =>
    by_cases e : j = n
    · rw [e]
    · have h1 := ih (by omega)
      show rsR w ma wa v k _ w (rsF w ma wa v k n s) = _
      rw [h1]
      exact rsR_keep h
theorem rsR_n {w : Nat} {ma wa : Nat → Int} {v k y : Int} {n : Nat} {s : Int × Int} (h : 0 ≤ s.1) : s.1 ≤ (rsR w ma wa v k y n s).1 ∧ (rsR w ma wa v k y n s).1 ≤ s.1 + n := by
  have h2 := itr_ind (f := fun i s => rsS ma wa v k (y * (w : Int) + (i : Int)).toNat (20 * y + (i : Int)) s) (P := fun i t => s.1 ≤ t.1 ∧ t.1 ≤ s.1 + (i : Int)) (s := s) n ⟨by omega, by omega⟩ (fun i t _ ht => by
    show s.1 ≤ (rsS ma wa v k _ _ t).1 ∧ (rsS ma wa v k _ _ t).1 ≤ _
    unfold rsS
    (repeat' split) <;> (try simp only) <;> omega)
  exact h2
theorem rsF_n {w : Nat} {ma wa : Nat → Int} {v k : Int} {n : Nat} {s : Int × Int} (hw : w ≤ 20) (h : 0 ≤ s.1) : 0 ≤ (rsF w ma wa v k n s).1 ∧ (rsF w ma wa v k n s).1 ≤ s.1 + 20 * n := by
  have h2 := itr_ind (f := fun j s => rsR w ma wa v k (j : Int) w s) (P := fun i t => 0 ≤ t.1 ∧ t.1 ≤ s.1 + 20 * (i : Int)) (s := s) n ⟨h, by omega⟩ (fun i t _ ht => by
    have h3 := rsR_n (w := w) (ma := ma) (wa := wa) (v := v) (k := k) (y := (i : Int)) (n := w) ht.1
    show 0 ≤ (rsR w ma wa v k (i : Int) w t).1 ∧ (rsR w ma wa v k (i : Int) w t).1 ≤ _
    omega)
  exact h2
/-- repeat, merge: the wanted heights and how many are other ones -/
def stS (p : Nat) (v : Int) (s : (Nat → Int) × Int) : (Nat → Int) × Int := (uI s.1 p v, s.2 + (if s.1 p = v then 0 else 1))
def rpR (w : Nat) (dx dy y : Int) (n : Nat) (s : (Nat → Int) × Int) : (Nat → Int) × Int := itr (fun i s => stS (y * (w : Int) + (i : Int)).toNat (s.1 ((y % dy) * (w : Int) + (i : Int) % dx).toNat) s) n s
def rpF (w : Nat) (dx dy : Int) (n : Nat) (s : (Nat → Int) × Int) : (Nat → Int) × Int := itr (fun j s => rpR w dx dy (j : Int) w s) n s
def mgL (ka : Nat → Int) (u v : Int) (n : Nat) (s : (Nat → Int) × Int) : (Nat → Int) × Int := itr (fun i s => stS i (mgF u (s.1 i) (ka i) v) s) n s
theorem mgF_rg {u b d v : Int} (h2 : 0 ≤ b ∧ b ≤ 1000) (h3 : 0 ≤ d ∧ d ≤ 1000) : 0 ≤ mgF u b d v ∧ mgF u b d v ≤ 1000 := by
  unfold mgF
  (repeat' split) <;> omega
theorem stS_ok {p : Nat} {v M : Int} {s : (Nat → Int) × Int} (h : bd s.1 0 1000) (hv : 0 ≤ v ∧ v ≤ 1000) (hn : 0 ≤ s.2 ∧ s.2 ≤ M) : bd (stS p v s).1 0 1000 ∧ 0 ≤ (stS p v s).2 ∧ (stS p v s).2 ≤ M + 1 := by
  refine ⟨bd_uI h hv, ?_⟩
  show 0 ≤ s.2 + (if s.1 p = v then 0 else 1) ∧ s.2 + (if s.1 p = v then 0 else 1) ≤ M + 1
  split <;> omega
theorem rpR_ok {w : Nat} {dx dy y M : Int} {n : Nat} {s : (Nat → Int) × Int} (h : bd s.1 0 1000) (hn : 0 ≤ s.2 ∧ s.2 ≤ M) : bd (rpR w dx dy y n s).1 0 1000 ∧ 0 ≤ (rpR w dx dy y n s).2 ∧ (rpR w dx dy y n s).2 ≤ M + n := by
  have h2 := itr_ind (f := fun i s => stS (y * (w : Int) + (i : Int)).toNat (s.1 ((y % dy) * (w : Int) + (i : Int) % dx).toNat) s) (P := fun i t => bd t.1 0 1000 ∧ 0 ≤ t.2 ∧ t.2 ≤ M + (i : Int)) (s := s) n ⟨h, hn.1, by omega⟩ (fun i t _ ht => by
    have h3 := stS_ok (p := (y * (w : Int) + (i : Int)).toNat) (v := t.1 ((y % dy) * (w : Int) + (i : Int) % dx).toNat) ht.1 (ht.1 _) ht.2
    exact ⟨h3.1, h3.2.1, by have := h3.2.2; omega⟩)
  exact h2
theorem rpF_ok {w : Nat} {dx dy : Int} {n : Nat} {s : (Nat → Int) × Int} (hw : w ≤ 20) (h : bd s.1 0 1000) (hn : 0 ≤ s.2 ∧ s.2 ≤ 0) : bd (rpF w dx dy n s).1 0 1000 ∧ 0 ≤ (rpF w dx dy n s).2 ∧ (rpF w dx dy n s).2 ≤ 20 * n := by
  have h2 := itr_ind (f := fun j s => rpR w dx dy (j : Int) w s) (P := fun i t => bd t.1 0 1000 ∧ 0 ≤ t.2 ∧ t.2 ≤ 20 * (i : Int)) (s := s) n ⟨h, hn.1, by omega⟩ (fun i t _ ht => by
    have h3 := rpR_ok (w := w) (dx := dx) (dy := dy) (y := (i : Int)) (n := w) ht.1 ht.2
    exact ⟨h3.1, h3.2.1, by have := h3.2.2; omega⟩)
  exact h2
theorem mgL_ok {ka : Nat → Int} {u v : Int} {n : Nat} {s : (Nat → Int) × Int} (hk : bd ka 0 1000) (h : bd s.1 0 1000) (hn : 0 ≤ s.2 ∧ s.2 ≤ 0) : bd (mgL ka u v n s).1 0 1000 ∧ 0 ≤ (mgL ka u v n s).2 ∧ (mgL ka u v n s).2 ≤ n := by
  have h2 := itr_ind (f := fun i s => stS i (mgF u (s.1 i) (ka i) v) s) (P := fun i t => bd t.1 0 1000 ∧ 0 ≤ t.2 ∧ t.2 ≤ (i : Int)) (s := s) n ⟨h, hn.1, by omega⟩ (fun i t _ ht => by
    have h3 := stS_ok (p := i) (v := mgF u (t.1 i) (ka i) v) ht.1 (mgF_rg (ht.1 i) (hk i)) ht.2
    exact ⟨h3.1, h3.2.1, by have := h3.2.2; omega⟩)
  exact h2
def cpI (f g : Nat → Int) (n : Nat) : Nat → Int := fun k => if k < n then f k else g k
theorem cpI_eq (f g : Nat → Int) (n : Nat) : va_cpy (fun k => iI (f k)) (fun k => iI (g k)) 0 0 n = fun k => iI (cpI f g n k) := by
  funext k
  unfold va_cpy cpI
  by_cases h : k < n
  · rw [if_pos ⟨Nat.zero_le _, by omega⟩, if_pos h]; simp
  · rw [if_neg (fun q => h (by omega)), if_neg h]
theorem cpI_rg {f g : Nat → Int} {n : Nat} {lo hi : Int} (hf : bd f lo hi) (hg : bd g lo hi) : bd (cpI f g n) lo hi := by
  intro k
  unfold cpI
  split
  · exact hf k
  · exact hg k
theorem z_mod {a b : Int} (h0 : 0 ≤ a) (h1 : 0 < b) : 0 ≤ a % b ∧ a % b < b ∧ a % b ≤ a := ⟨Int.emod_nonneg a (by omega), Int.emod_lt_of_pos a h1, by have h2 := Int.mul_ediv_add_emod a b; have h3 : 0 ≤ b * (a / b) := Int.mul_nonneg (by omega) (Int.ediv_nonneg h0 (by omega)); omega⟩
