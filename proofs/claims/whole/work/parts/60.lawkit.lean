/-! rows for the law -/
def zt (a : Int) : Int := (iI a).toInt
def xv (xs : Nat → Int32) (k : Nat) : Int := (xs k).toInt
theorem xv_rg (xs : Nat → Int32) (k : Nat) : rg (xv xs k) := rg_of _
theorem cod1_1 {p : Int} (h : p = 0) : cod1 p = 1 := if_pos h
theorem cod1_0 {p : Int} (h : ¬ p = 0) : cod1 p = 0 := if_neg h
theorem cod1a_1 {p q : Int} (h : p = 0 ∨ q = 0) : cod1a p q = 1 := if_pos h
theorem cod1a_0 {p q : Int} (h : ¬ p = 0) (h2 : ¬ q = 0) : cod1a p q = 0 := if_neg (fun z => z.elim h h2)
theorem cod2_1 {p q : Int} (h : p = 0) : cod2 p q = 1 := if_pos h
theorem cod2_2 {p q : Int} (h : ¬ p = 0) (h2 : q = 0) : cod2 p q = 2 := (if_neg h).trans (if_pos h2)
theorem cod2_0 {p q : Int} (h : ¬ p = 0) (h2 : ¬ q = 0) : cod2 p q = 0 := (if_neg h).trans (if_neg h2)
theorem cod3_1 {p q r : Int} (h : p = 0) : cod3 p q r = 1 := if_pos h
theorem cod3_2 {p q r : Int} (h : ¬ p = 0) (h2 : q = 0 ∨ r = 0) : cod3 p q r = 2 := (if_neg h).trans (if_pos h2)
theorem cod3_0 {p q r : Int} (h : ¬ p = 0) (h2 : ¬ q = 0) (h3 : ¬ r = 0) : cod3 p q r = 0 := (if_neg h).trans (if_neg (fun z => z.elim h2 h3))
theorem codS_1 {p g v : Int} (h : p = 0) : codS p g v = 1 := if_pos h
theorem codS_2 {p g v : Int} (h : ¬ p = 0) (h2 : v < g) : codS p g v = 2 := (if_neg h).trans (if_pos h2)
theorem codS_0 {p g v : Int} (h : ¬ p = 0) (h2 : g ≤ v) : codS p g v = 0 := (if_neg h).trans (if_neg (by omega))
theorem codM_1 {p q u k : Int} (h : p = 0 ∨ q = 0) : codM p q u k = 1 := if_pos h
theorem codM_2 {p q u k : Int} (h : ¬ p = 0) (h1 : ¬ q = 0) (h2 : 0 < u) (h3 : k = 0) : codM p q u k = 2 := (if_neg (fun z => z.elim h h1)).trans (if_pos ⟨h2, h3⟩)
theorem codM_0 {p q u k : Int} (h : ¬ p = 0) (h1 : ¬ q = 0) (h2 : ¬ (0 < u ∧ k = 0)) : codM p q u k = 0 := (if_neg (fun z => z.elim h h1)).trans (if_neg h2)
theorem ind_f {P : Prop} [Decidable P] (h : ¬ P) : (if P then (1 : Int) else 0) = 0 := if_neg h
theorem ind_t {P : Prop} [Decidable P] (h : P) : ¬ (if P then (1 : Int) else 0) = 0 := by rw [if_pos h]; decide
theorem or_f {P Q : Prop} {p q : Int} (hP : p = 0 ↔ ¬ P) (hQ : q = 0 ↔ ¬ Q) (h : ¬ (P ∧ Q)) : p = 0 ∨ q = 0 := by
  by_cases h1 : P
  · exact Or.inr (hQ.mpr (fun h2 => h ⟨h1, h2⟩))
  · exact Or.inl (hP.mpr h1)
theorem ind_iff {P : Prop} [Decidable P] : (if P then (1 : Int) else 0) = 0 ↔ ¬ P := by by_cases h : P <;> simp [h]
theorem updL_lI (f : Nat → Int) (k : Nat) (x : Int) : vp_updL (fun j => lI (f j)) k (lI x) = fun j => lI (uI f k x j) := by
  funext j
  by_cases h : j = k
  · subst h
    simp [vp_updL, uI]
  · simp [vp_updL, uI, h]
section ZLW
variable {p : Program} {l : Launch} {e : Env} {R : Room} {s : State} {m : MethodId} {args : Array Value} {below : List Frame} {meth : Method} {c : Code} {H : Heap} {locs : List Loc} {cells slots : Nat} {Q : State → Prop}
variable {cc : ByteArray} {pc : Nat} {ls : Array Slot} {rest : List Value} {D : va_G} {cl : List vw_C} {A : Nat → Prop} {a : Nat} {tys : List (ClassId × FieldType)} {ws : va_W} {H0 : Heap}
theorem z_i2lt (hx : p.tables.exec = Jvm.exec) (hb : c.code = cc) {a : Int} (hdg : decode cc pc = .ok (.i2l, 1)) (k : W p l e R s m args below meth c H locs cells slots Q (F0 m (pc + 1) ls (.long (lI (zt a)) :: rest))) : W p l e R s m args below meth c H locs cells slots Q (F0 m pc ls (.int (iI a) :: rest)) := by
  have h1 : iI a = iI (zt a) := iI_of (iI a)
  rw [h1]
  exact z_i2l hx hb hdg (rg_of _) k
theorem z_lald (hx : p.tables.exec = Jvm.exec) (hb : c.code = cc) (hK : va_K D cl tys s) (hP : va_P D cl ws H) (q0 t0 : Nat) {cA : ClassId} {n : Nat} {f : Nat → Int} (ha : ws[q0]? = some (a, aL cA n f)) (ht : tys[t0]? = some (cA, .long)) {i : Int} (hi : 0 ≤ i ∧ i < n) (hn : n < 2147483648) (hdg : decode cc pc = .ok (.laload, 1)) (kk : W p l e R s m args below meth c H locs cells slots Q (F0 m (pc + 1) ls (.long (lI (f i.toNat)) :: rest))) : W p l e R s m args below meth c H locs cells slots Q (F0 m pc ls (.int (iI i) :: .ref a :: rest)) := va_lald hx hb hK hP q0 t0 ha ht (iI_in hi.1 hi.2 hn) hdg (by rw [iI_cl ⟨by omega, by omega⟩]; exact kk)
theorem z_last (hx : p.tables.exec = Jvm.exec) (hb : c.code = cc) (hK : va_K D cl tys s) (hP : va_P D cl ws H) (hD : va_D A ws) (hS : va_S A H0 H locs) (q0 t0 : Nat) {cA : ClassId} {n : Nat} {f : Nat → Int} (ha : ws[q0]? = some (a, aL cA n f)) (ht : tys[t0]? = some (cA, .long)) {i x : Int} (hi : 0 ≤ i ∧ i < n) (hn : n < 2147483648) (hdg : decode cc pc = .ok (.lastore, 1)) (kk : ∀ (H1 : Heap) (locs1 : List Loc), va_P D cl (ws.set q0 (a, aL cA n (uI f i.toNat x))) H1 → va_D A (ws.set q0 (a, aL cA n (uI f i.toNat x))) → va_S A H0 H1 locs1 → W p l e R s m args below meth c H1 locs1 cells slots Q (F0 m (pc + 1) ls rest)) : W p l e R s m args below meth c H locs cells slots Q (F0 m pc ls (.long (lI x) :: .int (iI i) :: .ref a :: rest)) := va_last hx hb hK hP hD hS q0 t0 ha ht (iI_in hi.1 hi.2 hn) hdg (by rw [iI_cl ⟨by omega, by omega⟩, updL_lI]; exact kk)
theorem z_lcmp (hx : p.tables.exec = Jvm.exec) (hb : c.code = cc) {a b : Int} (h : a = b) (hdg : decode cc pc = .ok (.lcmp, 1)) (k : W p l e R s m args below meth c H locs cells slots Q (F0 m (pc + 1) ls (.int (iI 0) :: rest))) : W p l e R s m args below meth c H locs cells slots Q (F0 m pc ls (.long (lI b) :: .long (lI a) :: rest)) := by
  subst h
  refine W.lcmp hx hb hdg ?_
  have h1 : lg_cmp (lI a) (lI a) = iI 0 := by
    unfold lg_cmp
    simp
    rfl
  rw [h1]
  exact k
theorem z_sld (hx : p.tables.exec = Jvm.exec) (hb : c.code = cc) {b L : Nat} {xs : Nat → Int32} (hX : va_X b L xs s H0) (hbl : b < H0.size) (hbA : ¬ A b) (hS : va_S A H0 H locs) {i : Int} (hi : 0 ≤ i ∧ i < L) (hL : L < 2147483648) (hdg : decode cc pc = .ok (.iaload, 1)) (kk : W p l e R s m args below meth c H locs cells slots Q (F0 m (pc + 1) ls (.int (iI (xv xs i.toNat)) :: rest))) : W p l e R s m args below meth c H locs cells slots Q (F0 m pc ls (.int (iI i) :: .ref b :: rest)) := va_sld hx hb hX hbl hbA hS (iI_in hi.1 hi.2 hL) hdg (by rw [iI_cl ⟨by omega, by omega⟩, iI_of (xs i.toNat)]; exact kk)
theorem z_slen (hx : p.tables.exec = Jvm.exec) (hb : c.code = cc) {b L : Nat} {xs : Nat → Int32} (hX : va_X b L xs s H0) (hbl : b < H0.size) (hbA : ¬ A b) (hS : va_S A H0 H locs) (hdg : decode cc pc = .ok (.arraylength, 1)) (kk : W p l e R s m args below meth c H locs cells slots Q (F0 m (pc + 1) ls (.int (iI (L : Int)) :: rest))) : W p l e R s m args below meth c H locs cells slots Q (F0 m pc ls (.ref b :: rest)) := va_slen hx hb hX hbl hbA hS hdg (by rw [← iI_nat]; exact kk)
end ZLW
