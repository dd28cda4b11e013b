def wN (n : Int) : Nat := (max 1 (min 20 n)).toNat
theorem wN_eq (n : Int) : max 1 (min 20 n) = ((wN n : Nat) : Int) := by unfold wN; omega
theorem wN_rg (n : Int) : 1 ≤ wN n ∧ wN n ≤ 20 := by unfold wN; omega
theorem arrV_c {cI : ClassId} {N : Nat} {f g : Nat → Value} (h : ∀ j, j < N → f j = g j) : arrV cI N f = arrV cI N g := by
  unfold arrV
  congr 1
  congr 1
  funext j
  exact h j.1 j.2
theorem va_P_rep {D : va_G} {cl : List vw_C} {ws : va_W} {H : Heap} {p a : Nat} {e0 e : va_E} (hP : va_P D cl ws H) (hp : ws[p]? = some (a, e0)) (he : va_at D cl (a, e) H) : va_P D cl (ws.set p (a, e)) H := by
  intro k q hq
  by_cases h : p = k
  · subst h
    have hl : p < ws.length := (List.getElem?_eq_some_iff.mp hp).1
    rw [List.getElem?_set_self hl] at hq
    cases hq
    exact he
  · rw [List.getElem?_set_ne h] at hq
    exact hP k q hq
theorem refs4 {D : va_G} {cl : List vw_C} {H : Heap} {a : Nat} {cA : ClassId} {f : Nat → Option Nat} {g : Nat → Nat} (hP : va_at D cl (a, .inl (cA, 4, .inr (.inr (.inr (.inr f))))) H) (h : ∀ j, j < 4 → f j = some (g j)) : va_at D cl (a, aQ cA 4 g) H := by
  have h1 : H[a]? = some (vp_cell cA (4, .inr (.inr (.inr (.inr f))))) := hP
  show H[a]? = some (vp_cell cA (4, .inr (.inr (.inr (.inr (fun k => some (g k)))))))
  rw [h1, vp_cell_q, vp_cell_q, arrV_c (fun j hj => by rw [h j hj])]
section ZNA
variable {p : Program} {l : Launch} {e : Env} {R : Room} {s : State} {m : MethodId} {args : Array Value} {below : List Frame} {meth : Method} {c : Code} {H : Heap} {locs : List Loc} {cells slots : Nat} {Q : State → Prop}
variable {cc : ByteArray} {pc : Nat} {ls : Array Slot} {rest : List Value} {D : va_G} {cl : List vw_C} {A : Nat → Prop} {tys : List (ClassId × FieldType)} {ws : va_W} {H0 : Heap}
theorem z_newa (hx : p.tables.exec = Jvm.exec) (hb : c.code = cc) (harr : (Cond.arrayClass .int).before args s = true) (hK : va_K D cl tys s) (hP : va_P D cl ws H) (hD : va_D A ws) (hS : va_S A H0 H locs) (hA : ∀ q, H0.size ≤ q → A q) {a : Int} (N : Nat) (haN : a = ((N : Nat) : Int)) (hN : N ≤ 100000) (hcells : cells + 1 ≤ R.cells) (hslots : slots + N ≤ R.slots) (hdg : decode cc pc = .ok (.newarray .int, 2))
    (kk : ∀ (q : Nat) (cA : ClassId) (H1 : Heap), va_K D cl (tys ++ [(cA, .int)]) s → va_P D cl (ws ++ [(q, aI cA N (fun _ => 0))]) H1 → va_D A (ws ++ [(q, aI cA N (fun _ => 0))]) → va_S A H0 H1 locs → W p l e R s m args below meth c H1 locs (cells + 1) (slots + N) Q (F0 m (pc + 2) ls (.ref q :: rest))) : W p l e R s m args below meth c H locs cells slots Q (F0 m pc ls (.int (iI a) :: rest)) := by
  have hr : rg a := ⟨by omega, by omega⟩
  have h1 : ∀ cA : ClassId, vp_cell cA (N, .inl (fun _ => iI 0)) = arrV cA N (fun _ => defaultValue .int) := fun cA => by
    rw [vp_cell_i]
    exact congrArg (fun z => arrV cA N (fun _ => Value.int z)) iI_0.symm
  have h2 : ¬ iI a < 0 := by
    rw [iI_0]
    intro h
    have := (iI_lt hr (by decide)).mp h
    omega
  have h3 : (iI a).toNatClampNeg = N := by rw [iI_cl hr, haN]; exact Int.toNat_natCast N
  have h4 : componentBytes .int = 4 := rfl
  have h5 : N * componentBytes .int ≤ 536870912 := by rw [h4]; omega
  exact va_newa (atype := .int) (ty := .int) (N' := N) (a0 := (N, .inl (fun _ => iI 0))) hx hb harr rfl hK hP hD hS hA h1 h2 h3 h5 hcells hslots hdg kk
end ZNA
