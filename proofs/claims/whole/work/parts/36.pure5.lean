def ne01 (a b : Int) : Int := if a = b then 0 else 1
theorem ne01_01 (a b : Int) : ne01 a b = 0 ∨ ne01 a b = 1 := by unfold ne01; split <;> simp
theorem ne01_rg (a b : Int) : rg (ne01 a b) := by rcases ne01_01 a b with h | h <;> rw [h] <;> decide
def mwF (wa ka : Nat → Int) (u v : Int) (n : Nat) : Nat → Int := if u = 0 then wa else (mgL ka u v n (wa, 0)).1
def mkF (wa ka : Nat → Int) (u : Int) (n : Nat) : Nat → Int := if u = 0 then cpI wa ka n else ka
def mhF (u hk : Int) : Int := if u = 0 then 1 else hk
def mrF (wa ka : Nat → Int) (u v : Int) (n : Nat) : Int := if u = 0 then 0 else (mgL ka u v n (wa, 0)).2
section ZCP
variable {p : Program} {l : Launch} {e : Env} {R : Room} {s : State} {m : MethodId} {args : Array Value} {below : List Frame} {meth : Method} {c : Code} {H : Heap} {locs : List Loc} {cells slots : Nat} {Q : State → Prop}
variable {cc : ByteArray} {pc : Nat} {ls : Array Slot} {rest : List Value} {D : va_G} {cl : List vw_C} {A : Nat → Prop} {a : Nat} {tys : List (ClassId × FieldType)} {ws : va_W} {H0 : Heap}
theorem z_copy (hx : p.tables.exec = Jvm.exec) (hb : c.code = cc) (hml : c.maxLocals = ls.size) {own : String} {index : Nat} (hown : s.vm.findClass own = some m.cls) (hlink : (Cond.methodLink own index arraycopyName).before args s = true) (hnat : (Cond.native arraycopyName).before args s = true) (hstat : (Cond.static arraycopyName).before args s = true) (hini : (Cond.initialized "java/lang/System").before args s = true)
    (hK : va_K D cl tys s) (hP : va_P D cl ws H) (hD : va_D A ws) (hS : va_S A H0 H locs) (q0 q1 t0 t1 : Nat) {a0 : Nat} {c0 c1 : ClassId} {n0 : Nat} {f g : Nat → Int} (ha0 : ws[q0]? = some (a0, aI c0 n0 f)) (ha1 : ws[q1]? = some (a, aI c1 n0 g)) (ht0 : tys[t0]? = some (c0, .int)) (ht1 : tys[t1]? = some (c1, .int)) (hn : n0 < 2147483648)
    (hframes : 1 ≤ R.frames) (hlocals : (rest.map fun v => v.category).sum + (nativeFrameWords "java/lang/System" "arraycopy" 5 + 11) ≤ R.locals) (hdg : decode cc pc = .ok (.invokestatic index, 3))
    (kk : ∀ (H1 : Heap) (locs1 : List Loc), va_P D cl (ws.set q1 (a, aI c1 n0 (cpI f g n0))) H1 → va_D A (ws.set q1 (a, aI c1 n0 (cpI f g n0))) → va_S A H0 H1 locs1 → W p l e R s m args below meth c H1 locs1 cells slots Q (F0 m (pc + 3) ls rest)) : W p l e R s m args below meth c H locs cells slots Q (F0 m pc ls (.int (iI ((n0 : Nat) : Int)) :: .int (iI 0) :: .ref a :: .int (iI 0) :: .ref a0 :: rest)) := by
  have e0 : (iI 0).toNatClampNeg = 0 := by decide
  have en : (iI ((n0 : Nat) : Int)).toNatClampNeg = n0 := by rw [iI_cl ⟨by omega, by omega⟩]; exact Int.toNat_natCast n0
  have hnn : ¬ iI ((n0 : Nat) : Int) < 0 := by
    rw [iI_0]
    intro h
    have := (iI_lt ⟨by omega, by omega⟩ (by decide)).mp h
    omega
  refine va_copyi hx hb hml hown hlink hnat hstat hini hK hP hD hS q0 q1 t0 t1 ha0 ha1 ht0 ht1 rfl (by decide) (by decide) hnn (by rw [e0, en]; omega) (by rw [e0, en]; omega) (fun _ _ => rfl) hframes hlocals hdg ?_
  rw [e0, en, cpI_eq]
  exact kk
end ZCP
