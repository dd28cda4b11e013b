def zIsNest : Cond → Bool
  | .fieldLinkNest .. => true
  | .methodLinkNest .. => true
  | .declares .. => true
  | .castable .. => true
  | _ => false
theorem zNest_tab {w : Cond} (h : zIsNest w = true) : w.onTables = true := by
  cases w <;> first | rfl | cases h
theorem zNest_warm {w : Cond} (h : zIsNest w = true) {s U : State} (hW : s.WarmedH U.vm) (hZ : va_Nw w s) : va_Nw w U := by
  cases w <;> first | exact va_Nw.warmF hW hZ | exact va_Nw.warmM hW hZ | exact va_Nw.warmD hW hZ | exact va_Nw.warmC hW hZ | cases h
theorem zNest_ok : ∀ w ∈ zNest, zIsNest w = true := by decide +kernel
/-- what a start gives of nest mates, texts, classes that aren't cast, and the throwables' statics -/
def zZ (A : Nat → Prop) (U : State) (H : Heap) : Prop := (∀ w ∈ zNest, va_Nw w U) ∧ (∀ q ∈ zTxt, ∃ a, vk_R q.1 q.2.1 q.2.2 a U) ∧ (∀ q ∈ zNcs, va_Nc q.1 q.2 U) ∧ vx_Zq "java/lang/Throwable" "UNASSIGNED_STACK" "[Ljava/lang/StackTraceElement;" A U H ∧ vx_Zq "java/lang/Throwable" "SUPPRESSED_SENTINEL" "Ljava/util/List;" A U H
theorem zZ.same {A : Nat → Prop} {u U : State} {H : Heap} (hv : U.vm = u.vm) (h : zZ A u H) : zZ A U H := by
  have ha : u.vm.Alike U.vm := by rw [hv]; exact Vm.Alike.refl u.vm
  exact ⟨fun w hw => va_Nw.same (zNest_tab (zNest_ok w hw)) hv.symm (h.1 w hw), fun q hq => (h.2.1 q hq).elim fun a hz => ⟨a, vk_R.same hv hz⟩, fun q hq => va_Nc.moved ha (h.2.2.1 q hq), vx_Zq.moved ha h.2.2.2.1, vx_Zq.moved ha h.2.2.2.2⟩
theorem zZ.warm {A B : Nat → Prop} {s U : State} {H : Heap} {locs : List Loc} (hW : s.WarmedH U.vm) (hS : va_S A s.heap H locs) (hF : ∀ q, B q → A q) (hU : U.heap = H) (h : zZ A s s.heap) : zZ B U U.heap := by
  rw [hU]
  exact ⟨fun w hw => zNest_warm (zNest_ok w hw) hW (h.1 w hw), fun q hq => (h.2.1 q hq).elim fun a hz => ⟨a, vk_R.warm hW hz⟩, fun q hq => va_Nc.moved hW.alike (h.2.2.1 q hq), vx_Zq.narrow (vx_Zq.moved hW.alike (vx_Zq.kept h.2.2.2.1 hS.2.1)) hF, vx_Zq.narrow (vx_Zq.moved hW.alike (vx_Zq.kept h.2.2.2.2 hS.2.1)) hF⟩
/-- a method's start over the world ws -/
def zP (D : va_G) (cl : List vw_C) (tys : List (ClassId × FieldType)) (ws : va_W) (sz : Nat) (av : List Value) : Array Value → State → Prop := va_Pc av (fun U => U.heap.size = sz ∧ va_P D cl ws U.heap ∧ va_K D cl tys U ∧ va_D (fun _ => True) ws ∧ zZ (va_A ws sz) U U.heap)
theorem zP_bl {D : va_G} {cl : List vw_C} {tys : List (ClassId × FieldType)} {ws : va_W} {sz : Nat} {av : List Value} : FrameBlind (zP D cl tys ws sz av) := fun a U g mk q => by
  obtain ⟨q0, q1, qP, qK, qD, qZ⟩ := q
  exact ⟨q0, q1, qP, va_K.moved (u := U) (U := U.calling g mk a) (Vm.Alike.refl U.vm) qK, qD, zZ.same (u := U) (U := U.calling g mk a) rfl qZ⟩
def zB (D : va_G) (cl : List vw_C) (tys : List (ClassId × FieldType)) (A : Nat → Prop) (ws' : va_W) (t : State) : Prop := va_P D cl ws' t.heap ∧ va_K D cl tys t ∧ va_D A ws'
def zQi (D : va_G) (cl : List vw_C) (tys : List (ClassId × FieldType)) (ws : va_W) (sz : Nat) (ok : Prop) (r : Int) (ws' : va_W) : Array Value → State → Outcome → State → Prop := va_Qi (S := Unit) (fun x _ => ok ∧ x = iI r) (fun _ t => zB D cl tys (va_A ws sz) ws' t) (va_A ws sz)
def zQl (D : va_G) (cl : List vw_C) (tys : List (ClassId × FieldType)) (ws : va_W) (sz : Nat) (ok : Prop) (r : Int) (ws' : va_W) : Array Value → State → Outcome → State → Prop := va_Ql (S := Unit) (fun x _ => ok ∧ x = lI r) (fun _ t => zB D cl tys (va_A ws sz) ws' t) (va_A ws sz)
def zQv (D : va_G) (cl : List vw_C) (tys : List (ClassId × FieldType)) (ws : va_W) (sz : Nat) (ok : Prop) (ws' : va_W) : Array Value → State → Outcome → State → Prop := va_Qv (S := Unit) (fun _ => ok) (fun _ t => zB D cl tys (va_A ws sz) ws' t) (va_A ws sz)
/-- what a throw leaves: which class, and the world as it was -/
def zX (D : va_G) (cl : List vw_C) (tys : List (ClassId × FieldType)) (ws : va_W) (sz : Nat) (φ : String → Prop) : String → State → State → Prop := vx_X (S := Unit) (fun _ => True) (fun E _ t => φ E ∧ zB D cl tys (va_A ws sz) ws t) (va_A ws sz)
section ZC
variable {p : Program} {l : Launch} {e : Env} {R : Room} {s : State} {m : MethodId} {args : Array Value} {below : List Frame} {meth : Method} {c : Code} {H : Heap} {locs : List Loc} {cells slots : Nat} {Q : State → Prop}
variable {pc : Nat} {ls : Array Slot} {rest st0 : List Value} {a : Array Value} {A : Nat → Prop} {mc ms : Nat} {D : va_G} {cl : List vw_C} {tys tysC : List (ClassId × FieldType)} {ws wc w1 ws' : va_W}
theorem zP_S {As : List Value} (hP : va_P D cl wc H) (hK : va_K D cl tysC s) (hD : va_D A wc) (hS : va_S A s.heap H locs) (hF : ∀ q, va_A wc H.size q → A q) (hZ : zZ A s s.heap) : PreS s H (zP D cl tysC wc H.size As) As :=
  ⟨zP_bl, fun U hU hW => ⟨rfl, by rw [hU], by rw [hU]; exact hP, va_K.moved hW.alike hK, hD.weaken (fun _ _ _ _ => trivial), zZ.warm hW hS hF hU hZ⟩⟩
theorem zP_V {As : List Value} {b ci q0 : Nat} {fs : List Value} {q : vw_C} (hc : cl[ci]? = some q) (he : wc[q0]? = some (b, .inr (ci, fs))) (hP : va_P D cl wc H) (hK : va_K D cl tysC s) (hD : va_D A wc) (hS : va_S A s.heap H locs) (hF : ∀ q, va_A wc H.size q → A q) (hZ : zZ A s s.heap) : PreV s H q.1 b (zP D cl tysC wc H.size (.ref b :: As)) As :=
  ⟨zP_bl, va_recv hK hP hc he, fun U hU hW => ⟨rfl, by rw [hU], by rw [hU]; exact hP, va_K.moved hW.alike hK, hD.weaken (fun _ _ _ _ => trivial), zZ.warm hW hS hF hU hZ⟩⟩
theorem z_fmap {is : List Nat} {w w' : va_W} (h : is.map (fun i => w[i]?) = w'.map some) : is.filterMap (fun i => w[i]?) = w' := by
  have h1 := congrArg (List.filterMap id) h
  rw [List.filterMap_map, List.filterMap_map] at h1
  have h2 : List.filterMap (id ∘ fun i => w[i]?) is = List.filterMap (fun i => w[i]?) is := rfl
  have h3 : List.filterMap (id ∘ some) w' = w' := by
    show List.filterMap some w' = w'
    exact List.filterMap_some
  rw [h2, h3] at h1
  exact h1
theorem z_P0 : va_P D cl [] H := fun k q h => by simp at h
theorem z_D0 : va_D A [] := ⟨fun i j p q h => by simp at h, fun k q h => by simp at h⟩
theorem z_free0 (hS : va_S A s.heap H locs) (hA : ∀ q, s.heap.size ≤ q → A q) : ∀ q, va_A [] H.size q → A q := by
  rintro q (⟨k, e, h⟩ | h)
  · simp at h
  · exact hA q (Nat.le_trans hS.1 h)
theorem z_subOf (is : List Nat) (h : is.map (fun i => ws[i]?) = wc.map some) : ∀ q ∈ wc, q ∈ ws := by
  intro q hq
  have h1 : some q ∈ is.map (fun i => ws[i]?) := by rw [h]; exact List.mem_map_of_mem hq
  obtain ⟨i, -, hi⟩ := List.mem_map.mp h1
  exact List.mem_of_getElem? hi
/-- behind a call that changed the cells at isC to w1, the others as they were -/
theorem z_joinW {H1 : Heap} (hP : va_P D cl ws H) (hD : va_D A ws) (isC isR perm : List Nat) (hC : isC.map (fun i => ws[i]?) = wc.map some) {wr : va_W} (hR : isR.map (fun i => ws[i]?) = wr.map some) (hn : va_nd isR = true) (hdis : ∀ i ∈ isR, i ∉ isC) (hp : perm.map (fun i => (wr ++ w1)[i]?) = ws'.map some) (hnp : va_nd perm = true)
    (hk : ∀ q : Nat, q < H.size → ¬ va_A wc H.size q → H1[q]? = H[q]?) (hF : ∀ q, va_A wc H.size q → A q) (hP1 : va_P D cl w1 H1) (hD1 : va_D (va_A wc H.size) w1) : va_P D cl ws' H1 ∧ va_D A ws' := by
  obtain ⟨h1, h2⟩ := va_join hP hD isC isR hC hR hn hdis hk hF hP1 hD1
  exact ⟨h1.sub perm (z_fmap hp), h2.sub perm hnp hp⟩
/-- behind a call that changed nothing of its cells wc, which are among ws -/
theorem z_joinR {H1 : Heap} (hP : va_P D cl ws H) (hD : va_D A ws) (hsub : ∀ q ∈ wc, q ∈ ws) (hk : ∀ q : Nat, q < H.size → ¬ va_A wc H.size q → H1[q]? = H[q]?) (hP1 : va_P D cl wc H1) : va_P D cl ws H1 := by
  intro k q hq
  by_cases h : ∃ e, (q.1, e) ∈ wc
  · obtain ⟨e, he⟩ := h
    obtain ⟨i, hi⟩ := List.getElem?_of_mem (hsub _ he)
    have hik := hD.1 i k (q.1, e) q hi hq rfl
    subst hik
    have hqe : (q.1, e) = q := Option.some.inj (hi.symm.trans hq)
    rw [hqe] at he
    obtain ⟨j, hj⟩ := List.getElem?_of_mem he
    exact hP1 j q hj
  · have hl := (hP k q hq).lt
    refine (hP k q hq).kept (hk q.1 hl ?_)
    rintro (⟨j, e, hj⟩ | hz)
    · exact h ⟨e, List.mem_of_getElem? hj⟩
    · omega
theorem z_freeR {locs : List Loc} (hsub : ∀ q ∈ wc, q ∈ ws) (hD : va_D A ws) (hS : va_S A s.heap H locs) (hA : ∀ q, s.heap.size ≤ q → A q) : ∀ q, va_A wc H.size q → A q := by
  rintro q (⟨k, e, h⟩ | h)
  · obtain ⟨i, hi⟩ := List.getElem?_of_mem (hsub _ (List.mem_of_getElem? h))
    exact hD.2 i _ hi
  · exact hA q (Nat.le_trans hS.1 h)
theorem z_subP (hsub : ∀ q ∈ wc, q ∈ ws) (hP : va_P D cl ws H) : va_P D cl wc H := fun k q h => by
  obtain ⟨i, hi⟩ := List.getElem?_of_mem (hsub _ (List.mem_of_getElem? h))
  exact hP i q hi
theorem z_calli {r : Int} {ok : Prop} (hr : va_Run p l e R s m args below meth c H locs cells slots mc ms (F0 m pc ls st0) rest (zQi D cl tysC wc H.size ok r w1 a) (va_A wc H.size)) (hP : va_P D cl ws H) (hD : va_D A ws) (hS : va_S A s.heap H locs) (hF : ∀ q, va_A wc H.size q → A q) (isC isR perm : List Nat) (hC : isC.map (fun i => ws[i]?) = wc.map some) {wr : va_W} (hR : isR.map (fun i => ws[i]?) = wr.map some) (hn : va_nd isR = true) (hdis : ∀ i ∈ isR, i ∉ isC) (hp : perm.map (fun i => (wr ++ w1)[i]?) = ws'.map some) (hnp : va_nd perm = true) (kk : ∀ (H1 : Heap) (locs1 : List Loc), ok → va_P D cl ws' H1 → va_D A ws' → va_S A s.heap H1 locs1 → H.size ≤ H1.size → W p l e R s m args below meth c H1 locs1 (cells + mc) (slots + ms) Q (F0 m (pc + 3) ls (.int (iI r) :: rest))) : W p l e R s m args below meth c H locs cells slots Q (F0 m pc ls st0) := by
  refine va_calli hr hS (fun q _ h => hF q h) hF (fun r9 u t H1 locs1 ht hvm hw hB hz1 hk1 hS1 => ?_)
  obtain ⟨hP1, hK1, hD1⟩ := hB
  rw [ht] at hP1
  obtain ⟨hok, rfl⟩ := hw
  obtain ⟨h1, h2⟩ := z_joinW hP hD isC isR perm hC hR hn hdis hp hnp hk1 hF hP1 hD1
  exact kk H1 locs1 hok h1 h2 hS1 hz1
theorem z_rcalli {r : Int} {ok : Prop} (hr : va_Run p l e R s m args below meth c H locs cells slots mc ms (F0 m pc ls st0) rest (zQi D cl tysC wc H.size ok r wc a) (va_A wc H.size)) (hP : va_P D cl ws H) (hD : va_D A ws) (hS : va_S A s.heap H locs) (hF : ∀ q, va_A wc H.size q → A q) (hsub : ∀ q ∈ wc, q ∈ ws) (kk : ∀ (H1 : Heap) (locs1 : List Loc), ok → va_P D cl ws H1 → va_D A ws → va_S A s.heap H1 locs1 → H.size ≤ H1.size → W p l e R s m args below meth c H1 locs1 (cells + mc) (slots + ms) Q (F0 m (pc + 3) ls (.int (iI r) :: rest))) : W p l e R s m args below meth c H locs cells slots Q (F0 m pc ls st0) := by
  refine va_calli hr hS (fun q _ h => hF q h) hF (fun r9 u t H1 locs1 ht hvm hw hB hz1 hk1 hS1 => ?_)
  obtain ⟨hP1, hK1, hD1⟩ := hB
  rw [ht] at hP1
  obtain ⟨hok, rfl⟩ := hw
  exact kk H1 locs1 hok (z_joinR hP hD hsub hk1 hP1) hD hS1 hz1
theorem z_wcalli {r : Int} {ok : Prop} (hr : va_Run p l e R s m args below meth c H locs cells slots mc ms (F0 m pc ls st0) rest (zQi D cl tysC wc H.size ok r w1 a) (va_A wc H.size)) (hS : va_S A s.heap H locs) (hF : ∀ q, va_A wc H.size q → A q) (kk : ∀ (H1 : Heap) (locs1 : List Loc), ok → va_P D cl w1 H1 → va_D A w1 → va_S A s.heap H1 locs1 → H.size ≤ H1.size → W p l e R s m args below meth c H1 locs1 (cells + mc) (slots + ms) Q (F0 m (pc + 3) ls (.int (iI r) :: rest))) : W p l e R s m args below meth c H locs cells slots Q (F0 m pc ls st0) := by
  refine va_calli hr hS (fun q _ h => hF q h) hF (fun r9 u t H1 locs1 ht hvm hw hB hz1 hk1 hS1 => ?_)
  obtain ⟨hP1, hK1, hD1⟩ := hB
  rw [ht] at hP1
  obtain ⟨hok, rfl⟩ := hw
  exact kk H1 locs1 hok hP1 (hD1.weaken (fun _ q _ h => hF q.1 h)) hS1 hz1
theorem z_xcalli {r : Int} {ok : Prop} {φ : String → Prop} (hr : vx_Run p l e R s m args below meth c H locs cells slots mc ms (F0 m pc ls st0) rest (zQi D cl tysC wc H.size ok r w1 a) (zX D cl tysC wc H.size φ) (va_A wc H.size)) (hP : va_P D cl ws H) (hD : va_D A ws) (hS : va_S A s.heap H locs) (hF : ∀ q, va_A wc H.size q → A q) (hsub : ∀ q ∈ wc, q ∈ ws) (isC isR perm : List Nat) (hC : isC.map (fun i => ws[i]?) = wc.map some) {wr : va_W} (hR : isR.map (fun i => ws[i]?) = wr.map some) (hn : va_nd isR = true) (hdis : ∀ i ∈ isR, i ∉ isC) (hp : perm.map (fun i => (wr ++ w1)[i]?) = ws'.map some) (hnp : va_nd perm = true) (kx : ∀ (E : String) (ce : Cell) (q9 : Addr) (H1 : Heap) (locs1 : List Loc), φ E → va_P D cl ws H1 → va_S A s.heap H1 locs1 → H.size ≤ H1.size → H1[q9]? = some ce → ce.vm = .none → s.vm.findClass E = some ce.cls → vx_W p l e R s m args below meth c H1 locs1 (cells + mc) (slots + ms) Q (F0 m pc ls rest) q9) (kk : ∀ (H1 : Heap) (locs1 : List Loc), ok → va_P D cl ws' H1 → va_D A ws' → va_S A s.heap H1 locs1 → H.size ≤ H1.size → W p l e R s m args below meth c H1 locs1 (cells + mc) (slots + ms) Q (F0 m (pc + 3) ls (.int (iI r) :: rest))) : W p l e R s m args below meth c H locs cells slots Q (F0 m pc ls st0) := by
  refine vx_calli hr hS (fun q _ h => hF q h) hF (fun q _ h => hF q h) (fun E ce q9 u t H1 locs1 ht hvm _ hB hz1 hk1 hS1 h7 h8 h9 => ?_) (fun r9 u t H1 locs1 ht hvm hw hB hz1 hk1 hS1 => ?_)
  · obtain ⟨hE, hP1, hK1, hD1⟩ := hB
    rw [ht] at hP1
    exact kx E ce q9 H1 locs1 hE (z_joinR hP hD hsub hk1 hP1) hS1 hz1 h7 h8 h9
  · obtain ⟨hP1, hK1, hD1⟩ := hB
    rw [ht] at hP1
    obtain ⟨hok, rfl⟩ := hw
    obtain ⟨h1, h2⟩ := z_joinW hP hD isC isR perm hC hR hn hdis hp hnp hk1 hF hP1 hD1
    exact kk H1 locs1 hok h1 h2 hS1 hz1
theorem z_xrcalli {r : Int} {ok : Prop} {φ : String → Prop} (hr : vx_Run p l e R s m args below meth c H locs cells slots mc ms (F0 m pc ls st0) rest (zQi D cl tysC wc H.size ok r wc a) (zX D cl tysC wc H.size φ) (va_A wc H.size)) (hP : va_P D cl ws H) (hD : va_D A ws) (hS : va_S A s.heap H locs) (hF : ∀ q, va_A wc H.size q → A q) (hsub : ∀ q ∈ wc, q ∈ ws) (kx : ∀ (E : String) (ce : Cell) (q9 : Addr) (H1 : Heap) (locs1 : List Loc), φ E → va_P D cl ws H1 → va_S A s.heap H1 locs1 → H.size ≤ H1.size → H1[q9]? = some ce → ce.vm = .none → s.vm.findClass E = some ce.cls → vx_W p l e R s m args below meth c H1 locs1 (cells + mc) (slots + ms) Q (F0 m pc ls rest) q9) (kk : ∀ (H1 : Heap) (locs1 : List Loc), ok → va_P D cl ws H1 → va_D A ws → va_S A s.heap H1 locs1 → H.size ≤ H1.size → W p l e R s m args below meth c H1 locs1 (cells + mc) (slots + ms) Q (F0 m (pc + 3) ls (.int (iI r) :: rest))) : W p l e R s m args below meth c H locs cells slots Q (F0 m pc ls st0) := by
  refine vx_calli hr hS (fun q _ h => hF q h) hF (fun q _ h => hF q h) (fun E ce q9 u t H1 locs1 ht hvm _ hB hz1 hk1 hS1 h7 h8 h9 => ?_) (fun r9 u t H1 locs1 ht hvm hw hB hz1 hk1 hS1 => ?_)
  · obtain ⟨hE, hP1, hK1, hD1⟩ := hB
    rw [ht] at hP1
    exact kx E ce q9 H1 locs1 hE (z_joinR hP hD hsub hk1 hP1) hS1 hz1 h7 h8 h9
  · obtain ⟨hP1, hK1, hD1⟩ := hB
    rw [ht] at hP1
    obtain ⟨hok, rfl⟩ := hw
    exact kk H1 locs1 hok (z_joinR hP hD hsub hk1 hP1) hD hS1 hz1
theorem z_calll {r : Int} {ok : Prop} (hr : va_Run p l e R s m args below meth c H locs cells slots mc ms (F0 m pc ls st0) rest (zQl D cl tysC wc H.size ok r w1 a) (va_A wc H.size)) (hP : va_P D cl ws H) (hD : va_D A ws) (hS : va_S A s.heap H locs) (hF : ∀ q, va_A wc H.size q → A q) (isC isR perm : List Nat) (hC : isC.map (fun i => ws[i]?) = wc.map some) {wr : va_W} (hR : isR.map (fun i => ws[i]?) = wr.map some) (hn : va_nd isR = true) (hdis : ∀ i ∈ isR, i ∉ isC) (hp : perm.map (fun i => (wr ++ w1)[i]?) = ws'.map some) (hnp : va_nd perm = true) (kk : ∀ (H1 : Heap) (locs1 : List Loc), ok → va_P D cl ws' H1 → va_D A ws' → va_S A s.heap H1 locs1 → H.size ≤ H1.size → W p l e R s m args below meth c H1 locs1 (cells + mc) (slots + ms) Q (F0 m (pc + 3) ls (.long (lI r) :: rest))) : W p l e R s m args below meth c H locs cells slots Q (F0 m pc ls st0) := by
  refine va_calll hr hS (fun q _ h => hF q h) hF (fun r9 u t H1 locs1 ht hvm hw hB hz1 hk1 hS1 => ?_)
  obtain ⟨hP1, hK1, hD1⟩ := hB
  rw [ht] at hP1
  obtain ⟨hok, rfl⟩ := hw
  obtain ⟨h1, h2⟩ := z_joinW hP hD isC isR perm hC hR hn hdis hp hnp hk1 hF hP1 hD1
  exact kk H1 locs1 hok h1 h2 hS1 hz1
theorem z_rcalll {r : Int} {ok : Prop} (hr : va_Run p l e R s m args below meth c H locs cells slots mc ms (F0 m pc ls st0) rest (zQl D cl tysC wc H.size ok r wc a) (va_A wc H.size)) (hP : va_P D cl ws H) (hD : va_D A ws) (hS : va_S A s.heap H locs) (hF : ∀ q, va_A wc H.size q → A q) (hsub : ∀ q ∈ wc, q ∈ ws) (kk : ∀ (H1 : Heap) (locs1 : List Loc), ok → va_P D cl ws H1 → va_D A ws → va_S A s.heap H1 locs1 → H.size ≤ H1.size → W p l e R s m args below meth c H1 locs1 (cells + mc) (slots + ms) Q (F0 m (pc + 3) ls (.long (lI r) :: rest))) : W p l e R s m args below meth c H locs cells slots Q (F0 m pc ls st0) := by
  refine va_calll hr hS (fun q _ h => hF q h) hF (fun r9 u t H1 locs1 ht hvm hw hB hz1 hk1 hS1 => ?_)
  obtain ⟨hP1, hK1, hD1⟩ := hB
  rw [ht] at hP1
  obtain ⟨hok, rfl⟩ := hw
  exact kk H1 locs1 hok (z_joinR hP hD hsub hk1 hP1) hD hS1 hz1
theorem z_wcalll {r : Int} {ok : Prop} (hr : va_Run p l e R s m args below meth c H locs cells slots mc ms (F0 m pc ls st0) rest (zQl D cl tysC wc H.size ok r w1 a) (va_A wc H.size)) (hS : va_S A s.heap H locs) (hF : ∀ q, va_A wc H.size q → A q) (kk : ∀ (H1 : Heap) (locs1 : List Loc), ok → va_P D cl w1 H1 → va_D A w1 → va_S A s.heap H1 locs1 → H.size ≤ H1.size → W p l e R s m args below meth c H1 locs1 (cells + mc) (slots + ms) Q (F0 m (pc + 3) ls (.long (lI r) :: rest))) : W p l e R s m args below meth c H locs cells slots Q (F0 m pc ls st0) := by
  refine va_calll hr hS (fun q _ h => hF q h) hF (fun r9 u t H1 locs1 ht hvm hw hB hz1 hk1 hS1 => ?_)
  obtain ⟨hP1, hK1, hD1⟩ := hB
  rw [ht] at hP1
  obtain ⟨hok, rfl⟩ := hw
  exact kk H1 locs1 hok hP1 (hD1.weaken (fun _ q _ h => hF q.1 h)) hS1 hz1
theorem z_xcalll {r : Int} {ok : Prop} {φ : String → Prop} (hr : vx_Run p l e R s m args below meth c H locs cells slots mc ms (F0 m pc ls st0) rest (zQl D cl tysC wc H.size ok r w1 a) (zX D cl tysC wc H.size φ) (va_A wc H.size)) (hP : va_P D cl ws H) (hD : va_D A ws) (hS : va_S A s.heap H locs) (hF : ∀ q, va_A wc H.size q → A q) (hsub : ∀ q ∈ wc, q ∈ ws) (isC isR perm : List Nat) (hC : isC.map (fun i => ws[i]?) = wc.map some) {wr : va_W} (hR : isR.map (fun i => ws[i]?) = wr.map some) (hn : va_nd isR = true) (hdis : ∀ i ∈ isR, i ∉ isC) (hp : perm.map (fun i => (wr ++ w1)[i]?) = ws'.map some) (hnp : va_nd perm = true) (kx : ∀ (E : String) (ce : Cell) (q9 : Addr) (H1 : Heap) (locs1 : List Loc), φ E → va_P D cl ws H1 → va_S A s.heap H1 locs1 → H.size ≤ H1.size → H1[q9]? = some ce → ce.vm = .none → s.vm.findClass E = some ce.cls → vx_W p l e R s m args below meth c H1 locs1 (cells + mc) (slots + ms) Q (F0 m pc ls rest) q9) (kk : ∀ (H1 : Heap) (locs1 : List Loc), ok → va_P D cl ws' H1 → va_D A ws' → va_S A s.heap H1 locs1 → H.size ≤ H1.size → W p l e R s m args below meth c H1 locs1 (cells + mc) (slots + ms) Q (F0 m (pc + 3) ls (.long (lI r) :: rest))) : W p l e R s m args below meth c H locs cells slots Q (F0 m pc ls st0) := by
  refine vx_calll hr hS (fun q _ h => hF q h) hF (fun q _ h => hF q h) (fun E ce q9 u t H1 locs1 ht hvm _ hB hz1 hk1 hS1 h7 h8 h9 => ?_) (fun r9 u t H1 locs1 ht hvm hw hB hz1 hk1 hS1 => ?_)
  · obtain ⟨hE, hP1, hK1, hD1⟩ := hB
    rw [ht] at hP1
    exact kx E ce q9 H1 locs1 hE (z_joinR hP hD hsub hk1 hP1) hS1 hz1 h7 h8 h9
  · obtain ⟨hP1, hK1, hD1⟩ := hB
    rw [ht] at hP1
    obtain ⟨hok, rfl⟩ := hw
    obtain ⟨h1, h2⟩ := z_joinW hP hD isC isR perm hC hR hn hdis hp hnp hk1 hF hP1 hD1
    exact kk H1 locs1 hok h1 h2 hS1 hz1
theorem z_xrcalll {r : Int} {ok : Prop} {φ : String → Prop} (hr : vx_Run p l e R s m args below meth c H locs cells slots mc ms (F0 m pc ls st0) rest (zQl D cl tysC wc H.size ok r wc a) (zX D cl tysC wc H.size φ) (va_A wc H.size)) (hP : va_P D cl ws H) (hD : va_D A ws) (hS : va_S A s.heap H locs) (hF : ∀ q, va_A wc H.size q → A q) (hsub : ∀ q ∈ wc, q ∈ ws) (kx : ∀ (E : String) (ce : Cell) (q9 : Addr) (H1 : Heap) (locs1 : List Loc), φ E → va_P D cl ws H1 → va_S A s.heap H1 locs1 → H.size ≤ H1.size → H1[q9]? = some ce → ce.vm = .none → s.vm.findClass E = some ce.cls → vx_W p l e R s m args below meth c H1 locs1 (cells + mc) (slots + ms) Q (F0 m pc ls rest) q9) (kk : ∀ (H1 : Heap) (locs1 : List Loc), ok → va_P D cl ws H1 → va_D A ws → va_S A s.heap H1 locs1 → H.size ≤ H1.size → W p l e R s m args below meth c H1 locs1 (cells + mc) (slots + ms) Q (F0 m (pc + 3) ls (.long (lI r) :: rest))) : W p l e R s m args below meth c H locs cells slots Q (F0 m pc ls st0) := by
  refine vx_calll hr hS (fun q _ h => hF q h) hF (fun q _ h => hF q h) (fun E ce q9 u t H1 locs1 ht hvm _ hB hz1 hk1 hS1 h7 h8 h9 => ?_) (fun r9 u t H1 locs1 ht hvm hw hB hz1 hk1 hS1 => ?_)
  · obtain ⟨hE, hP1, hK1, hD1⟩ := hB
    rw [ht] at hP1
    exact kx E ce q9 H1 locs1 hE (z_joinR hP hD hsub hk1 hP1) hS1 hz1 h7 h8 h9
  · obtain ⟨hP1, hK1, hD1⟩ := hB
    rw [ht] at hP1
    obtain ⟨hok, rfl⟩ := hw
    exact kk H1 locs1 hok (z_joinR hP hD hsub hk1 hP1) hD hS1 hz1
theorem z_callv {ok : Prop} (hr : va_Run p l e R s m args below meth c H locs cells slots mc ms (F0 m pc ls st0) rest (zQv D cl tysC wc H.size ok w1 a) (va_A wc H.size)) (hP : va_P D cl ws H) (hD : va_D A ws) (hS : va_S A s.heap H locs) (hF : ∀ q, va_A wc H.size q → A q) (isC isR perm : List Nat) (hC : isC.map (fun i => ws[i]?) = wc.map some) {wr : va_W} (hR : isR.map (fun i => ws[i]?) = wr.map some) (hn : va_nd isR = true) (hdis : ∀ i ∈ isR, i ∉ isC) (hp : perm.map (fun i => (wr ++ w1)[i]?) = ws'.map some) (hnp : va_nd perm = true) (kk : ∀ (H1 : Heap) (locs1 : List Loc), ok → va_P D cl ws' H1 → va_D A ws' → va_S A s.heap H1 locs1 → H.size ≤ H1.size → W p l e R s m args below meth c H1 locs1 (cells + mc) (slots + ms) Q (F0 m (pc + 3) ls (rest))) : W p l e R s m args below meth c H locs cells slots Q (F0 m pc ls st0) := by
  refine va_callv hr hS (fun q _ h => hF q h) hF (fun u t H1 locs1 ht hvm hw hB hz1 hk1 hS1 => ?_)
  obtain ⟨hP1, hK1, hD1⟩ := hB
  rw [ht] at hP1
  have hok := hw
  obtain ⟨h1, h2⟩ := z_joinW hP hD isC isR perm hC hR hn hdis hp hnp hk1 hF hP1 hD1
  exact kk H1 locs1 hok h1 h2 hS1 hz1
theorem z_rcallv {ok : Prop} (hr : va_Run p l e R s m args below meth c H locs cells slots mc ms (F0 m pc ls st0) rest (zQv D cl tysC wc H.size ok wc a) (va_A wc H.size)) (hP : va_P D cl ws H) (hD : va_D A ws) (hS : va_S A s.heap H locs) (hF : ∀ q, va_A wc H.size q → A q) (hsub : ∀ q ∈ wc, q ∈ ws) (kk : ∀ (H1 : Heap) (locs1 : List Loc), ok → va_P D cl ws H1 → va_D A ws → va_S A s.heap H1 locs1 → H.size ≤ H1.size → W p l e R s m args below meth c H1 locs1 (cells + mc) (slots + ms) Q (F0 m (pc + 3) ls (rest))) : W p l e R s m args below meth c H locs cells slots Q (F0 m pc ls st0) := by
  refine va_callv hr hS (fun q _ h => hF q h) hF (fun u t H1 locs1 ht hvm hw hB hz1 hk1 hS1 => ?_)
  obtain ⟨hP1, hK1, hD1⟩ := hB
  rw [ht] at hP1
  have hok := hw
  exact kk H1 locs1 hok (z_joinR hP hD hsub hk1 hP1) hD hS1 hz1
theorem z_wcallv {ok : Prop} (hr : va_Run p l e R s m args below meth c H locs cells slots mc ms (F0 m pc ls st0) rest (zQv D cl tysC wc H.size ok w1 a) (va_A wc H.size)) (hS : va_S A s.heap H locs) (hF : ∀ q, va_A wc H.size q → A q) (kk : ∀ (H1 : Heap) (locs1 : List Loc), ok → va_P D cl w1 H1 → va_D A w1 → va_S A s.heap H1 locs1 → H.size ≤ H1.size → W p l e R s m args below meth c H1 locs1 (cells + mc) (slots + ms) Q (F0 m (pc + 3) ls (rest))) : W p l e R s m args below meth c H locs cells slots Q (F0 m pc ls st0) := by
  refine va_callv hr hS (fun q _ h => hF q h) hF (fun u t H1 locs1 ht hvm hw hB hz1 hk1 hS1 => ?_)
  obtain ⟨hP1, hK1, hD1⟩ := hB
  rw [ht] at hP1
  have hok := hw
  exact kk H1 locs1 hok hP1 (hD1.weaken (fun _ q _ h => hF q.1 h)) hS1 hz1
theorem z_xcallv {ok : Prop} {φ : String → Prop} (hr : vx_Run p l e R s m args below meth c H locs cells slots mc ms (F0 m pc ls st0) rest (zQv D cl tysC wc H.size ok w1 a) (zX D cl tysC wc H.size φ) (va_A wc H.size)) (hP : va_P D cl ws H) (hD : va_D A ws) (hS : va_S A s.heap H locs) (hF : ∀ q, va_A wc H.size q → A q) (hsub : ∀ q ∈ wc, q ∈ ws) (isC isR perm : List Nat) (hC : isC.map (fun i => ws[i]?) = wc.map some) {wr : va_W} (hR : isR.map (fun i => ws[i]?) = wr.map some) (hn : va_nd isR = true) (hdis : ∀ i ∈ isR, i ∉ isC) (hp : perm.map (fun i => (wr ++ w1)[i]?) = ws'.map some) (hnp : va_nd perm = true) (kx : ∀ (E : String) (ce : Cell) (q9 : Addr) (H1 : Heap) (locs1 : List Loc), φ E → va_P D cl ws H1 → va_S A s.heap H1 locs1 → H.size ≤ H1.size → H1[q9]? = some ce → ce.vm = .none → s.vm.findClass E = some ce.cls → vx_W p l e R s m args below meth c H1 locs1 (cells + mc) (slots + ms) Q (F0 m pc ls rest) q9) (kk : ∀ (H1 : Heap) (locs1 : List Loc), ok → va_P D cl ws' H1 → va_D A ws' → va_S A s.heap H1 locs1 → H.size ≤ H1.size → W p l e R s m args below meth c H1 locs1 (cells + mc) (slots + ms) Q (F0 m (pc + 3) ls (rest))) : W p l e R s m args below meth c H locs cells slots Q (F0 m pc ls st0) := by
  refine vx_callv hr hS (fun q _ h => hF q h) hF (fun q _ h => hF q h) (fun E ce q9 u t H1 locs1 ht hvm _ hB hz1 hk1 hS1 h7 h8 h9 => ?_) (fun u t H1 locs1 ht hvm hw hB hz1 hk1 hS1 => ?_)
  · obtain ⟨hE, hP1, hK1, hD1⟩ := hB
    rw [ht] at hP1
    exact kx E ce q9 H1 locs1 hE (z_joinR hP hD hsub hk1 hP1) hS1 hz1 h7 h8 h9
  · obtain ⟨hP1, hK1, hD1⟩ := hB
    rw [ht] at hP1
    have hok := hw
    obtain ⟨h1, h2⟩ := z_joinW hP hD isC isR perm hC hR hn hdis hp hnp hk1 hF hP1 hD1
    exact kk H1 locs1 hok h1 h2 hS1 hz1
theorem z_xrcallv {ok : Prop} {φ : String → Prop} (hr : vx_Run p l e R s m args below meth c H locs cells slots mc ms (F0 m pc ls st0) rest (zQv D cl tysC wc H.size ok wc a) (zX D cl tysC wc H.size φ) (va_A wc H.size)) (hP : va_P D cl ws H) (hD : va_D A ws) (hS : va_S A s.heap H locs) (hF : ∀ q, va_A wc H.size q → A q) (hsub : ∀ q ∈ wc, q ∈ ws) (kx : ∀ (E : String) (ce : Cell) (q9 : Addr) (H1 : Heap) (locs1 : List Loc), φ E → va_P D cl ws H1 → va_S A s.heap H1 locs1 → H.size ≤ H1.size → H1[q9]? = some ce → ce.vm = .none → s.vm.findClass E = some ce.cls → vx_W p l e R s m args below meth c H1 locs1 (cells + mc) (slots + ms) Q (F0 m pc ls rest) q9) (kk : ∀ (H1 : Heap) (locs1 : List Loc), ok → va_P D cl ws H1 → va_D A ws → va_S A s.heap H1 locs1 → H.size ≤ H1.size → W p l e R s m args below meth c H1 locs1 (cells + mc) (slots + ms) Q (F0 m (pc + 3) ls (rest))) : W p l e R s m args below meth c H locs cells slots Q (F0 m pc ls st0) := by
  refine vx_callv hr hS (fun q _ h => hF q h) hF (fun q _ h => hF q h) (fun E ce q9 u t H1 locs1 ht hvm _ hB hz1 hk1 hS1 h7 h8 h9 => ?_) (fun u t H1 locs1 ht hvm hw hB hz1 hk1 hS1 => ?_)
  · obtain ⟨hE, hP1, hK1, hD1⟩ := hB
    rw [ht] at hP1
    exact kx E ce q9 H1 locs1 hE (z_joinR hP hD hsub hk1 hP1) hS1 hz1 h7 h8 h9
  · obtain ⟨hP1, hK1, hD1⟩ := hB
    rw [ht] at hP1
    have hok := hw
    exact kk H1 locs1 hok (z_joinR hP hD hsub hk1 hP1) hD hS1 hz1

theorem z_top {a b : Int} (h : a = b) (k : W p l e R s m args below meth c H locs cells slots Q (F0 m pc ls (.int (iI b) :: rest))) : W p l e R s m args below meth c H locs cells slots Q (F0 m pc ls (.int (iI a) :: rest)) := h ▸ k
theorem z_join {g0 g : JFrame} (J : W p l e R s m args below meth c H locs cells slots Q g0) (k : W p l e R s m args below meth c H locs cells slots Q g0 → W p l e R s m args below meth c H locs cells slots Q g) : W p l e R s m args below meth c H locs cells slots Q g := k J
theorem z_topr {x y : Nat} (h : x = y) (k : W p l e R s m args below meth c H locs cells slots Q (F0 m pc ls (.ref y :: rest))) : W p l e R s m args below meth c H locs cells slots Q (F0 m pc ls (.ref x :: rest)) := h ▸ k
theorem z_topl {a b : Int} (h : a = b) (k : W p l e R s m args below meth c H locs cells slots Q (F0 m pc ls (.long (lI b) :: rest))) : W p l e R s m args below meth c H locs cells slots Q (F0 m pc ls (.long (lI a) :: rest)) := h ▸ k
theorem z_nb {r : Int} (h : r = 0 ∨ r = 1) : narrow .boolean (.int (iI r)) = .int (iI r) := by
  rcases h with rfl | rfl <;> rfl
theorem z_fb {r : Int} (h : r = 0 ∨ r = 1) : fits .boolean (.int (iI r)) = true := by
  rcases h with rfl | rfl <;> rfl
variable {cc : ByteArray} {sz : Nat} {ok : Prop} {r : Int}
theorem z_iret (hx : p.tables.exec = Jvm.exec) (hb : c.code = cc) (hr : meth.sig.returnType = some .int) (hlocks : meth.locks = false) (hP : va_P D cl ws' H) (hK : va_K D cl tys s) (hD : va_D (va_A ws sz) ws') (hS : va_S (va_A ws sz) s.heap H locs) (hok : ok) (hdg : decode cc pc = .ok (.ireturn, 1)) : W p l e R s m args below meth c H locs cells slots (MQ below (zQi D cl tys ws sz ok r ws') args s cells slots (va_A ws sz)) (F0 m pc ls [.int (iI r)]) :=
  W.iret hx hb hr (fun t ht hW => ⟨⟨_, (), rfl, ⟨hok, rfl⟩, by rw [ht]; exact hP, va_K.moved hW.alike hK, hD⟩, hS.F ht⟩) hS.2.2 hdg hlocks
theorem z_zret (hx : p.tables.exec = Jvm.exec) (hb : c.code = cc) (hr : meth.sig.returnType = some .boolean) (hlocks : meth.locks = false) (hn : r = 0 ∨ r = 1) (hP : va_P D cl ws' H) (hK : va_K D cl tys s) (hD : va_D (va_A ws sz) ws') (hS : va_S (va_A ws sz) s.heap H locs) (hok : ok) (hdg : decode cc pc = .ok (.ireturn, 1)) : W p l e R s m args below meth c H locs cells slots (MQ below (zQi D cl tys ws sz ok r ws') args s cells slots (va_A ws sz)) (F0 m pc ls [.int (iI r)]) :=
  W.zret hx hb hr (z_nb hn) (fun t ht hW => ⟨⟨_, (), rfl, ⟨hok, rfl⟩, by rw [ht]; exact hP, va_K.moved hW.alike hK, hD⟩, hS.F ht⟩) hS.2.2 hdg hlocks
theorem z_lret (hx : p.tables.exec = Jvm.exec) (hb : c.code = cc) (hr : meth.sig.returnType = some .long) (hlocks : meth.locks = false) (hP : va_P D cl ws' H) (hK : va_K D cl tys s) (hD : va_D (va_A ws sz) ws') (hS : va_S (va_A ws sz) s.heap H locs) (hok : ok) (hdg : decode cc pc = .ok (.lreturn, 1)) : W p l e R s m args below meth c H locs cells slots (MQ below (zQl D cl tys ws sz ok r ws') args s cells slots (va_A ws sz)) (F0 m pc ls [.long (lI r)]) :=
  W.lret hx hb hr (fun t ht hW => ⟨⟨_, (), rfl, ⟨hok, rfl⟩, by rw [ht]; exact hP, va_K.moved hW.alike hK, hD⟩, hS.F ht⟩) hS.2.2 hdg
theorem z_vret (hx : p.tables.exec = Jvm.exec) (hb : c.code = cc) (hr : meth.sig.returnType = none) (hlocks : meth.locks = false) (hP : va_P D cl ws' H) (hK : va_K D cl tys s) (hD : va_D (va_A ws sz) ws') (hS : va_S (va_A ws sz) s.heap H locs) (hok : ok) (hdg : decode cc pc = .ok (.return_, 1)) : W p l e R s m args below meth c H locs cells slots (MQ below (zQv D cl tys ws sz ok ws') args s cells slots (va_A ws sz)) (F0 m pc ls []) :=
  W.vret hx hb hr (fun t ht hW => ⟨⟨(), rfl, hok, by rw [ht]; exact hP, va_K.moved hW.alike hK, hD⟩, hS.F ht⟩) hS.2.2 hdg hlocks
abbrev aQ (cA : ClassId) (n : Nat) (f : Nat → Nat) : va_E := .inl (cA, n, .inr (.inr (.inr (.inr (fun k => some (f k))))))
abbrev aL (cA : ClassId) (n : Nat) (f : Nat → Int) : va_E := .inl (cA, n, .inr (.inl (fun k => lI (f k))))
theorem z_aald {a0 : Nat} (hx : p.tables.exec = Jvm.exec) (hb : c.code = cc) (hK : va_K D cl tys s) (hP : va_P D cl ws H) (q0 t0 : Nat) {cA : ClassId} {C : String} {n : Nat} {f : Nat → Nat} (ha : ws[q0]? = some (a0, aQ cA n f)) (ht : tys[t0]? = some (cA, .object C)) {i : Int} (hi : 0 ≤ i ∧ i < n) (hn : n < 2147483648) (hdg : decode cc pc = .ok (.aaload, 1)) (kk : W p l e R s m args below meth c H locs cells slots Q (F0 m (pc + 1) ls (.ref (f i.toNat) :: rest))) : W p l e R s m args below meth c H locs cells slots Q (F0 m pc ls (.int (iI i) :: .ref a0 :: rest)) := va_aldq hx hb hK hP q0 t0 ha ht (iI_in hi.1 hi.2 hn) hdg (by rw [iI_cl ⟨by omega, by omega⟩]; exact kk)
/-- thrown by a callee, not caught here -/
theorem z_xout {Qc : Array Value → State → Outcome → State → Prop} {φ : String → Prop} {E : String} {ce : Cell} {q : Addr} {mc' ms' : Nat} (hout : ∀ x ∈ c.exceptionTable.toList, False) (hlocks : meth.locks = false) (hcell : H[q]? = some ce) (hv : ce.vm = .none) (hcl : s.vm.findClass E = some ce.cls) (hE : φ E) (hP : va_P D cl ws H) (hK : va_K D cl tys s) (hD : va_D (va_A ws sz) ws) (hS : va_S (va_A ws sz) s.heap H locs) (hc : cells ≤ mc') (hs : slots ≤ ms') : vx_W p l e R s m args below meth c H locs cells slots (vx_MQ below Qc (zX D cl tys ws sz φ) args s mc' ms' (va_A ws sz)) (F0 m pc ls rest) q :=
  vx_out (fun x h => (hout x h).elim) hlocks hcell hv hcl (fun t ht hvm => ⟨(), trivial, ⟨hE, by rw [ht]; exact hP, va_K.moved hvm hK, hD⟩, hS.F ht⟩) hS.2.2 hc hs
/-- what 'throw new E(text)' owes of the world behind it -/
theorem z_xnew {φ : String → Prop} {E : String} (hE : φ E) (hP : va_P D cl ws H) (hK : va_K D cl tys s) (hD : va_D (va_A ws sz) ws) (hS : va_S (va_A ws sz) s.heap H locs) : ∀ t : State, s.vm.Alike t.vm → H.size ≤ t.heap.size → (∀ q : Nat, q < H.size → t.heap[q]? = H[q]?) → zX D cl tys ws sz φ E s t :=
  fun t ha hsz hk => ⟨(), trivial, ⟨hE, hP.kept (fun k q hq => hk q.1 (hP k q hq).lt), va_K.moved ha hK, hD⟩, Nat.le_trans hS.1 hsz, fun q h1 h2 => (hk q (Nat.lt_of_lt_of_le h1 hS.1)).trans (hS.2.1 q h1 h2)⟩
end ZC
