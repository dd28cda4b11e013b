section
-- ===== PART A: goes FIRST, ahead of the names: the tables' words, and 'selects' of the private methods out of them =====
/-- a private method of a class that the tables say can be made, by its rows of tables_1 -/
def lw_okq (q : MethodName × Nat) : Prop := (q.1.cls ≠ "java/lang/invoke/MethodHandle" ∧ q.1.cls ≠ "java/lang/invoke/VarHandle") ∧ Cond.instantiable q.1.cls q.2 ∈ tables_1 ∧ Cond.privateMethod q.1 ∈ tables_1 ∧ Cond.instanceMethod q.1 ∈ tables_1
theorem lw_p0 : lw_okq (⟨"ReliefPasses", "leftAt", "(I)I"⟩, 10) := ⟨⟨by decide +kernel, by decide +kernel⟩, List.mem_of_getElem? (i := 15) (by decide +kernel), List.mem_of_getElem? (i := 116) (by decide +kernel), List.mem_of_getElem? (i := 117) (by decide +kernel)⟩
theorem lw_p1 : lw_okq (⟨"ReliefPasses", "needPlace", "(II)V"⟩, 10) := ⟨⟨by decide +kernel, by decide +kernel⟩, List.mem_of_getElem? (i := 15) (by decide +kernel), List.mem_of_getElem? (i := 144) (by decide +kernel), List.mem_of_getElem? (i := 145) (by decide +kernel)⟩
theorem lw_p2 : lw_okq (⟨"java/lang/Throwable", "fillInStackTrace", "(I)Ljava/lang/Throwable;"⟩, 6) := ⟨⟨by decide +kernel, by decide +kernel⟩, List.mem_of_getElem? (i := 189) (by decide +kernel), List.mem_of_getElem? (i := 187) (by decide +kernel), List.mem_of_getElem? (i := 188) (by decide +kernel)⟩
theorem lw_p3 : lw_okq (⟨"ReliefPasses", "placeAt", "(II)I"⟩, 10) := ⟨⟨by decide +kernel, by decide +kernel⟩, List.mem_of_getElem? (i := 15) (by decide +kernel), List.mem_of_getElem? (i := 238) (by decide +kernel), List.mem_of_getElem? (i := 239) (by decide +kernel)⟩
theorem lw_p4 : lw_okq (⟨"ReliefPasses", "setWanted", "(II)Z"⟩, 10) := ⟨⟨by decide +kernel, by decide +kernel⟩, List.mem_of_getElem? (i := 15) (by decide +kernel), List.mem_of_getElem? (i := 242) (by decide +kernel), List.mem_of_getElem? (i := 243) (by decide +kernel)⟩
theorem lw_p5 : lw_okq (⟨"ReliefPasses$Tool", "depthAtSquare", "(I)I"⟩, 3) := ⟨⟨by decide +kernel, by decide +kernel⟩, List.mem_of_getElem? (i := 33) (by decide +kernel), List.mem_of_getElem? (i := 264) (by decide +kernel), List.mem_of_getElem? (i := 265) (by decide +kernel)⟩
theorem lw_p6 : lw_okq (⟨"ReliefPasses", "greatestWanted", "()I"⟩, 10) := ⟨⟨by decide +kernel, by decide +kernel⟩, List.mem_of_getElem? (i := 15) (by decide +kernel), List.mem_of_getElem? (i := 282) (by decide +kernel), List.mem_of_getElem? (i := 283) (by decide +kernel)⟩
theorem lw_p7 : lw_okq (⟨"ReliefPasses", "liftOver", "(LReliefPasses$Tool;II)I"⟩, 10) := ⟨⟨by decide +kernel, by decide +kernel⟩, List.mem_of_getElem? (i := 15) (by decide +kernel), List.mem_of_getElem? (i := 309) (by decide +kernel), List.mem_of_getElem? (i := 310) (by decide +kernel)⟩
theorem lw_p8 : lw_okq (⟨"ReliefPasses", "findLifts", "(LReliefPasses$Tool;)V"⟩, 10) := ⟨⟨by decide +kernel, by decide +kernel⟩, List.mem_of_getElem? (i := 15) (by decide +kernel), List.mem_of_getElem? (i := 336) (by decide +kernel), List.mem_of_getElem? (i := 337) (by decide +kernel)⟩
theorem lw_p9 : lw_okq (⟨"ReliefPasses", "goAlongLevel", "(LReliefPasses$Tool;III)Z"⟩, 10) := ⟨⟨by decide +kernel, by decide +kernel⟩, List.mem_of_getElem? (i := 15) (by decide +kernel), List.mem_of_getElem? (i := 340) (by decide +kernel), List.mem_of_getElem? (i := 341) (by decide +kernel)⟩
theorem lw_p10 : lw_okq (⟨"ReliefPasses", "carve", "(LReliefPasses$Tool;III)V"⟩, 10) := ⟨⟨by decide +kernel, by decide +kernel⟩, List.mem_of_getElem? (i := 15) (by decide +kernel), List.mem_of_getElem? (i := 351) (by decide +kernel), List.mem_of_getElem? (i := 352) (by decide +kernel)⟩
theorem lw_p11 : lw_okq (⟨"ReliefPasses", "goAlongRow", "(LReliefPasses$Tool;IZ)V"⟩, 10) := ⟨⟨by decide +kernel, by decide +kernel⟩, List.mem_of_getElem? (i := 15) (by decide +kernel), List.mem_of_getElem? (i := 362) (by decide +kernel), List.mem_of_getElem? (i := 363) (by decide +kernel)⟩
theorem lw_p12 : lw_okq (⟨"ReliefPassesModel", "isPlace", "(II)Z"⟩, 18) := ⟨⟨by decide +kernel, by decide +kernel⟩, List.mem_of_getElem? (i := 426) (by decide +kernel), List.mem_of_getElem? (i := 498) (by decide +kernel), List.mem_of_getElem? (i := 499) (by decide +kernel)⟩
theorem lw_p13 : lw_okq (⟨"ReliefPassesModel", "greatest", "()I"⟩, 18) := ⟨⟨by decide +kernel, by decide +kernel⟩, List.mem_of_getElem? (i := 426) (by decide +kernel), List.mem_of_getElem? (i := 513) (by decide +kernel), List.mem_of_getElem? (i := 514) (by decide +kernel)⟩
theorem lw_p14 : lw_okq (⟨"ReliefPassesModel", "profileOf", "(III)I"⟩, 18) := ⟨⟨by decide +kernel, by decide +kernel⟩, List.mem_of_getElem? (i := 426) (by decide +kernel), List.mem_of_getElem? (i := 521) (by decide +kernel), List.mem_of_getElem? (i := 522) (by decide +kernel)⟩
theorem lw_p15 : lw_okq (⟨"ReliefPassesModel", "liftOf", "(III)I"⟩, 18) := ⟨⟨by decide +kernel, by decide +kernel⟩, List.mem_of_getElem? (i := 426) (by decide +kernel), List.mem_of_getElem? (i := 529) (by decide +kernel), List.mem_of_getElem? (i := 530) (by decide +kernel)⟩
def lw_privs_1 : List (MethodName × Nat) := [(⟨"ReliefPasses", "leftAt", "(I)I"⟩, 10), (⟨"ReliefPasses", "needPlace", "(II)V"⟩, 10), (⟨"java/lang/Throwable", "fillInStackTrace", "(I)Ljava/lang/Throwable;"⟩, 6), (⟨"ReliefPasses", "placeAt", "(II)I"⟩, 10), (⟨"ReliefPasses", "setWanted", "(II)Z"⟩, 10), (⟨"ReliefPasses$Tool", "depthAtSquare", "(I)I"⟩, 3), (⟨"ReliefPasses", "greatestWanted", "()I"⟩, 10), (⟨"ReliefPasses", "liftOver", "(LReliefPasses$Tool;II)I"⟩, 10), (⟨"ReliefPasses", "findLifts", "(LReliefPasses$Tool;)V"⟩, 10), (⟨"ReliefPasses", "goAlongLevel", "(LReliefPasses$Tool;III)Z"⟩, 10), (⟨"ReliefPasses", "carve", "(LReliefPasses$Tool;III)V"⟩, 10), (⟨"ReliefPasses", "goAlongRow", "(LReliefPasses$Tool;IZ)V"⟩, 10), (⟨"ReliefPassesModel", "isPlace", "(II)Z"⟩, 18), (⟨"ReliefPassesModel", "greatest", "()I"⟩, 18), (⟨"ReliefPassesModel", "profileOf", "(III)I"⟩, 18), (⟨"ReliefPassesModel", "liftOf", "(III)I"⟩, 18)]
theorem lw_r1 : ∀ q ∈ lw_privs_1, lw_okq q := List.forall_mem_cons.mpr ⟨lw_p0, List.forall_mem_cons.mpr ⟨lw_p1, List.forall_mem_cons.mpr ⟨lw_p2, List.forall_mem_cons.mpr ⟨lw_p3, List.forall_mem_cons.mpr ⟨lw_p4, List.forall_mem_cons.mpr ⟨lw_p5, List.forall_mem_cons.mpr ⟨lw_p6, List.forall_mem_cons.mpr ⟨lw_p7, List.forall_mem_cons.mpr ⟨lw_p8, List.forall_mem_cons.mpr ⟨lw_p9, List.forall_mem_cons.mpr ⟨lw_p10, List.forall_mem_cons.mpr ⟨lw_p11, List.forall_mem_cons.mpr ⟨lw_p12, List.forall_mem_cons.mpr ⟨lw_p13, List.forall_mem_cons.mpr ⟨lw_p14, List.forall_mem_cons.mpr ⟨lw_p15, fun _ h => absurd h List.not_mem_nil⟩⟩⟩⟩⟩⟩⟩⟩⟩⟩⟩⟩⟩⟩⟩⟩
theorem lw_p16 : lw_okq (⟨"ReliefPassesModel", "begin", "()V"⟩, 18) := ⟨⟨by decide +kernel, by decide +kernel⟩, List.mem_of_getElem? (i := 426) (by decide +kernel), List.mem_of_getElem? (i := 537) (by decide +kernel), List.mem_of_getElem? (i := 538) (by decide +kernel)⟩
theorem lw_p17 : lw_okq (⟨"ReliefPassesModel", "noTips", "()V"⟩, 18) := ⟨⟨by decide +kernel, by decide +kernel⟩, List.mem_of_getElem? (i := 426) (by decide +kernel), List.mem_of_getElem? (i := 541) (by decide +kernel), List.mem_of_getElem? (i := 542) (by decide +kernel)⟩
theorem lw_p18 : lw_okq (⟨"ReliefPassesModel", "move", "(III)V"⟩, 18) := ⟨⟨by decide +kernel, by decide +kernel⟩, List.mem_of_getElem? (i := 426) (by decide +kernel), List.mem_of_getElem? (i := 545) (by decide +kernel), List.mem_of_getElem? (i := 546) (by decide +kernel)⟩
theorem lw_p19 : lw_okq (⟨"ReliefPassesModel", "carve", "(I)V"⟩, 18) := ⟨⟨by decide +kernel, by decide +kernel⟩, List.mem_of_getElem? (i := 426) (by decide +kernel), List.mem_of_getElem? (i := 552) (by decide +kernel), List.mem_of_getElem? (i := 553) (by decide +kernel)⟩
theorem lw_p20 : lw_okq (⟨"ReliefPassesModel", "leftAt", "(I)I"⟩, 18) := ⟨⟨by decide +kernel, by decide +kernel⟩, List.mem_of_getElem? (i := 426) (by decide +kernel), List.mem_of_getElem? (i := 568) (by decide +kernel), List.mem_of_getElem? (i := 569) (by decide +kernel)⟩
def lw_privs_2 : List (MethodName × Nat) := [(⟨"ReliefPassesModel", "begin", "()V"⟩, 18), (⟨"ReliefPassesModel", "noTips", "()V"⟩, 18), (⟨"ReliefPassesModel", "move", "(III)V"⟩, 18), (⟨"ReliefPassesModel", "carve", "(I)V"⟩, 18), (⟨"ReliefPassesModel", "leftAt", "(I)I"⟩, 18)]
theorem lw_r2 : ∀ q ∈ lw_privs_2, lw_okq q := List.forall_mem_cons.mpr ⟨lw_p16, List.forall_mem_cons.mpr ⟨lw_p17, List.forall_mem_cons.mpr ⟨lw_p18, List.forall_mem_cons.mpr ⟨lw_p19, List.forall_mem_cons.mpr ⟨lw_p20, fun _ h => absurd h List.not_mem_nil⟩⟩⟩⟩⟩
def lw_privs : List (MethodName × Nat) := lw_privs_1 ++ (lw_privs_2)
def lw_tbl : List Cond := k2_sels lw_privs ++ tables_1
theorem lw_privs_ok : ∀ q ∈ lw_privs, lw_okq q := by
  show ∀ q ∈ lw_privs_1 ++ (lw_privs_2), lw_okq q
  exact List.forall_mem_append.mpr ⟨lw_r1, lw_r2⟩
/-! ===== BEGIN words of one list among another's, by their places ===== -/
theorem goodIn_r {big : List Cond} (ws : List Cond) (ps : List Nat) (hp : ws = ps.filterMap (fun i => big[i]?)) (h : ws.all goodWord = true) : GoodIn big ws := by
  intro w hw
  have h1 := List.all_eq_true.mp h w hw
  rw [hp] at hw
  obtain ⟨i, -, hi⟩ := List.mem_filterMap.mp hw
  have hm : w ∈ big := by first | exact List.mem_of_getElem? hi | exact List.getElem?_mem hi
  exact ⟨hm, good_of_word h1⟩
theorem goodIn_app {big a b : List Cond} (ha : GoodIn big a) (hb : GoodIn big b) : GoodIn big (a ++ b) := fun w h => (List.mem_append.mp h).elim (ha w) (hb w)
theorem goodIn_ca {big a b : List Cond} {c : Cond} (ha : GoodIn big (c :: a)) (hb : GoodIn big b) : GoodIn big (c :: (a ++ b)) := fun w h => (List.mem_cons.mp h).elim (fun e => ha w (List.mem_cons.mpr (Or.inl e))) (fun h => (List.mem_append.mp h).elim (fun h => ha w (List.mem_cons.mpr (Or.inr h))) (hb w))
theorem goodIn_sub {big ws : List Cond} (hm : ∀ w ∈ ws, w ∈ big) (h : ws.all goodWord = true) : GoodIn big ws := fun w hw => ⟨hm w hw, good_of_word (List.all_eq_true.mp h w hw)⟩
/-! ===== END ===== -/

/-! ===== BEGIN exceptions that leave a method, and their catching by the caller (launches without stack traces) ===== -/
section VXA
/-! The laws vx_back, vx_callV, vx_callS, vx_callSW, vx_throw0, vx_throwS follow proofs of the library, with one case more: JvmDerived/Free/Laws.lean (Back.of_free), Shelf42/LK1.lean (callV, callS), Shelf/KitTraced.lean (throwNew0V, throwNewS). -/
/-- where a method has thrown q: the class by its name, the cell, what was written, the world -/
def vx_T (XC : String → State → State → Prop) (st : State) (q : Addr) (t : State) (mc ms : Nat) (free : Addr → Prop) : Prop :=
  ∃ (E : String) (ce : Cell) (L : List Loc), XC E st t ∧ t.heap[q]? = some ce ∧ ce.vm = .none ∧ st.vm.findClass E = some ce.cls ∧ st.WarmedH t.vm ∧ st.sameButNew ({ t with vm := st.vm } : State) L mc ms ∧ ∀ z ∈ L, free z.base
def vx_Q (Qc : Array Value → State → Outcome → State → Prop) (XC : String → State → State → Prop) (mc ms : Nat) (free : Addr → Prop) : Array Value → State → Outcome → State → Prop := fun a st o t =>
  (Qc a st o t ∧ ∃ L, FrameEnd st o t L mc ms ∧ ∀ q ∈ L, free q.base) ∨ ∃ q, o = .threw q ∧ vx_T XC st q t mc ms free
/-- a callee that returns or throws -/
def vx_Met (l : Launch) (y : MethodName) (ws : List Cond) (rm : Room) (Pc : Array Value → State → Prop) (Qc : Array Value → State → Outcome → State → Prop) (XC : String → State → State → Prop) (mc ms : Nat) (free : Addr → Prop) : Prop :=
  MetFree l y (headSpec ws rm) Pc (fun _ _ _ _ _ => True) (vx_Q Qc XC mc ms free)
def vx_Post (XC : String → State → State → Prop) (mc ms : Nat) (free : Addr → Prop) : Pt → Array Value → Addr → Pt → Prop := fun A a q B =>
  ∃ (g : JFrame) (mk : MethodId) (t : State) (L : List Loc) (E : String) (ce : Cell), B.U.heap = t.heap ∧ B.U.vm = t.vm ∧ XC E (A.U.calling g mk a) t ∧ t.heap[q]? = some ce ∧ ce.vm = .none ∧ A.U.vm.findClass E = some ce.cls ∧ B.locs = A.locs ++ L ∧ (∀ z ∈ L, free z.base) ∧ B.cells = A.cells + mc ∧ B.slots = A.slots + ms
def vx_Back (l : Launch) (R : Room) (p : Program) (e : Env) (below : List Frame) (s : State) (sargs : Array Value) (y : MethodName) (len W9 : Nat)
    (Pre : Pt → Array Value → Prop) (Post : Pt → Array Value → Option Value → Pt → Prop) (PostX : Pt → Array Value → Addr → Pt → Prop) : Prop :=
  ∀ (m : MethodId) (meth : Method) (c : Code) (A : Pt) (g : JFrame) (ig : Instr) (mk : MethodId) (a : Array Value),
    Stand p l e R s m sargs below meth c A.U A.locs A.cells A.slots → g.method = m → g.locals.size = c.maxLocals → decode c.code g.pc = .ok (ig, len) →
    2 * g.monitorRoom + (g.stack.map fun v => v.category).sum ≤ W9 → A.U.methodNamed? y = some mk → Pre A a →
    (∃ (v : Option Value) (B : Pt), Stand p l e R s m sargs below meth c B.U B.locs B.cells B.slots ∧ Post A a v B ∧
      Steps p.tables e below (doInvoke e (A.U.setTop g) [] mk a).1 (B.U.setTop { g with pc := g.pc + len, stack := v.toList ++ g.stack })) ∨
    (∃ (q : Addr) (B : Pt), Stand p l e R s m sargs below meth c B.U B.locs B.cells B.slots ∧ PostX A a q B ∧
      Steps p.tables e below (doInvoke e (A.U.setTop g) [] mk a).1 ((B.U.setTop g).pushFrame (.throwing q)))
section Payer
variable {l : Launch} {R : Room} {p : Program} {e : Env} {below : List Frame} {s : State} {sargs : Array Value} {y : MethodName} {len W9 : Nat}
theorem vx_back {ws : List Cond} {rm : Room} {Pc : Array Value → State → Prop} {Qc : Array Value → State → Outcome → State → Prop} {XC : String → State → State → Prop} {mc ms : Nat} {free : Addr → Prop} {bytes : ByteArray} {maxL : Nat} {ret : Option FieldType}
    (hM : vx_Met l y ws rm Pc Qc XC mc ms free) (hblind : FrameBlind Pc) (hrc : rm.cells = mc) (hrs : rm.slots = ms)
    (hframes : rm.frames + 1 ≤ R.frames) (hlocals : W9 + (maxL + 11) + rm.locals ≤ R.locals)
    (hws : ∀ w ∈ ws, ∀ a' U, s.WarmedH U.vm → w.before a' U = true) (hcode : Cond.code y bytes maxL ret ∈ ws) (hinit : ∀ a' U, s.WarmedH U.vm → (Cond.initialized y.cls).before a' U = true) :
    vx_Back l R p e below s sargs y len W9 (PreOf R mc ms Pc) (PostOf Qc mc ms free) (vx_Post XC mc ms free) := by
  intro m meth c A g ig mk a X hg hsize hdg hW hn hp
  have h1 : (headSpec ws rm).pre.before a A.U = true := atoms_intro fun w hw => hws w hw _ _ X.warmed
  have h2 : (Cond.code y bytes maxL ret).before a A.U = true := hws _ hcode _ _ X.warmed
  have h3 : (Cond.initialized y.cls).before a A.U = true := hinit _ _ X.warmed
  have h4 : A.cells + (headSpec ws rm).room.cells ≤ R.cells := by rw [show (headSpec ws rm).room.cells = mc from hrc]; exact hp.1
  have h5 : A.slots + (headSpec ws rm).room.slots ≤ R.slots := by rw [show (headSpec ws rm).room.slots = ms from hrs]; exact hp.2.1
  have hPc : Pc a (A.U.calling g mk a) := hblind _ _ _ _ hp.2.2
  obtain ⟨U, Ls, c0, s0⟩ := A
  dsimp only [Pt.U, Pt.locs, Pt.cells, Pt.slots] at h1 h2 h3 h4 h5 X hn hPc ⊢
  obtain ⟨methY, cY, hmY, hcY, -, hlY, -, -, -, -⟩ := Cond.code_spec hn h2
  obtain ⟨kY, hkY, -⟩ := className_of_methodNamed hn
  have hinitY : kY.init = .initialized := Cond.initialized_spec (findClass_of_methodNamed hn) hkY h3
  have h : At U g.method c below := by rw [hg]; exact X.here
  have hlocals9 : W9 + (maxL + 11) + (headSpec ws rm).room.locals ≤ R.locals := hlocals
  have happ : (headSpec ws rm).appliesLoose y e.platform (U.calling g mk a) = true :=
    Spec.appliesLoose_calling (g := g) h hdg hn hkY hinitY
      (X.room_calling (g := g) (R' := (headSpec ws rm).room) hsize hmY hcY hframes (by rw [hlY]; omega) h4 h5) h1
  obtain ⟨mid, hmid⟩ := h.above
  have hfr : (U.setTop g).frames = (.java g :: mid) ++ below := by rw [State.frames_setTop' g h.top, hmid]; rfl
  obtain ⟨o, s₂, hsteps, -, hend, hq⟩ := Steps.callFree hM p X.admits X.cas X.clock (acts := []) hfr happ hPc trivial
  have hq' : vx_Q Qc XC mc ms free a (U.calling g mk a) o s₂ := hq
  rw [State.frames_setTop' g h.top] at hend
  obtain ⟨g₀, hg0⟩ := Option.isSome_iff_exists.mp h.top
  obtain ⟨r, hr⟩ := State.topJava?_eq_some.mp hg0
  have hr' : (({ U with heap := s₂.heap, slotsUsed := s₂.slotsUsed } : State).setVm s₂.vm).frames = .java g₀ :: r := hr
  rcases hq' with ⟨hqc, L, hfe, hL⟩ | ⟨q, rfl, E, ce, L, hx, hce, hcv, hcl, hW₂, hsm, hL⟩
  · obtain ⟨⟨v, rfl⟩, hW₂, e2, q2, q3, q4, q5, q6⟩ := id hfe
    have e3 : s₂ = ({ (U.calling g mk a).setFrames s₂.frames with heap := s₂.heap, slotsUsed := s₂.slotsUsed } : State).setVm s₂.vm := by
      have : s₂ = ({ s₂ with vm := (U.calling g mk a).vm } : State).setVm s₂.vm := rfl
      rw [e2] at this
      exact this
    obtain ⟨c₂, i₂, len₂, hc₂, hd₂, hf₂⟩ := hend
    have hW' : U.WarmedH s₂.vm := hW₂
    have hcc : c₂ = c := by
      have h1 : s₂.code? g.method = U.code? g.method := by
        rw [State.code?_eq, State.code?_eq, hW'.alike.method?]
      exact Option.some.inj (hc₂.symm.trans (h1.trans h.code))
    subst hcc
    have hlen : len₂ = len := by rw [hdg] at hd₂; cases hd₂; rfl
    subst hlen
    have hs₂ : s₂ = (({ U with heap := s₂.heap, slotsUsed := s₂.slotsUsed } : State).setVm s₂.vm).setTop { g with pc := g.pc + len₂, stack := v.toList ++ g.stack } := by
      refine e3.trans ?_
      rw [hf₂, State.calling_eq h.top, State.setFrames_setFrames, State.setTop_of_frames _ hr', hr]
      rfl
    have hsame : U.sameButNew ({ U with heap := s₂.heap, slotsUsed := s₂.slotsUsed } : State) L mc ms := by
      refine ⟨?_, q2, q3, q4, q5, q6⟩
      obtain ⟨t, ht, -⟩ := State.frames_cons hr
      show ({ U with heap := s₂.heap, slotsUsed := s₂.slotsUsed } : State) = { U.setFrames U.frames with heap := s₂.heap, slotsUsed := s₂.slotsUsed }
      rw [State.setFrames_self ht]
    subst hg
    refine Or.inl ⟨v, ⟨(({ U with heap := s₂.heap, slotsUsed := s₂.slotsUsed } : State).setVm s₂.vm), Ls ++ L, c0 + mc, s0 + ms⟩,
      ⟨X.admits, X.cas, X.clock, X.frames, X.room, X.hears, X.method, X.code, (X.here.setHeapUsed s₂.heap s₂.slotsUsed).setVm hW'.alike, X.tail, State.WarmedH.trans X.warmed hW', X.limits, X.bytes, X.same.trans (hsame.setVm s.vm)⟩,
      ⟨g, mk, s₂, L, rfl, rfl, hqc, rfl, hL, rfl, rfl⟩, ?_⟩
    show Steps p.tables e below _ ((({ U with heap := s₂.heap, slotsUsed := s₂.slotsUsed } : State).setVm s₂.vm).setTop { g with pc := g.pc + len₂, stack := v.toList ++ g.stack })
    rw [← hs₂]
    exact hsteps
  · obtain ⟨e2, q2, q3, q4, q5, q6⟩ := id hsm
    have e3 : s₂ = ({ (U.calling g mk a).setFrames s₂.frames with heap := s₂.heap, slotsUsed := s₂.slotsUsed } : State).setVm s₂.vm := by
      have : s₂ = ({ s₂ with vm := (U.calling g mk a).vm } : State).setVm s₂.vm := rfl
      rw [e2] at this
      exact this
    have hf₂ : s₂.frames = .throwing q :: .java g :: U.frames.tail := hend
    have hW' : U.WarmedH s₂.vm := hW₂
    have hs₂ : s₂ = ((({ U with heap := s₂.heap, slotsUsed := s₂.slotsUsed } : State).setVm s₂.vm).setTop g).pushFrame (.throwing q) := by
      refine e3.trans ?_
      rw [hf₂, State.calling_eq h.top, State.setFrames_setFrames, State.pushFrame, State.frames_setTop _ hr', State.setTop_of_frames _ hr', State.setFrames_setFrames, hr]
      rfl
    have hsame : U.sameButNew ({ U with heap := s₂.heap, slotsUsed := s₂.slotsUsed } : State) L mc ms := by
      refine ⟨?_, q2, q3, q4, q5, q6⟩
      obtain ⟨t, ht, -⟩ := State.frames_cons hr
      show ({ U with heap := s₂.heap, slotsUsed := s₂.slotsUsed } : State) = { U.setFrames U.frames with heap := s₂.heap, slotsUsed := s₂.slotsUsed }
      rw [State.setFrames_self ht]
    subst hg
    refine Or.inr ⟨q, ⟨(({ U with heap := s₂.heap, slotsUsed := s₂.slotsUsed } : State).setVm s₂.vm), Ls ++ L, c0 + mc, s0 + ms⟩,
      ⟨X.admits, X.cas, X.clock, X.frames, X.room, X.hears, X.method, X.code, (X.here.setHeapUsed s₂.heap s₂.slotsUsed).setVm hW'.alike, X.tail, State.WarmedH.trans X.warmed hW', X.limits, X.bytes, X.same.trans (hsame.setVm s.vm)⟩,
      ⟨g, mk, s₂, L, E, ce, rfl, rfl, hx, hce, hcv, hcl, rfl, hL, rfl, rfl⟩, ?_⟩
    show Steps p.tables e below _ (((({ U with heap := s₂.heap, slotsUsed := s₂.slotsUsed } : State).setVm s₂.vm).setTop g).pushFrame (.throwing q))
    rw [← hs₂]
    exact hsteps
end Payer
section Calls
variable {p : Program} {l : Launch} {e : Env} {R : Room} {s : State} {m : MethodId} {args : Array Value} {below : List Frame} {meth : Method} {c : Code} {T : State} {locs : List Loc} {cells slots : Nat}
theorem vx_callV (X : Stand p l e R s m args below meth c T locs cells slots) (hexec : p.tables.exec = Jvm.exec) {own C : String} {index : Nat} {y : MethodName} {bytes : ByteArray} {maxL : Nat} {ret : Option FieldType}
    (hown : s.vm.findClass own = some m.cls) (hlink : (Cond.methodLink own index y).before args s = true) (hinst : (Cond.instanceMethod y).before args s = true) (hsel : (Cond.selects C y y).before args s = true)
    (hcode : (Cond.code y bytes maxL ret).before args s = true) (hy : y.cls ≠ "java/lang/invoke/MethodHandle" ∧ y.cls ≠ "java/lang/invoke/VarHandle")
    {W9 : Nat} {Pre : Pt → Array Value → Prop} {Post : Pt → Array Value → Option Value → Pt → Prop} {PostX : Pt → Array Value → Addr → Pt → Prop} (hK : vx_Back l R p e below s args y 3 W9 Pre Post PostX)
    {b : Addr} {cellB : Cell} (hcell : T.heap[b]? = some cellB) (hobj : cellB.vm.isStatics = false) (hcls : s.vm.findClass C = some cellB.cls)
    {g : JFrame} (hg : g.method = m) (hsize : g.locals.size = c.maxLocals) {argsL rest : List Value} (hlen : ∀ sig, parseMethodDescriptor y.desc = some sig → argsL.length = sig.parameters.length)
    (hstack : g.stack = argsL.reverse ++ .ref b :: rest) (hW : 2 * g.monitorRoom + (rest.map fun v => v.category).sum ≤ W9) (hdg : decode c.code g.pc = .ok (.invokevirtual index, 3))
    (hpre : ∀ vm₁, s.WarmedH vm₁ → Pre ⟨T.setVm vm₁, locs, cells, slots⟩ (Value.ref b :: argsL).toArray) :
    (∃ (v : Option Value) (vm₁ : Vm) (B : Pt), s.WarmedH vm₁ ∧ Stand p l e R s m args below meth c B.U B.locs B.cells B.slots ∧ Post ⟨T.setVm vm₁, locs, cells, slots⟩ (Value.ref b :: argsL).toArray v B ∧
      ∀ target, Steps p.tables e below (B.U.setTop { g with pc := g.pc + 3, stack := v.toList ++ rest }) target → Steps p.tables e below (T.setTop g) target) ∨
    (∃ (q : Addr) (vm₁ : Vm) (B : Pt), s.WarmedH vm₁ ∧ Stand p l e R s m args below meth c B.U B.locs B.cells B.slots ∧ PostX ⟨T.setVm vm₁, locs, cells, slots⟩ (Value.ref b :: argsL).toArray q B ∧
      Steps p.tables e below (T.setTop g) ((B.U.setTop { g with stack := rest }).pushFrame (.throwing q))) := by
  obtain ⟨mk, methM, hnamed, hmethM, hstM, habM⟩ := Cond.instanceMethod_spec hinst
  obtain ⟨methM', cM, hmethM', -, -, -, -, -, -, hsigM⟩ := Cond.code_spec hnamed hcode
  cases hmethM.symm.trans hmethM'
  obtain ⟨c2, r2, m2, q1, q2, q3, q4, kP, hkP, hkPi⟩ := Cond.selects_spec hsel
  cases hcls.symm.trans q1
  cases (State.methodFound?_of_named hnamed hy).symm.trans q2
  cases hnamed.symm.trans q3
  have hselP : selectMethod e.platform s.vm cellB.cls mk = .method mk := by rw [Launch.admits_selectMethod X.admits]; exact q4
  obtain ⟨vm₁, X₁, hstep₁⟩ := X.invokevirtual hexec hown hlink hnamed hmethM hstM hkP hkPi hy (a := b) (cell := cellB) hcell
    (fun z h => by rw [h] at hobj; cases hobj) hselP hmethM habM hkP hkPi (g := g) hg (argsL := argsL) (rest := rest) (hlen _ hsigM) hstack hdg
  rcases hK m meth c ⟨T.setVm vm₁, locs, cells, slots⟩ { g with stack := rest } (.invokevirtual index) mk (Value.ref b :: argsL).toArray X₁ hg hsize hdg hW (X₁.named hnamed) (hpre vm₁ X₁.warmed) with ⟨v, B, X', hpost, hsteps⟩ | ⟨q, B, X', hpost, hsteps⟩
  · exact Or.inl ⟨v, vm₁, B, X₁.warmed, X', hpost, fun target h => hstep₁ _ fun acts => by rw [doInvoke_state]; exact hsteps.trans h⟩
  · exact Or.inr ⟨q, vm₁, B, X₁.warmed, X', hpost, hstep₁ _ fun acts => by rw [doInvoke_state]; exact hsteps⟩
theorem vx_callS (X : Stand p l e R s m args below meth c T locs cells slots) (hexec : p.tables.exec = Jvm.exec) {own : String} {index : Nat} {y : MethodName} {bytes : ByteArray} {maxL : Nat} {ret : Option FieldType}
    (hown : s.vm.findClass own = some m.cls) (hlink : (Cond.methodLink own index y).before args s = true) (hstat : (Cond.static y).before args s = true) (hinit : (Cond.initialized y.cls).before args s = true)
    (hcode : (Cond.code y bytes maxL ret).before args s = true) (hy : y.cls ≠ "java/lang/invoke/MethodHandle" ∧ y.cls ≠ "java/lang/invoke/VarHandle")
    {W9 : Nat} {Pre : Pt → Array Value → Prop} {Post : Pt → Array Value → Option Value → Pt → Prop} {PostX : Pt → Array Value → Addr → Pt → Prop} (hK : vx_Back l R p e below s args y 3 W9 Pre Post PostX)
    {g : JFrame} (hg : g.method = m) (hsize : g.locals.size = c.maxLocals) {argsL rest : List Value} (hlen : ∀ sig, parseMethodDescriptor y.desc = some sig → argsL.length = sig.parameters.length)
    (hstack : g.stack = argsL.reverse ++ rest) (hW : 2 * g.monitorRoom + (rest.map fun v => v.category).sum ≤ W9) (hdg : decode c.code g.pc = .ok (.invokestatic index, 3))
    (hpre : ∀ vm₁, s.WarmedH vm₁ → Pre ⟨T.setVm vm₁, locs, cells, slots⟩ argsL.toArray) :
    (∃ (v : Option Value) (vm₁ : Vm) (B : Pt), s.WarmedH vm₁ ∧ Stand p l e R s m args below meth c B.U B.locs B.cells B.slots ∧ Post ⟨T.setVm vm₁, locs, cells, slots⟩ argsL.toArray v B ∧
      ∀ target, Steps p.tables e below (B.U.setTop { g with pc := g.pc + 3, stack := v.toList ++ rest }) target → Steps p.tables e below (T.setTop g) target) ∨
    (∃ (q : Addr) (vm₁ : Vm) (B : Pt), s.WarmedH vm₁ ∧ Stand p l e R s m args below meth c B.U B.locs B.cells B.slots ∧ PostX ⟨T.setVm vm₁, locs, cells, slots⟩ argsL.toArray q B ∧
      Steps p.tables e below (T.setTop g) ((B.U.setTop { g with stack := rest }).pushFrame (.throwing q))) := by
  obtain ⟨mk, hnamed⟩ := Cond.code_named hcode
  obtain ⟨methM, cM, hmethM, -, -, -, -, -, -, hsigM⟩ := Cond.code_spec hnamed hcode
  have hstatic : methM.isStatic = true := Cond.static_spec hnamed hmethM hstat
  obtain ⟨kP, hkP, -⟩ := className_of_methodNamed hnamed
  have hinitP : kP.init = .initialized := Cond.initialized_spec (findClass_of_methodNamed hnamed) hkP hinit
  obtain ⟨vm₁, X₁, hstep₁⟩ := X.invokestatic hexec hown hlink hnamed hmethM hstatic hkP hinitP hy (g := g) hg (argsL := argsL) (rest := rest) (hlen _ hsigM) hstack hdg
  rcases hK m meth c ⟨T.setVm vm₁, locs, cells, slots⟩ { g with stack := rest } (.invokestatic index) mk argsL.toArray X₁ hg hsize hdg hW (X₁.named hnamed) (hpre vm₁ X₁.warmed) with ⟨v, B, X', hpost, hsteps⟩ | ⟨q, B, X', hpost, hsteps⟩
  · exact Or.inl ⟨v, vm₁, B, X₁.warmed, X', hpost, fun target h => hstep₁ _ fun acts => by rw [doInvoke_state]; exact hsteps.trans h⟩
  · exact Or.inr ⟨q, vm₁, B, X₁.warmed, X', hpost, hstep₁ _ fun acts => by rw [doInvoke_state]; exact hsteps⟩
end Calls
theorem vx_cls {s : State} {T : State} {vm₁ : Vm} {E : String} {k : ClassId} (hW : s.WarmedH vm₁) (h : (T.setVm vm₁).vm.findClass E = some k) : s.vm.findClass E = some k := by
  have h1 : vm₁.findClass E = some k := h
  rw [hW.alike.findClass] at h1
  exact h1
/-- the method's frame g, with q thrown over it -/
def vx_W (p : Program) (l : Launch) (e : Env) (R : Room) (s : State) (m : MethodId) (args : Array Value) (below : List Frame) (meth : Method) (c : Code) (H : Heap) (locs : List Loc) (cells slots : Nat) (Q : State → Prop) (g : JFrame) (q : Addr) : Prop :=
  ∀ T : State, T.heap = H → Stand p l e R s m args below meth c T locs cells slots → ∃ t, Steps p.tables e below ((T.setTop g).pushFrame (.throwing q)) t ∧ Q t
def vx_Run (p : Program) (l : Launch) (e : Env) (R : Room) (s : State) (m : MethodId) (args : Array Value) (below : List Frame) (meth : Method) (c : Code) (H : Heap) (locs : List Loc) (cells slots mc ms : Nat) (g : JFrame) (rest : List Value) (Qa : State → Outcome → State → Prop) (XC : String → State → State → Prop) (free : Addr → Prop) : Prop :=
  ∀ T : State, T.heap = H → Stand p l e R s m args below meth c T locs cells slots →
    (∃ (v : Option Value) (st₀ t T' : State) (L : List Loc), st₀.heap = H ∧ Stand p l e R s m args below meth c T' (locs ++ L) (cells + mc) (slots + ms) ∧ (∀ q ∈ L, free q.base) ∧ T'.heap = t.heap ∧ T'.vm = t.vm ∧ Qa st₀ (.returned v) t ∧
      Goes p e below T g T' { g with pc := g.pc + 3, stack := v.toList ++ rest }) ∨
    (∃ (q : Addr) (st₀ t T' : State) (L : List Loc) (E : String) (ce : Cell), st₀.heap = H ∧ Stand p l e R s m args below meth c T' (locs ++ L) (cells + mc) (slots + ms) ∧ (∀ z ∈ L, free z.base) ∧ T'.heap = t.heap ∧ T'.vm = t.vm ∧ XC E st₀ t ∧ t.heap[q]? = some ce ∧ ce.vm = .none ∧ s.vm.findClass E = some ce.cls ∧
      Steps p.tables e below (T.setTop g) ((T'.setTop { g with stack := rest }).pushFrame (.throwing q)))
def vx_X {S : Type} (px : S → Prop) (B : String → S → State → Prop) (A : Nat → Prop) : String → State → State → Prop := fun E st t => ∃ u : S, px u ∧ B E u t ∧ va_F A st t
section Runs
variable {p : Program} {l : Launch} {e : Env} {R : Room} {s : State} {m : MethodId} {args : Array Value} {below : List Frame} {meth : Method} {c : Code} {H : Heap} {locs : List Loc} {cells slots : Nat}
variable {y : MethodName} {bytes cc : ByteArray} {maxL nL mc ms n index : Nat} {ret : Option FieldType} {ws : List Cond} {rm : Room} {Pc : Array Value → State → Prop} {Qc : Array Value → State → Outcome → State → Prop} {XC : String → State → State → Prop} {free : Addr → Prop} {Ts : List Cond} {own C : String} {b : Addr} {As rest : List Value} {g : JFrame}
theorem vx_callBack (cb : CallB R s args own index y bytes maxL ret ws rm mc ms n) (hM : vx_Met l y ws rm Pc Qc XC mc ms free) (hbl : FrameBlind Pc) : vx_Back l R p e below s args y 3 8 (PreOf R mc ms Pc) (PostOf Qc mc ms free) (vx_Post XC mc ms free) := by
  obtain ⟨hrc, hrs, hfr, hlo, hws, hcw, -, hini, -⟩ := cb
  exact vx_back (bytes := bytes) (maxL := maxL) (ret := ret) hM hbl hrc hrs hfr hlo hws hcw (fun a' U hW => word_at hW (Or.inl (by first | rfl | simp [Cond.onTables, Cond.keeps, Cond.steady])) hini)
theorem vx_runV (S : CallFix p m c cc nL s args Ts own) (hM : vx_Met l y ws rm Pc Qc XC mc ms free) (cw : CallW R s args own C index y bytes maxL ret ws rm mc ms n) (hp : PreV s H C b Pc As)
    (hg : g.method = m) (hn : As.length = n) (hsize : g.locals.size = nL) (hstack : g.stack = As.reverse ++ .ref b :: rest) (hW : 2 * g.monitorRoom + (rest.map fun v => v.category).sum ≤ 8) (hdg : decode cc g.pc = .ok (.invokevirtual index, 3)) (hf : cells + mc ≤ R.cells ∧ slots + ms ≤ R.slots) :
    vx_Run p l e R s m args below meth c H locs cells slots mc ms g rest (Qc (Value.ref b :: As).toArray) XC free := by
  have hK : vx_Back l R p e below s args y 3 8 (PreOf R mc ms Pc) (PostOf Qc mc ms free) (vx_Post XC mc ms free) := vx_callBack cw.1 hM hp.1
  obtain ⟨⟨-, -, -, -, -, -, hcode, -, hy, hlen, hl⟩, hin, hse⟩ := cw
  obtain ⟨hx, hb, hml, ho, -⟩ := S
  obtain ⟨-, ⟨cellB, hcB, hoB, hclB⟩, hPc⟩ := hp
  intro T hT X
  rcases vx_callV X hx (C := C) (bytes := bytes) (maxL := maxL) (ret := ret) ho hl hin hse hcode hy hK (by rw [hT]; exact hcB) hoB hclB hg (hsize.trans hml.symm) (argsL := As) (rest := rest) (fun sig h => hn.trans (hlen sig h)) hstack hW (by rw [hb]; exact hdg)
    (fun vm₁ hW₁ => ⟨hf.1, hf.2, hPc (T.setVm vm₁) hT hW₁⟩) with ⟨v, vm₁, ⟨U', l2, c2, s2⟩, hW₁, X', ⟨g', mk, t, L, e1, e2, hq, h1, hL, h2, h3⟩, st⟩ | ⟨q, vm₁, ⟨U', l2, c2, s2⟩, hW₁, X', ⟨g', mk, t, L, E, ce, e1, e2, hq, hce, hcv, hcl, h1, hL, h2, h3⟩, st⟩
  · dsimp only [Pt.U, Pt.locs, Pt.cells, Pt.slots] at X' e1 e2 h1 h2 h3 st
    subst h1; subst h2; subst h3
    exact Or.inl ⟨v, (T.setVm vm₁).calling g' mk (Value.ref b :: As).toArray, t, U', L, hT, X', hL, e1, e2, hq, st⟩
  · dsimp only [Pt.U, Pt.locs, Pt.cells, Pt.slots] at X' e1 e2 h1 h2 h3 st hcl
    subst h1; subst h2; subst h3
    exact Or.inr ⟨q, (T.setVm vm₁).calling g' mk (Value.ref b :: As).toArray, t, U', L, E, ce, hT, X', hL, e1, e2, hq, hce, hcv, vx_cls hW₁ hcl, st⟩
theorem vx_runS (S : CallFix p m c cc nL s args Ts own) (hM : vx_Met l y ws rm Pc Qc XC mc ms free) (cw : CallB R s args own index y bytes maxL ret ws rm mc ms n ∧ (Cond.static y).before args s = true) (hp : PreS s H Pc As)
    (hg : g.method = m) (hn : As.length = n) (hsize : g.locals.size = nL) (hstack : g.stack = As.reverse ++ rest) (hW : 2 * g.monitorRoom + (rest.map fun v => v.category).sum ≤ 8) (hdg : decode cc g.pc = .ok (.invokestatic index, 3)) (hf : cells + mc ≤ R.cells ∧ slots + ms ≤ R.slots) :
    vx_Run p l e R s m args below meth c H locs cells slots mc ms g rest (Qc As.toArray) XC free := by
  have hK : vx_Back l R p e below s args y 3 8 (PreOf R mc ms Pc) (PostOf Qc mc ms free) (vx_Post XC mc ms free) := vx_callBack cw.1 hM hp.1
  obtain ⟨⟨-, -, -, -, -, -, hcode, hini, hy, hlen, hl⟩, hstt⟩ := cw
  obtain ⟨hx, hb, hml, ho, -⟩ := S
  intro T hT X
  rcases vx_callS X hx (bytes := bytes) (maxL := maxL) (ret := ret) ho hl hstt hini hcode hy hK hg (hsize.trans hml.symm) (argsL := As) (rest := rest) (fun sig h => hn.trans (hlen sig h)) hstack hW (by rw [hb]; exact hdg)
    (fun vm₁ hW₁ => ⟨hf.1, hf.2, hp.2 (T.setVm vm₁) hT hW₁⟩) with ⟨v, vm₁, ⟨U', l2, c2, s2⟩, hW₁, X', ⟨g', mk, t, L, e1, e2, hq, h1, hL, h2, h3⟩, st⟩ | ⟨q, vm₁, ⟨U', l2, c2, s2⟩, hW₁, X', ⟨g', mk, t, L, E, ce, e1, e2, hq, hce, hcv, hcl, h1, hL, h2, h3⟩, st⟩
  · dsimp only [Pt.U, Pt.locs, Pt.cells, Pt.slots] at X' e1 e2 h1 h2 h3 st
    subst h1; subst h2; subst h3
    exact Or.inl ⟨v, (T.setVm vm₁).calling g' mk As.toArray, t, U', L, hT, X', hL, e1, e2, hq, st⟩
  · dsimp only [Pt.U, Pt.locs, Pt.cells, Pt.slots] at X' e1 e2 h1 h2 h3 st hcl
    subst h1; subst h2; subst h3
    exact Or.inr ⟨q, (T.setVm vm₁).calling g' mk As.toArray, t, U', L, E, ce, hT, X', hL, e1, e2, hq, hce, hcv, vx_cls hW₁ hcl, st⟩
end Runs
section Rows
variable {p : Program} {l : Launch} {e : Env} {R : Room} {s : State} {m : MethodId} {args : Array Value} {below : List Frame} {meth : Method} {c : Code} {H : Heap} {locs : List Loc} {cells slots : Nat} {Q : State → Prop}
variable {mc ms : Nat} {free : Addr → Prop} {A0 A1 : Nat → Prop} {H0 : Heap} {a : Array Value} {pc : Nat} {ls : Array Slot} {st0 rest : List Value}
theorem vx_keep {st₀ t T' : State} {L : List Loc} (h0 : st₀.heap = H) (e1 : T'.heap = t.heap) (hS : va_S A0 H0 H locs) (hA : ∀ q, q < H.size → A1 q → A0 q) (hf : ∀ q, free q → A0 q) (hL : ∀ q ∈ L, free q.base) (hF : va_F A1 st₀ t) :
    H.size ≤ T'.heap.size ∧ (∀ q : Nat, q < H.size → ¬ A1 q → T'.heap[q]? = H[q]?) ∧ va_S A0 H0 T'.heap (locs ++ L) := by
  obtain ⟨hz, hk⟩ := hF
  rw [h0] at hz hk
  exact ⟨by rw [e1]; exact hz, fun q h1 h2 => by rw [e1]; exact hk q h1 h2,
    ⟨Nat.le_trans hS.1 (by rw [e1]; exact hz), fun q h1 h2 => by rw [e1, hk q (Nat.lt_of_lt_of_le h1 hS.1) (fun z => h2 (hA q (Nat.lt_of_lt_of_le h1 hS.1) z))]; exact hS.2.1 q h1 h2, fun q hq => by
      rcases List.mem_append.mp hq with h | h
      · exact hS.2.2 q h
      · exact hf _ (hL q h)⟩⟩
theorem vx_calli {S SX : Type} {post : Int32 → S → Prop} {px : SX → Prop} {B : S → State → Prop} {BX : String → SX → State → Prop} {AX : Nat → Prop} (hr : vx_Run p l e R s m args below meth c H locs cells slots mc ms (F0 m pc ls st0) rest (va_Qi post B A1 a) (vx_X px BX AX) free) (hS : va_S A0 H0 H locs) (hA : ∀ q, q < H.size → A1 q → A0 q) (hf : ∀ q, free q → A0 q) (hAX : ∀ q, q < H.size → AX q → A0 q)
    (kx : ∀ (E : String) (ce : Cell) (q9 : Addr) (u : SX) (t : State) (H1 : Heap) (locs1 : List Loc), t.heap = H1 → s.vm.Alike t.vm → px u → BX E u t → H.size ≤ H1.size → (∀ q : Nat, q < H.size → ¬ AX q → H1[q]? = H[q]?) → va_S A0 H0 H1 locs1 → H1[q9]? = some ce → ce.vm = .none → s.vm.findClass E = some ce.cls → vx_W p l e R s m args below meth c H1 locs1 (cells + mc) (slots + ms) Q (F0 m pc ls rest) q9)
    (kk : ∀ (r : Int32) (u : S) (t : State) (H1 : Heap) (locs1 : List Loc), t.heap = H1 → s.vm.Alike t.vm → post r u → B u t → H.size ≤ H1.size → (∀ q : Nat, q < H.size → ¬ A1 q → H1[q]? = H[q]?) → va_S A0 H0 H1 locs1 → W p l e R s m args below meth c H1 locs1 (cells + mc) (slots + ms) Q (F0 m (pc + 3) ls (.int r :: rest))) : W p l e R s m args below meth c H locs cells slots Q (F0 m pc ls st0) := by
  intro T hT X
  rcases hr T hT X with ⟨v, st₀, t, T', L, h0, X', hL, e1, e2, ⟨⟨r, u, hv, hp, hb⟩, hF⟩, st⟩ | ⟨q, st₀, t, T', L, E, ce, h0, X', hL, e1, e2, ⟨u, hp, hb, hF⟩, hce, hcv, hcl, st⟩
  · cases hv
    obtain ⟨k1, k2, k3⟩ := vx_keep h0 e1 hS hA hf hL hF
    obtain ⟨t2, a1, b1⟩ := kk r u t T'.heap (locs ++ L) e1.symm (by rw [← e2]; exact X'.warmed.alike) hp hb k1 k2 k3 T' rfl X'
    exact ⟨t2, st t2 a1, b1⟩
  · obtain ⟨k1, k2, k3⟩ := vx_keep h0 e1 hS hAX hf hL hF
    obtain ⟨t2, a1, b1⟩ := kx E ce q u t T'.heap (locs ++ L) e1.symm (by rw [← e2]; exact X'.warmed.alike) hp hb k1 k2 k3 (by rw [e1]; exact hce) hcv hcl T' rfl X'
    exact ⟨t2, st.trans a1, b1⟩
theorem vx_calll {S SX : Type} {post : Int64 → S → Prop} {px : SX → Prop} {B : S → State → Prop} {BX : String → SX → State → Prop} {AX : Nat → Prop} (hr : vx_Run p l e R s m args below meth c H locs cells slots mc ms (F0 m pc ls st0) rest (va_Ql post B A1 a) (vx_X px BX AX) free) (hS : va_S A0 H0 H locs) (hA : ∀ q, q < H.size → A1 q → A0 q) (hf : ∀ q, free q → A0 q) (hAX : ∀ q, q < H.size → AX q → A0 q)
    (kx : ∀ (E : String) (ce : Cell) (q9 : Addr) (u : SX) (t : State) (H1 : Heap) (locs1 : List Loc), t.heap = H1 → s.vm.Alike t.vm → px u → BX E u t → H.size ≤ H1.size → (∀ q : Nat, q < H.size → ¬ AX q → H1[q]? = H[q]?) → va_S A0 H0 H1 locs1 → H1[q9]? = some ce → ce.vm = .none → s.vm.findClass E = some ce.cls → vx_W p l e R s m args below meth c H1 locs1 (cells + mc) (slots + ms) Q (F0 m pc ls rest) q9)
    (kk : ∀ (r : Int64) (u : S) (t : State) (H1 : Heap) (locs1 : List Loc), t.heap = H1 → s.vm.Alike t.vm → post r u → B u t → H.size ≤ H1.size → (∀ q : Nat, q < H.size → ¬ A1 q → H1[q]? = H[q]?) → va_S A0 H0 H1 locs1 → W p l e R s m args below meth c H1 locs1 (cells + mc) (slots + ms) Q (F0 m (pc + 3) ls (.long r :: rest))) : W p l e R s m args below meth c H locs cells slots Q (F0 m pc ls st0) := by
  intro T hT X
  rcases hr T hT X with ⟨v, st₀, t, T', L, h0, X', hL, e1, e2, ⟨⟨r, u, hv, hp, hb⟩, hF⟩, st⟩ | ⟨q, st₀, t, T', L, E, ce, h0, X', hL, e1, e2, ⟨u, hp, hb, hF⟩, hce, hcv, hcl, st⟩
  · cases hv
    obtain ⟨k1, k2, k3⟩ := vx_keep h0 e1 hS hA hf hL hF
    obtain ⟨t2, a1, b1⟩ := kk r u t T'.heap (locs ++ L) e1.symm (by rw [← e2]; exact X'.warmed.alike) hp hb k1 k2 k3 T' rfl X'
    exact ⟨t2, st t2 a1, b1⟩
  · obtain ⟨k1, k2, k3⟩ := vx_keep h0 e1 hS hAX hf hL hF
    obtain ⟨t2, a1, b1⟩ := kx E ce q u t T'.heap (locs ++ L) e1.symm (by rw [← e2]; exact X'.warmed.alike) hp hb k1 k2 k3 (by rw [e1]; exact hce) hcv hcl T' rfl X'
    exact ⟨t2, st.trans a1, b1⟩
theorem vx_callf {S SX : Type} {post : UInt32 → S → Prop} {px : SX → Prop} {B : S → State → Prop} {BX : String → SX → State → Prop} {AX : Nat → Prop} (hr : vx_Run p l e R s m args below meth c H locs cells slots mc ms (F0 m pc ls st0) rest (va_Qf post B A1 a) (vx_X px BX AX) free) (hS : va_S A0 H0 H locs) (hA : ∀ q, q < H.size → A1 q → A0 q) (hf : ∀ q, free q → A0 q) (hAX : ∀ q, q < H.size → AX q → A0 q)
    (kx : ∀ (E : String) (ce : Cell) (q9 : Addr) (u : SX) (t : State) (H1 : Heap) (locs1 : List Loc), t.heap = H1 → s.vm.Alike t.vm → px u → BX E u t → H.size ≤ H1.size → (∀ q : Nat, q < H.size → ¬ AX q → H1[q]? = H[q]?) → va_S A0 H0 H1 locs1 → H1[q9]? = some ce → ce.vm = .none → s.vm.findClass E = some ce.cls → vx_W p l e R s m args below meth c H1 locs1 (cells + mc) (slots + ms) Q (F0 m pc ls rest) q9)
    (kk : ∀ (r : UInt32) (u : S) (t : State) (H1 : Heap) (locs1 : List Loc), t.heap = H1 → s.vm.Alike t.vm → post r u → B u t → H.size ≤ H1.size → (∀ q : Nat, q < H.size → ¬ A1 q → H1[q]? = H[q]?) → va_S A0 H0 H1 locs1 → W p l e R s m args below meth c H1 locs1 (cells + mc) (slots + ms) Q (F0 m (pc + 3) ls (.float r :: rest))) : W p l e R s m args below meth c H locs cells slots Q (F0 m pc ls st0) := by
  intro T hT X
  rcases hr T hT X with ⟨v, st₀, t, T', L, h0, X', hL, e1, e2, ⟨⟨r, u, hv, hp, hb⟩, hF⟩, st⟩ | ⟨q, st₀, t, T', L, E, ce, h0, X', hL, e1, e2, ⟨u, hp, hb, hF⟩, hce, hcv, hcl, st⟩
  · cases hv
    obtain ⟨k1, k2, k3⟩ := vx_keep h0 e1 hS hA hf hL hF
    obtain ⟨t2, a1, b1⟩ := kk r u t T'.heap (locs ++ L) e1.symm (by rw [← e2]; exact X'.warmed.alike) hp hb k1 k2 k3 T' rfl X'
    exact ⟨t2, st t2 a1, b1⟩
  · obtain ⟨k1, k2, k3⟩ := vx_keep h0 e1 hS hAX hf hL hF
    obtain ⟨t2, a1, b1⟩ := kx E ce q u t T'.heap (locs ++ L) e1.symm (by rw [← e2]; exact X'.warmed.alike) hp hb k1 k2 k3 (by rw [e1]; exact hce) hcv hcl T' rfl X'
    exact ⟨t2, st.trans a1, b1⟩
theorem vx_calld {S SX : Type} {post : UInt64 → S → Prop} {px : SX → Prop} {B : S → State → Prop} {BX : String → SX → State → Prop} {AX : Nat → Prop} (hr : vx_Run p l e R s m args below meth c H locs cells slots mc ms (F0 m pc ls st0) rest (va_Qd post B A1 a) (vx_X px BX AX) free) (hS : va_S A0 H0 H locs) (hA : ∀ q, q < H.size → A1 q → A0 q) (hf : ∀ q, free q → A0 q) (hAX : ∀ q, q < H.size → AX q → A0 q)
    (kx : ∀ (E : String) (ce : Cell) (q9 : Addr) (u : SX) (t : State) (H1 : Heap) (locs1 : List Loc), t.heap = H1 → s.vm.Alike t.vm → px u → BX E u t → H.size ≤ H1.size → (∀ q : Nat, q < H.size → ¬ AX q → H1[q]? = H[q]?) → va_S A0 H0 H1 locs1 → H1[q9]? = some ce → ce.vm = .none → s.vm.findClass E = some ce.cls → vx_W p l e R s m args below meth c H1 locs1 (cells + mc) (slots + ms) Q (F0 m pc ls rest) q9)
    (kk : ∀ (r : UInt64) (u : S) (t : State) (H1 : Heap) (locs1 : List Loc), t.heap = H1 → s.vm.Alike t.vm → post r u → B u t → H.size ≤ H1.size → (∀ q : Nat, q < H.size → ¬ A1 q → H1[q]? = H[q]?) → va_S A0 H0 H1 locs1 → W p l e R s m args below meth c H1 locs1 (cells + mc) (slots + ms) Q (F0 m (pc + 3) ls (.double r :: rest))) : W p l e R s m args below meth c H locs cells slots Q (F0 m pc ls st0) := by
  intro T hT X
  rcases hr T hT X with ⟨v, st₀, t, T', L, h0, X', hL, e1, e2, ⟨⟨r, u, hv, hp, hb⟩, hF⟩, st⟩ | ⟨q, st₀, t, T', L, E, ce, h0, X', hL, e1, e2, ⟨u, hp, hb, hF⟩, hce, hcv, hcl, st⟩
  · cases hv
    obtain ⟨k1, k2, k3⟩ := vx_keep h0 e1 hS hA hf hL hF
    obtain ⟨t2, a1, b1⟩ := kk r u t T'.heap (locs ++ L) e1.symm (by rw [← e2]; exact X'.warmed.alike) hp hb k1 k2 k3 T' rfl X'
    exact ⟨t2, st t2 a1, b1⟩
  · obtain ⟨k1, k2, k3⟩ := vx_keep h0 e1 hS hAX hf hL hF
    obtain ⟨t2, a1, b1⟩ := kx E ce q u t T'.heap (locs ++ L) e1.symm (by rw [← e2]; exact X'.warmed.alike) hp hb k1 k2 k3 (by rw [e1]; exact hce) hcv hcl T' rfl X'
    exact ⟨t2, st.trans a1, b1⟩
theorem vx_callv {S SX : Type} {post : S → Prop} {px : SX → Prop} {B : S → State → Prop} {BX : String → SX → State → Prop} {AX : Nat → Prop} (hr : vx_Run p l e R s m args below meth c H locs cells slots mc ms (F0 m pc ls st0) rest (va_Qv post B A1 a) (vx_X px BX AX) free) (hS : va_S A0 H0 H locs) (hA : ∀ q, q < H.size → A1 q → A0 q) (hf : ∀ q, free q → A0 q) (hAX : ∀ q, q < H.size → AX q → A0 q)
    (kx : ∀ (E : String) (ce : Cell) (q9 : Addr) (u : SX) (t : State) (H1 : Heap) (locs1 : List Loc), t.heap = H1 → s.vm.Alike t.vm → px u → BX E u t → H.size ≤ H1.size → (∀ q : Nat, q < H.size → ¬ AX q → H1[q]? = H[q]?) → va_S A0 H0 H1 locs1 → H1[q9]? = some ce → ce.vm = .none → s.vm.findClass E = some ce.cls → vx_W p l e R s m args below meth c H1 locs1 (cells + mc) (slots + ms) Q (F0 m pc ls rest) q9)
    (kk : ∀ (u : S) (t : State) (H1 : Heap) (locs1 : List Loc), t.heap = H1 → s.vm.Alike t.vm → post u → B u t → H.size ≤ H1.size → (∀ q : Nat, q < H.size → ¬ A1 q → H1[q]? = H[q]?) → va_S A0 H0 H1 locs1 → W p l e R s m args below meth c H1 locs1 (cells + mc) (slots + ms) Q (F0 m (pc + 3) ls (rest))) : W p l e R s m args below meth c H locs cells slots Q (F0 m pc ls st0) := by
  intro T hT X
  rcases hr T hT X with ⟨v, st₀, t, T', L, h0, X', hL, e1, e2, ⟨⟨u, hv, hp, hb⟩, hF⟩, st⟩ | ⟨q, st₀, t, T', L, E, ce, h0, X', hL, e1, e2, ⟨u, hp, hb, hF⟩, hce, hcv, hcl, st⟩
  · cases hv
    obtain ⟨k1, k2, k3⟩ := vx_keep h0 e1 hS hA hf hL hF
    obtain ⟨t2, a1, b1⟩ := kk u t T'.heap (locs ++ L) e1.symm (by rw [← e2]; exact X'.warmed.alike) hp hb k1 k2 k3 T' rfl X'
    exact ⟨t2, st t2 a1, b1⟩
  · obtain ⟨k1, k2, k3⟩ := vx_keep h0 e1 hS hAX hf hL hF
    obtain ⟨t2, a1, b1⟩ := kx E ce q u t T'.heap (locs ++ L) e1.symm (by rw [← e2]; exact X'.warmed.alike) hp hb k1 k2 k3 (by rw [e1]; exact hce) hcv hcl T' rfl X'
    exact ⟨t2, st.trans a1, b1⟩
/-- caught by the row x of this method's table; the rows ahead don't take it -/
theorem vx_catch {own name : String} {E : String} {ce : Cell} {q : Addr} (hown : s.vm.findClass own = some m.cls) (pre : List ExceptionTableEntry) (x : ExceptionTableEntry) (suf : List ExceptionTableEntry) (hsplit : c.exceptionTable.toList = pre ++ x :: suf)
    (hpass : ∀ z ∈ pre, covers z pc = false ∨ (z.catchType ≠ 0 ∧ ∃ nm : String, (Cond.classLink own z.catchType nm).before args s = true ∧ va_Nc E nm s)) (hx : covers x pc = true) (h0 : x.catchType ≠ 0)
    (hlink : (Cond.classLink own x.catchType name).before args s = true) (hcast : (Cond.castable E name).before args s = true) (hcell : H[q]? = some ce) (hv : ce.vm = .none) (hcl : s.vm.findClass E = some ce.cls)
    (kk : W p l e R s m args below meth c H locs cells slots Q (F0 m x.handlerPc ls [.ref q])) : vx_W p l e R s m args below meth c H locs cells slots Q (F0 m pc ls rest) q := by
  intro T hT X
  have hpl : e.platform.magicAccessors = ({} : Platform).magicAccessors := by rw [X.admits.platform]
  obtain ⟨c3, c4, hc3, hc4, hasg⟩ := Cond.castable_spec hcast
  cases Option.some.inj (hc3.symm.trans hcl)
  obtain ⟨c5, hc5, hcl5⟩ := Cond.classLink_spec hown hlink e.platform hpl
  cases Option.some.inj (hc4.symm.trans hc5)
  obtain ⟨vm', X', st⟩ := X.thenCaughtThrough q (g := F0 m pc ls rest) rfl (Steps.refl _) (by rw [hT]; exact hcell) (by rw [hv]; rfl) (by obtain ⟨k9, h9, -⟩ := Vm.findClass_spec hcl; exact ⟨k9, h9⟩) pre x suf hsplit
    (fun z hz => by
      rcases hpass z hz with h | ⟨hz0, nm, hl1, hn1⟩
      · exact Or.inl h
      · obtain ⟨c6, hc6, hcl6⟩ := Cond.classLink_spec hown hl1 e.platform hpl
        obtain ⟨a8, b8, h1, h2, h3⟩ := hn1
        cases Option.some.inj (h1.symm.trans hcl)
        cases Option.some.inj (h2.symm.trans hc6)
        exact Or.inr ⟨hz0, _, hcl6, h3⟩) hx (Or.inr ⟨h0, c4, hcl5, hasg⟩)
  obtain ⟨t, a1, b1⟩ := kk (T.setVm vm') hT X'
  exact ⟨t, st.trans a1, b1⟩
end Rows
section Ends
variable {p : Program} {l : Launch} {e : Env} {R : Room} {s : State} {m : MethodId} {args : Array Value} {below : List Frame} {meth : Method} {c : Code} {H : Heap} {locs : List Loc} {cells slots : Nat} {Q : State → Prop}
variable {mc ms : Nat} {free : Addr → Prop} {A0 A1 : Nat → Prop} {H0 : Heap} {a : Array Value} {ls : Array Slot} {st0 rest : List Value}
variable {Qc : Array Value → State → Outcome → State → Prop} {XC : String → State → State → Prop}
/-- what a body that may throw owes at its end -/
def vx_MQ (below : List Frame) (Qc : Array Value → State → Outcome → State → Prop) (XC : String → State → State → Prop) (a : Array Value) (s : State) (mc ms : Nat) (free : Addr → Prop) : State → Prop := fun t =>
  ∃ o, t.status = .running ∧ Ended t below o ∧ vx_Q Qc XC mc ms free a s o t
theorem vx_ret {g : JFrame} {mc ms : Nat} (k : W p l e R s m args below meth c H locs cells slots (MQ below Qc args s mc ms free) g) : W p l e R s m args below meth c H locs cells slots (vx_MQ below Qc XC args s mc ms free) g := by
  intro T hT X
  obtain ⟨t, a1, o, b1, b2, b3, b4⟩ := k T hT X
  exact ⟨t, a1, o, b1, b2, Or.inl ⟨b3, b4⟩⟩
/-- not caught here: it goes on to the caller -/
theorem vx_widen {g : JFrame} {q : Addr} {k n : Nat} (h1 : cells ≤ k) (h2 : slots ≤ n) (kk : vx_W p l e R s m args below meth c H locs k n Q g q) : vx_W p l e R s m args below meth c H locs cells slots Q g q := fun T hT X => kk T hT (stand_widen X h1 h2)
theorem vx_out {pc : Nat} {E : String} {ce : Cell} {q : Addr} {mc ms : Nat} (hout : ∀ x ∈ c.exceptionTable.toList, covers x pc = false) (hlocks : meth.locks = false) (hcell : H[q]? = some ce) (hv : ce.vm = .none) (hcl : s.vm.findClass E = some ce.cls)
    (hx : ∀ t : State, t.heap = H → s.vm.Alike t.vm → XC E s t) (hf : ∀ z ∈ locs, free z.base) (hc : cells ≤ mc) (hs : slots ≤ ms) :
    vx_W p l e R s m args below meth c H locs cells slots (vx_MQ below Qc XC args s mc ms free) (F0 m pc ls rest) q := by
  intro T hT X
  obtain ⟨st1, hrun, hend, hW, hsm⟩ := X.leaveThrown q (g := F0 m pc ls rest) rfl rfl rfl hout hlocks
  have hcell9 : (T.setFrames (.throwing q :: below)).heap[q]? = some ce := by
    show T.heap[q]? = some ce
    rw [hT]; exact hcell
  exact ⟨_, st1, .threw q, hrun, hend, Or.inr ⟨q, rfl, E, ce, locs, hx _ hT hW.alike, hcell9, hv, hcl, hW, hsm.mono hc hs, hf⟩⟩
theorem vx_frame {U : State} {k n : Nat} (h : s.sameButNew ({ U with vm := s.vm } : State) locs k n) : s.heap.size ≤ U.heap.size ∧ ∀ q : Nat, q < s.heap.size → (∀ z ∈ locs, z.base ≠ q) → U.heap[q]? = s.heap[q]? := by
  obtain ⟨-, h2, -, -, -, h6⟩ := h
  refine ⟨h2, fun q hq hz => ?_⟩
  obtain ⟨c9, e1, e2, e3, e4⟩ := h6 q _ (Array.getElem?_eq_getElem hq)
  have hs : c9.slots = (s.heap[q]).slots := Array.ext_getElem? fun i => e4 i fun hm => hz _ hm rfl
  have h9 : c9 = s.heap[q] := by
    rw [hs] at e2
    exact e2
  have e5 : U.heap[q]? = some c9 := e1
  rw [e5, h9, Array.getElem?_eq_getElem hq]
/-- the words of a throw but the four that speak of the heap -/
def vx_no (w : Cond) : Bool := decide (w ≠ .isRef (.static Bundle.tN "UNASSIGNED_STACK" Bundle.steD)) && decide (w ≠ .isRef (.static Bundle.tN "SUPPRESSED_SENTINEL" Bundle.listD)) && decide (w ≠ .laysStatic Bundle.tN "UNASSIGNED_STACK" Bundle.steD) && decide (w ≠ .laysStatic Bundle.tN "SUPPRESSED_SENTINEL" Bundle.listD)
def vx_at0 (own : String) (ic : Nat) (X : String) (names : List String) : List Cond := (Bundle.ownAtoms0 own ic X names).filter vx_no
def vx_atS (own : String) (ic : Nat) (X : String) (names : List String) : List Cond := (Bundle.ownAtoms own ic X names).filter vx_no
/-- a word that the tables alone decide, or a good one -/
def vx_ot (w : Cond) : Bool := w.onTables || goodWord w
theorem vx_ot_at {args a' : Array Value} {s U : State} {w : Cond} (hW : s.WarmedH U.vm) (hvm : s.vm = U.vm) (hg : vx_ot w = true) (h : w.before args s = true) : w.before a' U = true := by
  simp only [vx_ot, Bool.or_eq_true] at hg
  rcases hg with hg | hg
  · exact va_tabs hg hvm h
  · exact word_at hW (good_of_word hg) h
/-- a list's words: the good ones out of the method's own list, the others by premises of their own -/
theorem vx_hat {args : Array Value} {s : State} {L B : List Cond} (h1 : ∀ w ∈ L.filter goodWord, w.before args s = true) (h2 : ∀ w ∈ L.filter (fun w => !goodWord w), w ∈ B) (h3 : ∀ w ∈ B, w.before args s = true) : ∀ w ∈ L, w.before args s = true := by
  intro w hw
  by_cases g : goodWord w = true
  · exact h1 w (List.mem_filter.mpr ⟨hw, g⟩)
  · refine h3 w (h2 w (List.mem_filter.mpr ⟨hw, ?_⟩))
    show (!goodWord w) = true
    cases hgw : goodWord w
    · rfl
    · exact absurd hgw g
theorem vx_c {args : Array Value} {s : State} {w : Cond} {B : List Cond} (h : w.before args s = true) (t : ∀ w ∈ B, w.before args s = true) : ∀ w' ∈ w :: B, w'.before args s = true := fun w' h' => (List.mem_cons.mp h').elim (fun e => by rw [e]; exact h) (t w')
theorem vx_n {args : Array Value} {s : State} : ∀ w ∈ ([] : List Cond), w.before args s = true := fun _ h => nomatch h
theorem vx_own {args : Array Value} {s : State} {L : List Cond} (h1 : ∀ w ∈ L.filter vx_no, w.before args s = true)
    (hU : (Cond.isRef (.static Bundle.tN "UNASSIGNED_STACK" Bundle.steD)).before args s = true) (hN : (Cond.isRef (.static Bundle.tN "SUPPRESSED_SENTINEL" Bundle.listD)).before args s = true)
    (lU : (Cond.laysStatic Bundle.tN "UNASSIGNED_STACK" Bundle.steD).before args s = true) (lN : (Cond.laysStatic Bundle.tN "SUPPRESSED_SENTINEL" Bundle.listD).before args s = true) : ∀ w ∈ L, w.before args s = true := by
  intro w hw
  by_cases e1 : w = .isRef (.static Bundle.tN "UNASSIGNED_STACK" Bundle.steD)
  · rw [e1]; exact hU
  · by_cases e2 : w = .isRef (.static Bundle.tN "SUPPRESSED_SENTINEL" Bundle.listD)
    · rw [e2]; exact hN
    · by_cases e3 : w = .laysStatic Bundle.tN "UNASSIGNED_STACK" Bundle.steD
      · rw [e3]; exact lU
      · by_cases e4 : w = .laysStatic Bundle.tN "SUPPRESSED_SENTINEL" Bundle.listD
        · rw [e4]; exact lN
        · exact h1 w (List.mem_filter.mpr ⟨hw, by unfold vx_no; rw [decide_eq_true e1, decide_eq_true e2, decide_eq_true e3, decide_eq_true e4]; rfl⟩)
/-- where a static field lies, its class's statics cell in H -/
def vx_L (C n d : String) (A : Nat → Prop) (U : State) (H : Heap) : Prop := ∃ (c : ClassId) (k : Class) (i : Nat) (f : Field) (a : Nat) (cell : Cell), U.vm.findClass C = some c ∧ U.fieldFound? C n d = some (c, k, i, f) ∧ f.isStatic = true ∧ k.statics = some a ∧ H[a]? = some cell ∧ cell.vm.isStatics = true ∧ cell.cls = c ∧ f.slot < cell.slots.size ∧ k.staticTypes[f.slot]? = some f.type ∧ ¬ A a
theorem vx_L.moved {C n d : String} {A : Nat → Prop} {u U : State} {H : Heap} (hvm : u.vm.Alike U.vm) (h : vx_L C n d A u H) : vx_L C n d A U H := by
  obtain ⟨c, k, i, f, a, cell, h1, h2, h3, h4, h5, h6, h7, h8, h9, h10⟩ := h
  obtain ⟨k', hi', he⟩ := State.fieldFound?_setVm hvm h2
  exact ⟨c, k', i, f, a, cell, by rw [hvm.findClass]; exact h1, hi', h3, by rw [he]; exact h4, h5, h6, h7, h8, by rw [he]; exact h9, h10⟩
theorem vx_L.kept {C n d : String} {A : Nat → Prop} {U : State} {H H1 : Heap} (h : vx_L C n d A U H) (hq : ∀ a : Nat, a < H.size → ¬ A a → H1[a]? = H[a]?) : vx_L C n d A U H1 := by
  obtain ⟨c, k, i, f, a, cell, h1, h2, h3, h4, h5, h6, h7, h8, h9, h10⟩ := h
  exact ⟨c, k, i, f, a, cell, h1, h2, h3, h4, by rw [hq a (Array.getElem?_eq_some_iff.mp h5).1 h10]; exact h5, h6, h7, h8, h9, h10⟩
theorem vx_L.narrow {C n d : String} {A B : Nat → Prop} {U : State} {H : Heap} (h : vx_L C n d A U H) (hAB : ∀ q, B q → A q) : vx_L C n d B U H := by
  obtain ⟨c, k, i, f, a, cell, h1, h2, h3, h4, h5, h6, h7, h8, h9, h10⟩ := h
  exact ⟨c, k, i, f, a, cell, h1, h2, h3, h4, h5, h6, h7, h8, h9, fun z => h10 (hAB _ z)⟩
theorem vx_L.word {C n d : String} {A : Nat → Prop} {s : State} {args : Array Value} (h : vx_L C n d A s s.heap) : (Cond.laysStatic C n d).before args s = true := by
  obtain ⟨c, k, i, f, a, cell, h1, h2, h3, h4, h5, h6, h7, h8, h9, -⟩ := h
  show (Cond.laysStatic C n d).holds args s none s [] = true
  exact Cond.laysStatic_of h1 h2 h3 h4 h5 h6 h7 h8 h9
/-- .. and what it holds: null or some reference -/
def vx_Zq (C n d : String) (A : Nat → Prop) (U : State) (H : Heap) : Prop := va_Zq C n d A U H ∧ vx_L C n d A U H
theorem vx_Zq.moved {C n d : String} {A : Nat → Prop} {u U : State} {H : Heap} (hvm : u.vm.Alike U.vm) (h : vx_Zq C n d A u H) : vx_Zq C n d A U H := ⟨va_Zq.moved hvm h.1, vx_L.moved hvm h.2⟩
theorem vx_Zq.kept {C n d : String} {A : Nat → Prop} {U : State} {H H1 : Heap} (h : vx_Zq C n d A U H) (hq : ∀ a : Nat, a < H.size → ¬ A a → H1[a]? = H[a]?) : vx_Zq C n d A U H1 := ⟨va_Zq.kept h.1 hq, vx_L.kept h.2 hq⟩
theorem vx_Zq.narrow {C n d : String} {A B : Nat → Prop} {U : State} {H : Heap} (h : vx_Zq C n d A U H) (hAB : ∀ q, B q → A q) : vx_Zq C n d B U H := ⟨va_Zq.narrow h.1 hAB, vx_L.narrow h.2 hAB⟩
theorem vx_Zqof {args : Array Value} {s : State} {C n d : String} {A : Nat → Prop} (hl : (Cond.laysStatic C n d).before args s = true) (hini : (Cond.initialized C).before args s = true) (h : (Cond.isRef (.static C n d)).before args s = true) (hA : ∀ a : Nat, a < s.heap.size → ¬ A a) : vx_Zq C n d A s s.heap := by
  refine ⟨va_Zqof hl hini h hA, ?_⟩
  obtain ⟨c, k, i, f, a, cell, h1, h2, h3, h4, h5, h6, h7, h8, h9⟩ := Cond.laysStatic_spec hl
  exact ⟨c, k, i, f, a, cell, h1, h2, h3, h4, h5, h6, h7, h8, h9, hA a (Array.getElem?_eq_some_iff.mp h5).1⟩
theorem vx_isRef {C n d : String} {v : Value} {A : Nat → Prop} {s : State} {args : Array Value} (h : va_Z C n d v A s s.heap) (hv : v.isRef = true) : (Cond.isRef (.static C n d)).before args s = true := by
  obtain ⟨cf, kf, fi, f, a, cell, h1, h2, h3, h4, h5, h6, h7, -⟩ := h
  have he : (Term.static C n d).eval args s none [] s = some v := by
    simp [Term.eval, State.fieldNamed?, h1, h2, h4, h5, h6, h7]
  simp only [Cond.before, Cond.holds, Cond.value, he]
  cases v <;> simp_all [Value.isRef]
theorem vx_isRefq {C n d : String} {A : Nat → Prop} {s : State} {args : Array Value} (h : va_Zq C n d A s s.heap) : (Cond.isRef (.static C n d)).before args s = true := by
  rcases h with h | ⟨t, h⟩
  · exact vx_isRef h rfl
  · exact vx_isRef h rfl
/-- the same frame, seen from here: as if the method were called anew in this heap -/
theorem vx_rebase {T : State} (X : Stand p l e R s m args below meth c T locs cells slots) {R' : Room} (hf : R'.frames ≤ R.frames) (hl : R'.locals ≤ R.locals) (hc : cells + R'.cells ≤ R.cells) (hs : slots + R'.slots ≤ R.slots) :
    Stand p l e R' ((T.setVm s.vm).setFrames (.invoking m args :: below)) m args below meth c T [] 0 0 := by
  have htop : (T.setVm s.vm).topJava?.isSome := X.here.top
  have hF : ((T.setVm s.vm).setFrames (.invoking m args :: below)).frames = .invoking m args :: below := State.frames_setFrames _ (State.cur_lt_of_top htop)
  obtain ⟨g₀, hg0⟩ := Option.isSome_iff_exists.mp htop
  obtain ⟨r, hr⟩ := State.topJava?_eq_some.mp hg0
  have hl9 : e.platform.stackLimits (T.setVm s.vm).me = e.platform.stackLimits s.me := X.limits
  have hb9 : (T.setVm s.vm).me.stackBytes = s.me.stackBytes := X.bytes
  refine ⟨X.admits, X.cas, X.clock, hF, ?_, X.hears, X.method, X.code, X.here, X.tail, X.warmed, ?_, ?_, ?_⟩
  · have h := X.room
    have hU : ((T.setVm s.vm).setFrames (.invoking m args :: below)).localsInUse = s.localsInUse := by
      rw [State.localsInUse_invoking hF (meth := meth) (c := c) X.method X.code, State.localsInUse_invoking X.frames X.method X.code]
    simp only [State.hasRoom, Bool.and_eq_true, decide_eq_true_eq] at h ⊢
    obtain ⟨⟨⟨⟨h1, h2, h3, h4, h5, h6⟩, h7⟩, h8⟩, h9⟩ := h
    rw [X.frames, List.length_cons] at h2 h3
    have q1 := X.heapSize
    have q2 := X.used
    simp only [hF, hU, List.length_cons, State.stackLimits_setFrames, State.stackBytes_setFrames, hl9, hb9]
    refine ⟨⟨⟨⟨by omega, by omega, by omega, by omega, by omega, h6⟩, ?_⟩, ?_⟩, X.book⟩
    · show T.heap.size + R'.cells ≤ e.platform.maxCells
      omega
    · show T.slotsUsed + R'.slots ≤ e.platform.maxSlots
      omega
  · rw [State.stackLimits_setFrames]; rfl
  · rw [State.stackBytes_setFrames]; rfl
  · refine ⟨?_, Nat.le_refl _, Nat.le_refl _, ?_, ?_, fun a c9 h9 => ⟨c9, h9, rfl, rfl, fun _ _ => rfl⟩⟩
    · obtain ⟨t, ht, -⟩ := State.frames_cons hr
      show T.setVm s.vm = { ((T.setVm s.vm).setFrames (.invoking m args :: below)).setFrames (T.setVm s.vm).frames with heap := T.heap, slotsUsed := T.slotsUsed }
      rw [State.setFrames_setFrames, State.setFrames_self ht]
      rfl
    · show T.slotsUsed = T.slotsUsed + ((T.heap.toList.drop T.heap.size).map (·.slots.size)).sum
      rw [List.drop_eq_nil_of_le (Nat.le_of_eq Array.length_toList)]
      rfl
    · show ((T.heap.toList.drop T.heap.size).map (·.slots.size)).sum ≤ 0
      rw [List.drop_eq_nil_of_le (Nat.le_of_eq Array.length_toList)]
      exact Nat.le_refl _
/-- 'throw new E()': new; dup; invokespecial; athrow -/
theorem vx_throw0 {cc : ByteArray} {pc : Nat} (hexec : p.tables.exec = Jvm.exec) (hb : c.code = cc) (hl : l.stackTraces = false) {own cls : String} {names : List String} {ik ic mc ms : Nat} {A : Nat → Prop}
    (hown : s.vm.findClass own = some m.cls) (hcls : Bundle.fit cls = true) (hnames : ∀ n ∈ names, Bundle.fit n = true)
    (hk : (Cond.classLink own ik cls).before args s = true) (hini : (Cond.initialized cls).before args s = true) (hat : ∀ w ∈ vx_at0 own ic cls names, w.before args s = true)
    (hgood : ∀ w ∈ Cond.classLink own ik cls :: Cond.initialized cls :: vx_at0 own ic cls names, vx_ot w = true)
    (hU : vx_Zq Bundle.tN "UNASSIGNED_STACK" Bundle.steD A s s.heap) (hN : vx_Zq Bundle.tN "SUPPRESSED_SENTINEL" Bundle.listD A s s.heap) (hS : va_S A s.heap H locs) (hsize : ls.size = c.maxLocals)
    (d0 : decode cc pc = .ok (.new ik, 3)) (d3 : decode cc (pc + 3) = .ok (.dup, 1)) (d4 : decode cc (pc + 4) = .ok (.invokespecial ic, 3)) (d7 : decode cc (pc + 7) = .ok (.athrow, 1))
    (hout : ∀ x ∈ c.exceptionTable.toList, covers x (pc + 7) = false)
    (hRframes : names.length + 3 < R.frames) (hRlocals : (rest.map fun v => v.category).sum + (13 * (names.length + 1) + 42) ≤ R.locals) (hRcells : cells + 1 ≤ R.cells) (hRslots : slots + 6 ≤ R.slots) (hlocks : meth.locks = false)
    (hx : ∀ t : State, s.vm.Alike t.vm → H.size ≤ t.heap.size → (∀ q : Nat, q < H.size → t.heap[q]? = H[q]?) → XC cls s t)
    (hf : ∀ z ∈ locs, free z.base) (hc : cells + 1 ≤ mc) (hs : slots + 6 ≤ ms) :
    W p l e R s m args below meth c H locs cells slots (vx_MQ below Qc XC args s mc ms free) (F0 m pc ls rest) := by
  intro T hT X
  have htr : e.platform.stackTraces = false := (show e.platform.stackTraces = l.stackTraces by rw [X.admits.platform]).trans hl
  have Y := vx_rebase X (R' := { frames := R.frames, locals := R.locals, cells := 1, slots := 6 }) (Nat.le_refl _) (Nat.le_refl _) hRcells hRslots
  obtain ⟨s', hA⟩ : ∃ z, z = (T.setVm s.vm).setFrames (.invoking m args :: below) := ⟨_, rfl⟩
  rw [← hA] at Y
  have hvm : s'.vm = s.vm := by rw [hA]; rfl
  have hhp : s'.heap = H := by rw [hA]; exact hT
  have hW0 : s.WarmedH s'.vm := by rw [hvm]; exact State.WarmedH.refl s
  have hat' : ∀ w ∈ vx_at0 own ic cls names, w.before args s' = true := fun w hw => vx_ot_at hW0 hvm.symm (hgood w (List.mem_cons_of_mem _ (List.mem_cons_of_mem _ hw))) (hat w hw)
  have hk' : (Cond.classLink own ik cls).before args s' = true := vx_ot_at hW0 hvm.symm (hgood _ List.mem_cons_self) hk
  have hini' : (Cond.initialized cls).before args s' = true := vx_ot_at hW0 hvm.symm (hgood _ (List.mem_cons_of_mem _ List.mem_cons_self)) hini
  have hU' : vx_Zq Bundle.tN "UNASSIGNED_STACK" Bundle.steD A s' s'.heap := by rw [hhp]; exact vx_Zq.moved hW0.alike (hU.kept hS.2.1)
  have hN' : vx_Zq Bundle.tN "SUPPRESSED_SENTINEL" Bundle.listD A s' s'.heap := by rw [hhp]; exact vx_Zq.moved hW0.alike (hN.kept hS.2.1)
  have h : ∀ w ∈ Bundle.ownAtoms0 own ic cls names, w.before args s' = true := vx_own hat' (vx_isRefq hU'.1) (vx_isRefq hN'.1) hU'.2.word hN'.2.word
  have hown' : s'.vm.findClass own = some m.cls := by rw [hvm]; exact hown
  have hins : (Cond.instantiable cls 6).before args s' = true := h _ (by simp [Bundle.ownAtoms0])
  obtain ⟨vm₁, cX, kX, hfX, hkX, -, -, X₁, st1⟩ := Y.newCold hexec (own := own) (C := cls) (index := ik) (n := 6) hown' hk' hins hini'
    (g := F0 m pc ls rest) rfl (by rw [hb]; exact d0) (Nat.le_refl _) (Nat.le_refl _)
  generalize hT1 : (T.setVm vm₁).pushCell { cls := cX, slots := kX.instanceTypes.map defaultValue, vm := .none } = T1 at X₁ st1
  have hcat : (Value.ref T.heap.size).category = 1 := rfl
  have hcellA : T1.heap[T.heap.size]? = some (freshCell cX kX) := by rw [← hT1]; exact State.heap_pushCell_size _ _
  have d3' : decode c.code (pc + 3) = .ok (.dup, 1) := by rw [hb]; exact d3
  obtain ⟨U, hsteps, hrun, hend, hW, hsame, ce, hce, hO⟩ := X₁.ctorThrow0 hexec htr (own := own) (cls := cls) (names := names) (ic := ic) hown' hcls hnames h (fun x hx => nomatch hx) hfX hkX hcellA (by rw [hhp, hT]; exact Nat.le_refl _)
    (g := { method := m, pc := pc + 4, locals := ls, stack := .ref T.heap.size :: .ref T.heap.size :: rest, locked := none }) rfl hsize rfl rfl (rest := rest) rfl
    (by rw [hb]; exact d4) (by rw [hb]; exact d7) hout hRframes (by simp only [List.map_cons, List.sum_cons, hcat]; omega) hlocks
  obtain ⟨f1, f2⟩ := vx_frame hsame
  rw [hhp] at f1 f2
  have hWs : s.WarmedH U.vm := State.WarmedH.trans hW0 hW
  have hcl : s.vm.findClass cls = some ce.cls := by
    have h9 := hO.cls
    rw [hvm] at h9
    exact h9
  have hall : s.sameButNew ({ U with vm := s.vm } : State) locs mc ms := by
    subst hA
    obtain ⟨e1, e2⟩ := hsame
    rw [State.setFrames_setFrames] at e1
    have h2 : (T.setVm s.vm).sameButNew ({ U with vm := s.vm } : State) [] (0 + 1) (0 + 6) := ⟨e1, e2⟩
    have h3 := X.same.trans h2
    rw [List.append_nil] at h3
    exact h3.mono hc hs
  refine ⟨U, ?_, .threw T.heap.size, hrun, hend, Or.inr ⟨T.heap.size, rfl, cls, ce, locs, hx U hWs.alike f1 (fun q hq => f2 q hq (fun z hz => nomatch hz)), hce, hO.vm, hcl, hWs, hall, hf⟩⟩
  refine st1 _ ?_
  show Steps p.tables e below (T1.setTop { method := m, pc := pc + 3, locals := ls, stack := .ref T.heap.size :: rest, locked := none }) _
  jvm_step X₁.here [X₁.here.top, hexec, d3', Value.category]
  exact hsteps
/-- 'throw new E("text")': new; dup; ldc; invokespecial; athrow -/
theorem vx_throwS {cc : ByteArray} {pc : Nat} (hexec : p.tables.exec = Jvm.exec) (hb : c.code = cc) (hl : l.stackTraces = false) {own cls text : String} {names : List String} {ik is ic mc ms sa : Nat} {A : Nat → Prop}
    (hown : s.vm.findClass own = some m.cls) (hcls : Bundle.fit cls = true) (hnames : ∀ n ∈ names, Bundle.fit n = true)
    (hk : (Cond.classLink own ik cls).before args s = true) (hini : (Cond.initialized cls).before args s = true) (hstr : vk_R own is text sa s) (hat : ∀ w ∈ vx_atS own ic cls names, w.before args s = true)
    (hgood : ∀ w ∈ Cond.classLink own ik cls :: Cond.initialized cls :: vx_atS own ic cls names, vx_ot w = true)
    (hU : vx_Zq Bundle.tN "UNASSIGNED_STACK" Bundle.steD A s s.heap) (hN : vx_Zq Bundle.tN "SUPPRESSED_SENTINEL" Bundle.listD A s s.heap) (hS : va_S A s.heap H locs) (hsize : ls.size = c.maxLocals)
    (d0 : decode cc pc = .ok (.new ik, 3)) (d3 : decode cc (pc + 3) = .ok (.dup, 1)) (d4 : decode cc (pc + 4) = .ok (.ldc is, 2)) (d6 : decode cc (pc + 6) = .ok (.invokespecial ic, 3)) (d9 : decode cc (pc + 9) = .ok (.athrow, 1))
    (hout : ∀ x ∈ c.exceptionTable.toList, covers x (pc + 9) = false)
    (hRframes : names.length + 3 < R.frames) (hRlocals : (rest.map fun v => v.category).sum + (13 * (names.length + 1) + 43) ≤ R.locals) (hRcells : cells + 1 ≤ R.cells) (hRslots : slots + 6 ≤ R.slots) (hlocks : meth.locks = false)
    (hx : ∀ t : State, s.vm.Alike t.vm → H.size ≤ t.heap.size → (∀ q : Nat, q < H.size → t.heap[q]? = H[q]?) → XC cls s t)
    (hf : ∀ z ∈ locs, free z.base) (hc : cells + 1 ≤ mc) (hs : slots + 6 ≤ ms) :
    W p l e R s m args below meth c H locs cells slots (vx_MQ below Qc XC args s mc ms free) (F0 m pc ls rest) := by
  intro T hT X
  have htr : e.platform.stackTraces = false := (show e.platform.stackTraces = l.stackTraces by rw [X.admits.platform]).trans hl
  have Y := vx_rebase X (R' := { frames := R.frames, locals := R.locals, cells := 1, slots := 6 }) (Nat.le_refl _) (Nat.le_refl _) hRcells hRslots
  obtain ⟨s', hA⟩ : ∃ z, z = (T.setVm s.vm).setFrames (.invoking m args :: below) := ⟨_, rfl⟩
  rw [← hA] at Y
  have hvm : s'.vm = s.vm := by rw [hA]; rfl
  have hhp : s'.heap = H := by rw [hA]; exact hT
  have hW0 : s.WarmedH s'.vm := by rw [hvm]; exact State.WarmedH.refl s
  have hat' : ∀ w ∈ vx_atS own ic cls names, w.before args s' = true := fun w hw => vx_ot_at hW0 hvm.symm (hgood w (List.mem_cons_of_mem _ (List.mem_cons_of_mem _ hw))) (hat w hw)
  have hk' : (Cond.classLink own ik cls).before args s' = true := vx_ot_at hW0 hvm.symm (hgood _ List.mem_cons_self) hk
  have hini' : (Cond.initialized cls).before args s' = true := vx_ot_at hW0 hvm.symm (hgood _ (List.mem_cons_of_mem _ List.mem_cons_self)) hini
  have hU' : vx_Zq Bundle.tN "UNASSIGNED_STACK" Bundle.steD A s' s'.heap := by rw [hhp]; exact vx_Zq.moved hW0.alike (hU.kept hS.2.1)
  have hN' : vx_Zq Bundle.tN "SUPPRESSED_SENTINEL" Bundle.listD A s' s'.heap := by rw [hhp]; exact vx_Zq.moved hW0.alike (hN.kept hS.2.1)
  have h : ∀ w ∈ Bundle.ownAtoms own ic cls names, w.before args s' = true := vx_own hat' (vx_isRefq hU'.1) (vx_isRefq hN'.1) hU'.2.word hN'.2.word
  have hown' : s'.vm.findClass own = some m.cls := by rw [hvm]; exact hown
  have hins : (Cond.instantiable cls 6).before args s' = true := h _ (by simp [Bundle.ownAtoms])
  obtain ⟨vm₁, cX, kX, hfX, hkX, -, -, X₁, st1⟩ := Y.newCold hexec (own := own) (C := cls) (index := ik) (n := 6) hown' hk' hins hini'
    (g := F0 m pc ls rest) rfl (by rw [hb]; exact d0) (Nat.le_refl _) (Nat.le_refl _)
  generalize hT1 : (T.setVm vm₁).pushCell { cls := cX, slots := kX.instanceTypes.map defaultValue, vm := .none } = T1 at X₁ st1
  have hcat : (Value.ref T.heap.size).category = 1 := rfl
  have hcellA : T1.heap[T.heap.size]? = some (freshCell cX kX) := by rw [← hT1]; exact State.heap_pushCell_size _ _
  have d3' : decode c.code (pc + 3) = .ok (.dup, 1) := by rw [hb]; exact d3
  have d4' : decode c.code (pc + 4) = .ok (.ldc is, 2) := by rw [hb]; exact d4
  have hstr' : vk_R own is text sa s' := vk_R.warm hW0 hstr
  obtain ⟨U, hsteps, hrun, hend, hW, hsame, ce, hce, hO⟩ := X₁.ctorThrowS hexec htr (own := own) (cls := cls) (names := names) (ic := ic) hown' hcls hnames h (fun x hx => nomatch hx) hfX hkX hcellA (by rw [hhp, hT]; exact Nat.le_refl _) (msg := .ref sa) rfl
    (g := { method := m, pc := pc + 6, locals := ls, stack := .ref sa :: .ref T.heap.size :: .ref T.heap.size :: rest, locked := none }) rfl hsize rfl rfl (rest := rest) rfl
    (by rw [hb]; exact d6) (by rw [hb]; exact d9) hout hRframes (by simp only [List.map_cons, List.sum_cons, hcat]; omega) hlocks
  obtain ⟨f1, f2⟩ := vx_frame hsame
  rw [hhp] at f1 f2
  have hWs : s.WarmedH U.vm := State.WarmedH.trans hW0 hW
  have hcl : s.vm.findClass cls = some ce.cls := by
    have h9 := hO.cls
    rw [hvm] at h9
    exact h9
  have hall : s.sameButNew ({ U with vm := s.vm } : State) locs mc ms := by
    subst hA
    obtain ⟨e1, e2⟩ := hsame
    rw [State.setFrames_setFrames] at e1
    have h2 : (T.setVm s.vm).sameButNew ({ U with vm := s.vm } : State) [] (0 + 1) (0 + 6) := ⟨e1, e2⟩
    have h3 := X.same.trans h2
    rw [List.append_nil] at h3
    exact h3.mono hc hs
  refine ⟨U, ?_, .threw T.heap.size, hrun, hend, Or.inr ⟨T.heap.size, rfl, cls, ce, locs, hx U hWs.alike f1 (fun q hq => f2 q hq (fun z hz => nomatch hz)), hce, hO.vm, hcl, hWs, hall, hf⟩⟩
  refine st1 _ ?_
  show Steps p.tables e below (T1.setTop { method := m, pc := pc + 3, locals := ls, stack := .ref T.heap.size :: rest, locked := none }) _
  jvm_step X₁.here [X₁.here.top, hexec, d3', Value.category]
  exact X₁.ldcString hexec (own := own) (text := text) (index := is) (a := sa) hown' hstr'.1 hstr'.2
    (g := { method := m, pc := pc + 4, locals := ls, stack := .ref T.heap.size :: .ref T.heap.size :: rest, locked := none }) rfl d4' _ hsteps
/-- 'throw new E("text")', the text by a wide index -/
theorem vx_throwSW {cc : ByteArray} {pc : Nat} (hexec : p.tables.exec = Jvm.exec) (hb : c.code = cc) (hl : l.stackTraces = false) {own cls text : String} {names : List String} {ik is ic mc ms sa : Nat} {A : Nat → Prop}
    (hown : s.vm.findClass own = some m.cls) (hcls : Bundle.fit cls = true) (hnames : ∀ n ∈ names, Bundle.fit n = true)
    (hk : (Cond.classLink own ik cls).before args s = true) (hini : (Cond.initialized cls).before args s = true) (hstr : vk_R own is text sa s) (hat : ∀ w ∈ vx_atS own ic cls names, w.before args s = true)
    (hgood : ∀ w ∈ Cond.classLink own ik cls :: Cond.initialized cls :: vx_atS own ic cls names, vx_ot w = true)
    (hU : vx_Zq Bundle.tN "UNASSIGNED_STACK" Bundle.steD A s s.heap) (hN : vx_Zq Bundle.tN "SUPPRESSED_SENTINEL" Bundle.listD A s s.heap) (hS : va_S A s.heap H locs) (hsize : ls.size = c.maxLocals)
    (d0 : decode cc pc = .ok (.new ik, 3)) (d3 : decode cc (pc + 3) = .ok (.dup, 1)) (d4 : decode cc (pc + 4) = .ok (.ldc_w is, 3)) (d7 : decode cc (pc + 7) = .ok (.invokespecial ic, 3)) (d10 : decode cc (pc + 10) = .ok (.athrow, 1))
    (hout : ∀ x ∈ c.exceptionTable.toList, covers x (pc + 10) = false)
    (hRframes : names.length + 3 < R.frames) (hRlocals : (rest.map fun v => v.category).sum + (13 * (names.length + 1) + 43) ≤ R.locals) (hRcells : cells + 1 ≤ R.cells) (hRslots : slots + 6 ≤ R.slots) (hlocks : meth.locks = false)
    (hx : ∀ t : State, s.vm.Alike t.vm → H.size ≤ t.heap.size → (∀ q : Nat, q < H.size → t.heap[q]? = H[q]?) → XC cls s t)
    (hf : ∀ z ∈ locs, free z.base) (hc : cells + 1 ≤ mc) (hs : slots + 6 ≤ ms) :
    W p l e R s m args below meth c H locs cells slots (vx_MQ below Qc XC args s mc ms free) (F0 m pc ls rest) := by
  intro T hT X
  have htr : e.platform.stackTraces = false := (show e.platform.stackTraces = l.stackTraces by rw [X.admits.platform]).trans hl
  have Y := vx_rebase X (R' := { frames := R.frames, locals := R.locals, cells := 1, slots := 6 }) (Nat.le_refl _) (Nat.le_refl _) hRcells hRslots
  obtain ⟨s', hA⟩ : ∃ z, z = (T.setVm s.vm).setFrames (.invoking m args :: below) := ⟨_, rfl⟩
  rw [← hA] at Y
  have hvm : s'.vm = s.vm := by rw [hA]; rfl
  have hhp : s'.heap = H := by rw [hA]; exact hT
  have hW0 : s.WarmedH s'.vm := by rw [hvm]; exact State.WarmedH.refl s
  have hat' : ∀ w ∈ vx_atS own ic cls names, w.before args s' = true := fun w hw => vx_ot_at hW0 hvm.symm (hgood w (List.mem_cons_of_mem _ (List.mem_cons_of_mem _ hw))) (hat w hw)
  have hk' : (Cond.classLink own ik cls).before args s' = true := vx_ot_at hW0 hvm.symm (hgood _ List.mem_cons_self) hk
  have hini' : (Cond.initialized cls).before args s' = true := vx_ot_at hW0 hvm.symm (hgood _ (List.mem_cons_of_mem _ List.mem_cons_self)) hini
  have hU' : vx_Zq Bundle.tN "UNASSIGNED_STACK" Bundle.steD A s' s'.heap := by rw [hhp]; exact vx_Zq.moved hW0.alike (hU.kept hS.2.1)
  have hN' : vx_Zq Bundle.tN "SUPPRESSED_SENTINEL" Bundle.listD A s' s'.heap := by rw [hhp]; exact vx_Zq.moved hW0.alike (hN.kept hS.2.1)
  have h : ∀ w ∈ Bundle.ownAtoms own ic cls names, w.before args s' = true := vx_own hat' (vx_isRefq hU'.1) (vx_isRefq hN'.1) hU'.2.word hN'.2.word
  have hown' : s'.vm.findClass own = some m.cls := by rw [hvm]; exact hown
  have hins : (Cond.instantiable cls 6).before args s' = true := h _ (by simp [Bundle.ownAtoms])
  obtain ⟨vm₁, cX, kX, hfX, hkX, -, -, X₁, st1⟩ := Y.newCold hexec (own := own) (C := cls) (index := ik) (n := 6) hown' hk' hins hini'
    (g := F0 m pc ls rest) rfl (by rw [hb]; exact d0) (Nat.le_refl _) (Nat.le_refl _)
  generalize hT1 : (T.setVm vm₁).pushCell { cls := cX, slots := kX.instanceTypes.map defaultValue, vm := .none } = T1 at X₁ st1
  have hcat : (Value.ref T.heap.size).category = 1 := rfl
  have hcellA : T1.heap[T.heap.size]? = some (freshCell cX kX) := by rw [← hT1]; exact State.heap_pushCell_size _ _
  have d3' : decode c.code (pc + 3) = .ok (.dup, 1) := by rw [hb]; exact d3
  have d4' : decode c.code (pc + 4) = .ok (.ldc_w is, 3) := by rw [hb]; exact d4
  have hstr' : vk_R own is text sa s' := vk_R.warm hW0 hstr
  obtain ⟨U, hsteps, hrun, hend, hW, hsame, ce, hce, hO⟩ := X₁.ctorThrowS hexec htr (own := own) (cls := cls) (names := names) (ic := ic) hown' hcls hnames h (fun x hx => nomatch hx) hfX hkX hcellA (by rw [hhp, hT]; exact Nat.le_refl _) (msg := .ref sa) rfl
    (g := { method := m, pc := pc + 7, locals := ls, stack := .ref sa :: .ref T.heap.size :: .ref T.heap.size :: rest, locked := none }) rfl hsize rfl rfl (rest := rest) rfl
    (by rw [hb]; exact d7) (by rw [hb]; exact d10) hout hRframes (by simp only [List.map_cons, List.sum_cons, hcat]; omega) hlocks
  obtain ⟨f1, f2⟩ := vx_frame hsame
  rw [hhp] at f1 f2
  have hWs : s.WarmedH U.vm := State.WarmedH.trans hW0 hW
  have hcl : s.vm.findClass cls = some ce.cls := by
    have h9 := hO.cls
    rw [hvm] at h9
    exact h9
  have hall : s.sameButNew ({ U with vm := s.vm } : State) locs mc ms := by
    subst hA
    obtain ⟨e1, e2⟩ := hsame
    rw [State.setFrames_setFrames] at e1
    have h2 : (T.setVm s.vm).sameButNew ({ U with vm := s.vm } : State) [] (0 + 1) (0 + 6) := ⟨e1, e2⟩
    have h3 := X.same.trans h2
    rw [List.append_nil] at h3
    exact h3.mono hc hs
  refine ⟨U, ?_, .threw T.heap.size, hrun, hend, Or.inr ⟨T.heap.size, rfl, cls, ce, locs, hx U hWs.alike f1 (fun q hq => f2 q hq (fun z hz => nomatch hz)), hce, hO.vm, hcl, hWs, hall, hf⟩⟩
  refine st1 _ ?_
  show Steps p.tables e below (T1.setTop { method := m, pc := pc + 3, locals := ls, stack := .ref T.heap.size :: rest, locked := none }) _
  jvm_step X₁.here [X₁.here.top, hexec, d3', Value.category]
  exact X₁.ldcStringW hexec (own := own) (text := text) (index := is) (a := sa) hown' hstr'.1 hstr'.2
    (g := { method := m, pc := pc + 4, locals := ls, stack := .ref T.heap.size :: .ref T.heap.size :: rest, locked := none }) rfl d4' _ hsteps
end Ends
section Bodies
variable {l : Launch}
theorem vx_ofW {y : MethodName} {ws ws' : List Cond} {rm : Room} {Pc : Array Value → State → Prop} {Qc : Array Value → State → Outcome → State → Prop} {XC : String → State → State → Prop} {mc ms : Nat} {free : Addr → Prop} {cc : ByteArray} {maxL : Nat} {ret : Option FieldType}
    (hy : plainName y.cls = true) (hw : ws = Cond.code y cc maxL ret :: ws')
    (body : ∀ p e s m args below meth c s₁, BodyLoose p l y (headSpec ws rm) cc maxL ret e s m args below meth c s₁ → c.maxLocals = maxL → (∀ x ∈ c.exceptionTable.toList, False) → Pc args s →
      W p l e (headSpec ws rm).room s m args below meth c s.heap [] 0 0 (vx_MQ below Qc XC args s mc ms free) (entryFrame m args maxL)) : vx_Met l y ws rm Pc Qc XC mc ms free := by
  refine MetFree.of_bodyS (code := cc) (maxLocals := maxL) (ret := ret) hy ?_ ?_
  · intro args s m h hn
    obtain ⟨meth, c, h1, h2, h3, h4, h5, h6, -, -⟩ := Cond.code_spec hn (atoms_spec (ws := ws) h _ (by rw [hw]; exact List.mem_cons_self))
    exact ⟨meth, c, h1, h2, h3, h4, h5, h6⟩
  · intro p e s m args below meth c s₁ B hml hP _
    have hh0 : s₁.heap = s.heap := by rw [B.state]; rfl
    have ht : ∀ x ∈ c.exceptionTable.toList, False := by
      obtain ⟨meth9, c9, h1, h2, -, -, -, -, h7, -⟩ := Cond.code_spec B.named (atoms_spec (ws := ws) B.pre _ (by rw [hw]; exact List.mem_cons_self))
      cases Option.some.inj (h1.symm.trans B.method)
      cases Option.some.inj (h2.symm.trans (Stand.of_body B).code)
      intro x hx
      rw [Array.isEmpty_iff.mp h7] at hx
      cases hx
    obtain ⟨t, a1, o, b1, b2, b3⟩ := body p e s m args below meth c s₁ B hml ht hP s₁ hh0 (Stand.of_body B)
    exact ⟨t, o, a1, b1, b2, b3⟩
/-- the table of a body with handlers -/
theorem vx_table {p : Program} {x y : MethodName} {S : Spec} {cc bytes : ByteArray} {maxL maxL' : Nat} {ret ret' : Option FieldType} {e : Env} {s s₁ : State} {m : MethodId} {args : Array Value} {below : List Frame} {meth : Method} {c : Code} {hh : List (Nat × Nat × Nat × Nat)}
    (B : BodyLoose p l y S cc maxL ret e s m args below meth c s₁) (h : (Cond.codeWith y bytes maxL' ret' hh).before args s = true) : c.exceptionTable.toList = tableOf hh := by
  obtain ⟨m9, meth9, c9, hn9, h1, h2, -, -, h6, -⟩ := Cond.codeWith_spec h
  cases Option.some.inj (hn9.symm.trans B.named)
  cases Option.some.inj (h1.symm.trans B.method)
  cases Option.some.inj (h2.symm.trans (Stand.of_body B).code)
  rw [← h6, table_eq]
end Bodies
end VXA
/-! ===== END ===== -/
/-! ===== BEGIN a static call of a method with an exception table ===== -/
section VXS
variable {p : Program} {l : Launch} {e : Env} {R : Room} {s : State} {m : MethodId} {args : Array Value} {below : List Frame} {meth : Method} {c : Code} {T : State} {H : Heap} {locs : List Loc} {cells slots : Nat}
abbrev vx_CSW (R : Room) (s : State) (args : Array Value) (own : String) (index : Nat) (y : MethodName) (bytes : ByteArray) (maxL : Nat) (ret : Option FieldType) (hh : List (Nat × Nat × Nat × Nat)) (ws : List Cond) (rm : Room) (mc ms n : Nat) : Prop :=
  (rm.cells = mc ∧ rm.slots = ms ∧ rm.frames + 1 ≤ R.frames ∧ 8 + (maxL + 11) + rm.locals ≤ R.locals ∧ (∀ w ∈ ws, ∀ (a' : Array Value) (U : State), s.WarmedH U.vm → w.before a' U = true) ∧ Cond.codeWith y bytes maxL ret hh ∈ ws) ∧
  (Cond.codeWith y bytes maxL ret hh).before args s = true ∧ (Cond.initialized y.cls).before args s = true ∧ (y.cls ≠ "java/lang/invoke/MethodHandle" ∧ y.cls ≠ "java/lang/invoke/VarHandle") ∧
  (∀ sig, parseMethodDescriptor y.desc = some sig → n = sig.parameters.length) ∧ (Cond.methodLink own index y).before args s = true ∧ (Cond.static y).before args s = true
theorem vx_cwSW {own : String} {index maxL mc ms : Nat} {y : MethodName} {bytes : ByteArray} {ret : Option FieldType} {hh : List (Nat × Nat × Nat × Nat)} {Ts ws ws' : List Cond} {rm : Room} (n : Nat) (ht : ∀ w ∈ Ts, w.before args s = true) (hT : GoodIn Ts (va_wsS own index y ws)) (hw : ws = Cond.codeWith y bytes maxL ret hh :: ws') (hrc : rm.cells = mc) (hrs : rm.slots = ms)
    (hd : y.cls ≠ "java/lang/invoke/MethodHandle" ∧ y.cls ≠ "java/lang/invoke/VarHandle" ∧ (parseMethodDescriptor y.desc).map (fun d => d.parameters.length) = some n) (hR : rm.frames + 1 ≤ R.frames ∧ 8 + (maxL + 11) + rm.locals ≤ R.locals) :
    vx_CSW R s args own index y bytes maxL ret hh ws rm mc ms n := by
  have ok : ∀ w ∈ va_wsS own index y ws, w.before args s = true := fun w h => ht w (hT w h).1
  have hG : GoodIn Ts ws := fun w h => hT w (by unfold va_wsS; exact List.mem_append_right _ h)
  have hc : Cond.codeWith y bytes maxL ret hh ∈ ws := by rw [hw]; exact List.mem_cons_self
  refine ⟨⟨hrc, hrs, hR.1, hR.2, pay_in ht hG, hc⟩, ht _ (hG _ hc).1, ok _ (by simp [va_wsS]), ⟨hd.1, hd.2.1⟩, fun sig h => ?_, ok _ (by simp [va_wsS]), ok _ (by simp [va_wsS])⟩
  have h2 := hd.2.2
  rw [h] at h2
  exact (Option.some.inj h2).symm
theorem vx_callSW (X : Stand p l e R s m args below meth c T locs cells slots) (hexec : p.tables.exec = Jvm.exec) {own : String} {index : Nat} {y : MethodName} {bytes : ByteArray} {maxL : Nat} {ret : Option FieldType} {hh : List (Nat × Nat × Nat × Nat)}
    (hown : s.vm.findClass own = some m.cls) (hlink : (Cond.methodLink own index y).before args s = true) (hstat : (Cond.static y).before args s = true) (hinit : (Cond.initialized y.cls).before args s = true)
    (hcode : (Cond.codeWith y bytes maxL ret hh).before args s = true) (hy : y.cls ≠ "java/lang/invoke/MethodHandle" ∧ y.cls ≠ "java/lang/invoke/VarHandle")
    {W9 : Nat} {Pre : Pt → Array Value → Prop} {Post : Pt → Array Value → Option Value → Pt → Prop} (hK : Back l R p e below s args y 3 W9 Pre Post)
    {g : JFrame} (hg : g.method = m) (hsize : g.locals.size = c.maxLocals) {argsL rest : List Value} (hlen : ∀ sig, parseMethodDescriptor y.desc = some sig → argsL.length = sig.parameters.length)
    (hstack : g.stack = argsL.reverse ++ rest) (hW : 2 * g.monitorRoom + (rest.map fun v => v.category).sum ≤ W9) (hdg : decode c.code g.pc = .ok (.invokestatic index, 3))
    (hpre : ∀ vm₁, s.WarmedH vm₁ → Pre ⟨T.setVm vm₁, locs, cells, slots⟩ argsL.toArray) :
    ∃ (v : Option Value) (vm₁ : Vm) (B : Pt), s.WarmedH vm₁ ∧ Stand p l e R s m args below meth c B.U B.locs B.cells B.slots ∧ Post ⟨T.setVm vm₁, locs, cells, slots⟩ argsL.toArray v B ∧
      ∀ target, Steps p.tables e below (B.U.setTop { g with pc := g.pc + 3, stack := v.toList ++ rest }) target → Steps p.tables e below (T.setTop g) target := by
  obtain ⟨mk, methM, cM, hnamed, hmethM, -, -, -, -, -, -, hsigM⟩ := Cond.codeWith_spec hcode
  have hstatic : methM.isStatic = true := Cond.static_spec hnamed hmethM hstat
  obtain ⟨kP, hkP, -⟩ := className_of_methodNamed hnamed
  have hinitP : kP.init = .initialized := Cond.initialized_spec (findClass_of_methodNamed hnamed) hkP hinit
  obtain ⟨vm₁, X₁, hstep₁⟩ := X.invokestatic hexec hown hlink hnamed hmethM hstatic hkP hinitP hy (g := g) hg (argsL := argsL) (rest := rest) (hlen _ hsigM) hstack hdg
  obtain ⟨v, B, X', hpost, hsteps⟩ := hK m meth c ⟨T.setVm vm₁, locs, cells, slots⟩ { g with stack := rest } (.invokestatic index) mk argsL.toArray X₁ hg hsize hdg hW (X₁.named hnamed) (hpre vm₁ X₁.warmed)
  exact ⟨v, vm₁, B, X₁.warmed, X', hpost, fun target h => hstep₁ _ fun acts => by rw [doInvoke_state]; exact hsteps.trans h⟩
theorem vx_runSW {y : MethodName} {bytes cc : ByteArray} {maxL nL mc ms n index : Nat} {ret : Option FieldType} {hh : List (Nat × Nat × Nat × Nat)} {ws : List Cond} {rm : Room} {Pc : Array Value → State → Prop} {Qc : Array Value → State → Outcome → State → Prop} {free : Addr → Prop} {Ts : List Cond} {own : String} {As rest : List Value} {g : JFrame}
    (S : CallFix p m c cc nL s args Ts own) (hM : Met l y ws rm Pc Qc mc ms free) (cw : vx_CSW R s args own index y bytes maxL ret hh ws rm mc ms n) (hp : PreS s H Pc As)
    (hg : g.method = m) (hn : As.length = n) (hsize : g.locals.size = nL) (hstack : g.stack = As.reverse ++ rest) (hW : 2 * g.monitorRoom + (rest.map fun v => v.category).sum ≤ 8) (hdg : decode cc g.pc = .ok (.invokestatic index, 3)) (hf : cells + mc ≤ R.cells ∧ slots + ms ≤ R.slots) :
    va_Run p l e R s m args below meth c H locs cells slots mc ms g rest (Qc As.toArray) (free) := by
  obtain ⟨⟨hrc, hrs, hfr, hlo, hws, hcw⟩, hcode, hini, hy, hlen, hl, hstt⟩ := cw
  have hK : Back l R p e below s args y 3 8 (PreOf R mc ms Pc) (PostOf Qc mc ms free) := va_backW (hh := hh) (bytes := bytes) (maxL := maxL) (ret := ret) hM hp.1 hrc hrs hfr hlo hws hcw (fun a' U hW => word_at hW (Or.inl (by first | rfl | simp [Cond.onTables, Cond.keeps, Cond.steady])) hini)
  obtain ⟨hx, hb, hml, ho, -⟩ := S
  intro T hT X
  obtain ⟨v, vm₁, ⟨U', l2, c2, s2⟩, hW₁, X', ⟨g', mk, t, L, e1, e2, hq, h1, hL, h2, h3⟩, st⟩ := vx_callSW X hx (hh := hh) (bytes := bytes) (maxL := maxL) (ret := ret) ho hl hstt hini hcode hy hK hg (hsize.trans hml.symm) (argsL := As) (rest := rest) (fun sig h => hn.trans (hlen sig h)) hstack hW (by rw [hb]; exact hdg)
    (fun vm₁ hW₁ => ⟨hf.1, hf.2, hp.2 (T.setVm vm₁) hT hW₁⟩)
  dsimp only [Pt.U, Pt.locs, Pt.cells, Pt.slots] at X' e1 e2 h1 h2 h3 st
  subst h1; subst h2; subst h3
  exact ⟨v, (T.setVm vm₁).calling g' mk As.toArray, t, U', L, hT, X', hL, e1, e2, hq, st⟩
/-- not caught here, past rows that name other classes: it goes on to the caller -/
theorem vx_outP {p : Program} {l : Launch} {e : Env} {R : Room} {s : State} {m : MethodId} {args : Array Value} {below : List Frame} {meth : Method} {c : Code} {H : Heap} {locs : List Loc} {cells slots : Nat} {free : Addr → Prop} {ls : Array Slot} {rest : List Value} {Qc : Array Value → State → Outcome → State → Prop} {XC : String → State → State → Prop}
    {pc : Nat} {own E : String} {ce : Cell} {q : Addr} {mc ms : Nat} (hown : s.vm.findClass own = some m.cls) (hlocks : meth.locks = false)
    (hpass : ∀ z ∈ c.exceptionTable.toList, covers z pc = false ∨ (z.catchType ≠ 0 ∧ ∃ nm : String, (Cond.classLink own z.catchType nm).before args s = true ∧ va_Nc E nm s)) (hcell : H[q]? = some ce) (hv : ce.vm = .none) (hcl : s.vm.findClass E = some ce.cls)
    (hx : ∀ t : State, t.heap = H → s.vm.Alike t.vm → XC E s t) (hf : ∀ z ∈ locs, free z.base) (hc : cells ≤ mc) (hs : slots ≤ ms) :
    vx_W p l e R s m args below meth c H locs cells slots (vx_MQ below Qc XC args s mc ms free) (F0 m pc ls rest) q := by
  intro T hT X
  have hpl : e.platform.magicAccessors = ({} : Platform).magicAccessors := by rw [X.admits.platform]
  obtain ⟨vm', hW', X', st⟩ := X.outThrough hlocks q (g := F0 m pc ls rest) rfl rfl rfl (cell := ce) (by rw [hT]; exact hcell) (by rw [hv]; rfl)
    (by obtain ⟨k9, h9, -⟩ := Vm.findClass_spec hcl; exact ⟨k9, h9⟩) (fun z hz => by
      rcases hpass z hz with h | ⟨hz0, nm, hl1, hn1⟩
      · exact Or.inl h
      · obtain ⟨c6, hc6, hcl6⟩ := Cond.classLink_spec hown hl1 e.platform hpl
        obtain ⟨a8, b8, h1, h2, h3⟩ := hn1
        cases Option.some.inj (h1.symm.trans hcl)
        cases Option.some.inj (h2.symm.trans hc6)
        exact Or.inr ⟨hz0, _, hcl6, h3⟩)
  obtain ⟨g₀, hfr⟩ := X'.frames_eq
  have hcell9 : ((T.setVm vm').setFrames (.throwing q :: below)).heap[q]? = some ce := by
    show T.heap[q]? = some ce
    rw [hT]; exact hcell
  have hend : Ended ((T.setVm vm').setFrames (.throwing q :: below)) below (.threw q) := State.frames_setFrames _ (State.cur_lt_of_frames hfr)
  refine ⟨(T.setVm vm').setFrames (.throwing q :: below), ?_, .threw q, X'.here.running, hend, Or.inr ⟨q, rfl, E, ce, locs, hx _ hT (X'.ends _).1.alike, hcell9, hv, hcl, (X'.ends _).1, (X'.ends _).2.mono hc hs, hf⟩⟩
  rw [X.pushThrowing_eq]
  exact st
/-- a thing of a world lies in the heap -/
theorem vx_lt {D : va_G} {cl : List vw_C} {ws : va_W} {H1 : Heap} (h : va_P D cl ws H1) {k : Nat} {q : Nat × va_E} (hk : ws[k]? = some q) : q.1 < H1.size := (h k q hk).lt
end VXS
/-! ===== END ===== -/
/-! ===== BEGIN methods with a table of their own: called by a name, returning or throwing ===== -/
section VXH
/-! vx_backW, vx_callVX, vx_callSX, vx_callVW, vx_runVW, vx_runVX, vx_runSX, vx_ofWH follow the same proofs as their sisters above (Free/Laws.lean, Shelf42/LK1.lean); vx_outP calls Shelf42/NT130.lean (outThrough). -/
section
variable {l : Launch} {R : Room} {p : Program} {e : Env} {below : List Frame} {s : State} {sargs : Array Value} {y : MethodName} {len W9 : Nat}
theorem vx_backW {ws : List Cond} {rm : Room} {Pc : Array Value → State → Prop} {Qc : Array Value → State → Outcome → State → Prop} {XC : String → State → State → Prop} {mc ms : Nat} {free : Addr → Prop} {bytes : ByteArray} {maxL : Nat} {ret : Option FieldType} {hh : List (Nat × Nat × Nat × Nat)}
    (hM : vx_Met l y ws rm Pc Qc XC mc ms free) (hblind : FrameBlind Pc) (hrc : rm.cells = mc) (hrs : rm.slots = ms)
    (hframes : rm.frames + 1 ≤ R.frames) (hlocals : W9 + (maxL + 11) + rm.locals ≤ R.locals)
    (hws : ∀ w ∈ ws, ∀ a' U, s.WarmedH U.vm → w.before a' U = true) (hcode : Cond.codeWith y bytes maxL ret hh ∈ ws) (hinit : ∀ a' U, s.WarmedH U.vm → (Cond.initialized y.cls).before a' U = true) :
    vx_Back l R p e below s sargs y len W9 (PreOf R mc ms Pc) (PostOf Qc mc ms free) (vx_Post XC mc ms free) := by
  intro m meth c A g ig mk a X hg hsize hdg hW hn hp
  have h1 : (headSpec ws rm).pre.before a A.U = true := atoms_intro fun w hw => hws w hw _ _ X.warmed
  have h2 : (Cond.codeWith y bytes maxL ret hh).before a A.U = true := hws _ hcode _ _ X.warmed
  have h3 : (Cond.initialized y.cls).before a A.U = true := hinit _ _ X.warmed
  have h4 : A.cells + (headSpec ws rm).room.cells ≤ R.cells := by rw [show (headSpec ws rm).room.cells = mc from hrc]; exact hp.1
  have h5 : A.slots + (headSpec ws rm).room.slots ≤ R.slots := by rw [show (headSpec ws rm).room.slots = ms from hrs]; exact hp.2.1
  have hPc : Pc a (A.U.calling g mk a) := hblind _ _ _ _ hp.2.2
  obtain ⟨U, Ls, c0, s0⟩ := A
  dsimp only [Pt.U, Pt.locs, Pt.cells, Pt.slots] at h1 h2 h3 h4 h5 X hn hPc ⊢
  obtain ⟨m9, methY, cY, hn9, hmY, hcY, -, hlY, -⟩ := Cond.codeWith_spec h2
  cases Option.some.inj (hn9.symm.trans hn)
  obtain ⟨kY, hkY, -⟩ := className_of_methodNamed hn
  have hinitY : kY.init = .initialized := Cond.initialized_spec (findClass_of_methodNamed hn) hkY h3
  have h : At U g.method c below := by rw [hg]; exact X.here
  have hlocals9 : W9 + (maxL + 11) + (headSpec ws rm).room.locals ≤ R.locals := hlocals
  have happ : (headSpec ws rm).appliesLoose y e.platform (U.calling g mk a) = true :=
    Spec.appliesLoose_calling (g := g) h hdg hn hkY hinitY
      (X.room_calling (g := g) (R' := (headSpec ws rm).room) hsize hmY hcY hframes (by rw [hlY]; omega) h4 h5) h1
  obtain ⟨mid, hmid⟩ := h.above
  have hfr : (U.setTop g).frames = (.java g :: mid) ++ below := by rw [State.frames_setTop' g h.top, hmid]; rfl
  obtain ⟨o, s₂, hsteps, -, hend, hq⟩ := Steps.callFree hM p X.admits X.cas X.clock (acts := []) hfr happ hPc trivial
  have hq' : vx_Q Qc XC mc ms free a (U.calling g mk a) o s₂ := hq
  rw [State.frames_setTop' g h.top] at hend
  obtain ⟨g₀, hg0⟩ := Option.isSome_iff_exists.mp h.top
  obtain ⟨r, hr⟩ := State.topJava?_eq_some.mp hg0
  have hr' : (({ U with heap := s₂.heap, slotsUsed := s₂.slotsUsed } : State).setVm s₂.vm).frames = .java g₀ :: r := hr
  rcases hq' with ⟨hqc, L, hfe, hL⟩ | ⟨q, rfl, E, ce, L, hx, hce, hcv, hcl, hW₂, hsm, hL⟩
  · obtain ⟨⟨v, rfl⟩, hW₂, e2, q2, q3, q4, q5, q6⟩ := id hfe
    have e3 : s₂ = ({ (U.calling g mk a).setFrames s₂.frames with heap := s₂.heap, slotsUsed := s₂.slotsUsed } : State).setVm s₂.vm := by
      have : s₂ = ({ s₂ with vm := (U.calling g mk a).vm } : State).setVm s₂.vm := rfl
      rw [e2] at this
      exact this
    obtain ⟨c₂, i₂, len₂, hc₂, hd₂, hf₂⟩ := hend
    have hW' : U.WarmedH s₂.vm := hW₂
    have hcc : c₂ = c := by
      have h1 : s₂.code? g.method = U.code? g.method := by
        rw [State.code?_eq, State.code?_eq, hW'.alike.method?]
      exact Option.some.inj (hc₂.symm.trans (h1.trans h.code))
    subst hcc
    have hlen : len₂ = len := by rw [hdg] at hd₂; cases hd₂; rfl
    subst hlen
    have hs₂ : s₂ = (({ U with heap := s₂.heap, slotsUsed := s₂.slotsUsed } : State).setVm s₂.vm).setTop { g with pc := g.pc + len₂, stack := v.toList ++ g.stack } := by
      refine e3.trans ?_
      rw [hf₂, State.calling_eq h.top, State.setFrames_setFrames, State.setTop_of_frames _ hr', hr]
      rfl
    have hsame : U.sameButNew ({ U with heap := s₂.heap, slotsUsed := s₂.slotsUsed } : State) L mc ms := by
      refine ⟨?_, q2, q3, q4, q5, q6⟩
      obtain ⟨t, ht, -⟩ := State.frames_cons hr
      show ({ U with heap := s₂.heap, slotsUsed := s₂.slotsUsed } : State) = { U.setFrames U.frames with heap := s₂.heap, slotsUsed := s₂.slotsUsed }
      rw [State.setFrames_self ht]
    subst hg
    refine Or.inl ⟨v, ⟨(({ U with heap := s₂.heap, slotsUsed := s₂.slotsUsed } : State).setVm s₂.vm), Ls ++ L, c0 + mc, s0 + ms⟩,
      ⟨X.admits, X.cas, X.clock, X.frames, X.room, X.hears, X.method, X.code, (X.here.setHeapUsed s₂.heap s₂.slotsUsed).setVm hW'.alike, X.tail, State.WarmedH.trans X.warmed hW', X.limits, X.bytes, X.same.trans (hsame.setVm s.vm)⟩,
      ⟨g, mk, s₂, L, rfl, rfl, hqc, rfl, hL, rfl, rfl⟩, ?_⟩
    show Steps p.tables e below _ ((({ U with heap := s₂.heap, slotsUsed := s₂.slotsUsed } : State).setVm s₂.vm).setTop { g with pc := g.pc + len₂, stack := v.toList ++ g.stack })
    rw [← hs₂]
    exact hsteps
  · obtain ⟨e2, q2, q3, q4, q5, q6⟩ := id hsm
    have e3 : s₂ = ({ (U.calling g mk a).setFrames s₂.frames with heap := s₂.heap, slotsUsed := s₂.slotsUsed } : State).setVm s₂.vm := by
      have : s₂ = ({ s₂ with vm := (U.calling g mk a).vm } : State).setVm s₂.vm := rfl
      rw [e2] at this
      exact this
    have hf₂ : s₂.frames = .throwing q :: .java g :: U.frames.tail := hend
    have hW' : U.WarmedH s₂.vm := hW₂
    have hs₂ : s₂ = ((({ U with heap := s₂.heap, slotsUsed := s₂.slotsUsed } : State).setVm s₂.vm).setTop g).pushFrame (.throwing q) := by
      refine e3.trans ?_
      rw [hf₂, State.calling_eq h.top, State.setFrames_setFrames, State.pushFrame, State.frames_setTop _ hr', State.setTop_of_frames _ hr', State.setFrames_setFrames, hr]
      rfl
    have hsame : U.sameButNew ({ U with heap := s₂.heap, slotsUsed := s₂.slotsUsed } : State) L mc ms := by
      refine ⟨?_, q2, q3, q4, q5, q6⟩
      obtain ⟨t, ht, -⟩ := State.frames_cons hr
      show ({ U with heap := s₂.heap, slotsUsed := s₂.slotsUsed } : State) = { U.setFrames U.frames with heap := s₂.heap, slotsUsed := s₂.slotsUsed }
      rw [State.setFrames_self ht]
    subst hg
    refine Or.inr ⟨q, ⟨(({ U with heap := s₂.heap, slotsUsed := s₂.slotsUsed } : State).setVm s₂.vm), Ls ++ L, c0 + mc, s0 + ms⟩,
      ⟨X.admits, X.cas, X.clock, X.frames, X.room, X.hears, X.method, X.code, (X.here.setHeapUsed s₂.heap s₂.slotsUsed).setVm hW'.alike, X.tail, State.WarmedH.trans X.warmed hW', X.limits, X.bytes, X.same.trans (hsame.setVm s.vm)⟩,
      ⟨g, mk, s₂, L, E, ce, rfl, rfl, hx, hce, hcv, hcl, rfl, hL, rfl, rfl⟩, ?_⟩
    show Steps p.tables e below _ (((({ U with heap := s₂.heap, slotsUsed := s₂.slotsUsed } : State).setVm s₂.vm).setTop g).pushFrame (.throwing q))
    rw [← hs₂]
    exact hsteps
end
variable {p : Program} {l : Launch} {e : Env} {R : Room} {s : State} {m : MethodId} {args : Array Value} {below : List Frame} {meth : Method} {c : Code} {T : State} {H : Heap} {locs : List Loc} {cells slots : Nat}
theorem vx_callVX (X : Stand p l e R s m args below meth c T locs cells slots) (hexec : p.tables.exec = Jvm.exec) {own C : String} {index : Nat} {y : MethodName} {bytes : ByteArray} {maxL : Nat} {ret : Option FieldType} {hh : List (Nat × Nat × Nat × Nat)}
    (hown : s.vm.findClass own = some m.cls) (hlink : (Cond.methodLink own index y).before args s = true) (hinst : (Cond.instanceMethod y).before args s = true) (hsel : (Cond.selects C y y).before args s = true)
    (hcode : (Cond.codeWith y bytes maxL ret hh).before args s = true) (hy : y.cls ≠ "java/lang/invoke/MethodHandle" ∧ y.cls ≠ "java/lang/invoke/VarHandle")
    {W9 : Nat} {Pre : Pt → Array Value → Prop} {Post : Pt → Array Value → Option Value → Pt → Prop} {PostX : Pt → Array Value → Addr → Pt → Prop} (hK : vx_Back l R p e below s args y 3 W9 Pre Post PostX)
    {b : Addr} {cellB : Cell} (hcell : T.heap[b]? = some cellB) (hobj : cellB.vm.isStatics = false) (hcls : s.vm.findClass C = some cellB.cls)
    {g : JFrame} (hg : g.method = m) (hsize : g.locals.size = c.maxLocals) {argsL rest : List Value} (hlen : ∀ sig, parseMethodDescriptor y.desc = some sig → argsL.length = sig.parameters.length)
    (hstack : g.stack = argsL.reverse ++ .ref b :: rest) (hW : 2 * g.monitorRoom + (rest.map fun v => v.category).sum ≤ W9) (hdg : decode c.code g.pc = .ok (.invokevirtual index, 3))
    (hpre : ∀ vm₁, s.WarmedH vm₁ → Pre ⟨T.setVm vm₁, locs, cells, slots⟩ (Value.ref b :: argsL).toArray) :
    (∃ (v : Option Value) (vm₁ : Vm) (B : Pt), s.WarmedH vm₁ ∧ Stand p l e R s m args below meth c B.U B.locs B.cells B.slots ∧ Post ⟨T.setVm vm₁, locs, cells, slots⟩ (Value.ref b :: argsL).toArray v B ∧
      ∀ target, Steps p.tables e below (B.U.setTop { g with pc := g.pc + 3, stack := v.toList ++ rest }) target → Steps p.tables e below (T.setTop g) target) ∨
    (∃ (q : Addr) (vm₁ : Vm) (B : Pt), s.WarmedH vm₁ ∧ Stand p l e R s m args below meth c B.U B.locs B.cells B.slots ∧ PostX ⟨T.setVm vm₁, locs, cells, slots⟩ (Value.ref b :: argsL).toArray q B ∧
      Steps p.tables e below (T.setTop g) ((B.U.setTop { g with stack := rest }).pushFrame (.throwing q))) := by
  obtain ⟨mk, methM, hnamed, hmethM, hstM, habM⟩ := Cond.instanceMethod_spec hinst
  obtain ⟨m8, methM', cM, hn8, hmethM', -, -, -, -, -, -, hsigM⟩ := Cond.codeWith_spec hcode
  cases Option.some.inj (hn8.symm.trans hnamed)
  cases hmethM.symm.trans hmethM'
  obtain ⟨c2, r2, m2, q1, q2, q3, q4, kP, hkP, hkPi⟩ := Cond.selects_spec hsel
  cases hcls.symm.trans q1
  cases (State.methodFound?_of_named hnamed hy).symm.trans q2
  cases hnamed.symm.trans q3
  have hselP : selectMethod e.platform s.vm cellB.cls mk = .method mk := by rw [Launch.admits_selectMethod X.admits]; exact q4
  obtain ⟨vm₁, X₁, hstep₁⟩ := X.invokevirtual hexec hown hlink hnamed hmethM hstM hkP hkPi hy (a := b) (cell := cellB) hcell
    (fun z h => by rw [h] at hobj; cases hobj) hselP hmethM habM hkP hkPi (g := g) hg (argsL := argsL) (rest := rest) (hlen _ hsigM) hstack hdg
  rcases hK m meth c ⟨T.setVm vm₁, locs, cells, slots⟩ { g with stack := rest } (.invokevirtual index) mk (Value.ref b :: argsL).toArray X₁ hg hsize hdg hW (X₁.named hnamed) (hpre vm₁ X₁.warmed) with ⟨v, B, X', hpost, hsteps⟩ | ⟨q, B, X', hpost, hsteps⟩
  · exact Or.inl ⟨v, vm₁, B, X₁.warmed, X', hpost, fun target h => hstep₁ _ fun acts => by rw [doInvoke_state]; exact hsteps.trans h⟩
  · exact Or.inr ⟨q, vm₁, B, X₁.warmed, X', hpost, hstep₁ _ fun acts => by rw [doInvoke_state]; exact hsteps⟩
theorem vx_callSX (X : Stand p l e R s m args below meth c T locs cells slots) (hexec : p.tables.exec = Jvm.exec) {own : String} {index : Nat} {y : MethodName} {bytes : ByteArray} {maxL : Nat} {ret : Option FieldType} {hh : List (Nat × Nat × Nat × Nat)}
    (hown : s.vm.findClass own = some m.cls) (hlink : (Cond.methodLink own index y).before args s = true) (hstat : (Cond.static y).before args s = true) (hinit : (Cond.initialized y.cls).before args s = true)
    (hcode : (Cond.codeWith y bytes maxL ret hh).before args s = true) (hy : y.cls ≠ "java/lang/invoke/MethodHandle" ∧ y.cls ≠ "java/lang/invoke/VarHandle")
    {W9 : Nat} {Pre : Pt → Array Value → Prop} {Post : Pt → Array Value → Option Value → Pt → Prop} {PostX : Pt → Array Value → Addr → Pt → Prop} (hK : vx_Back l R p e below s args y 3 W9 Pre Post PostX)
    {g : JFrame} (hg : g.method = m) (hsize : g.locals.size = c.maxLocals) {argsL rest : List Value} (hlen : ∀ sig, parseMethodDescriptor y.desc = some sig → argsL.length = sig.parameters.length)
    (hstack : g.stack = argsL.reverse ++ rest) (hW : 2 * g.monitorRoom + (rest.map fun v => v.category).sum ≤ W9) (hdg : decode c.code g.pc = .ok (.invokestatic index, 3))
    (hpre : ∀ vm₁, s.WarmedH vm₁ → Pre ⟨T.setVm vm₁, locs, cells, slots⟩ argsL.toArray) :
    (∃ (v : Option Value) (vm₁ : Vm) (B : Pt), s.WarmedH vm₁ ∧ Stand p l e R s m args below meth c B.U B.locs B.cells B.slots ∧ Post ⟨T.setVm vm₁, locs, cells, slots⟩ argsL.toArray v B ∧
      ∀ target, Steps p.tables e below (B.U.setTop { g with pc := g.pc + 3, stack := v.toList ++ rest }) target → Steps p.tables e below (T.setTop g) target) ∨
    (∃ (q : Addr) (vm₁ : Vm) (B : Pt), s.WarmedH vm₁ ∧ Stand p l e R s m args below meth c B.U B.locs B.cells B.slots ∧ PostX ⟨T.setVm vm₁, locs, cells, slots⟩ argsL.toArray q B ∧
      Steps p.tables e below (T.setTop g) ((B.U.setTop { g with stack := rest }).pushFrame (.throwing q))) := by
  obtain ⟨mk, methM, cM, hnamed, hmethM, -, -, -, -, -, -, hsigM⟩ := Cond.codeWith_spec hcode
  have hstatic : methM.isStatic = true := Cond.static_spec hnamed hmethM hstat
  obtain ⟨kP, hkP, -⟩ := className_of_methodNamed hnamed
  have hinitP : kP.init = .initialized := Cond.initialized_spec (findClass_of_methodNamed hnamed) hkP hinit
  obtain ⟨vm₁, X₁, hstep₁⟩ := X.invokestatic hexec hown hlink hnamed hmethM hstatic hkP hinitP hy (g := g) hg (argsL := argsL) (rest := rest) (hlen _ hsigM) hstack hdg
  rcases hK m meth c ⟨T.setVm vm₁, locs, cells, slots⟩ { g with stack := rest } (.invokestatic index) mk argsL.toArray X₁ hg hsize hdg hW (X₁.named hnamed) (hpre vm₁ X₁.warmed) with ⟨v, B, X', hpost, hsteps⟩ | ⟨q, B, X', hpost, hsteps⟩
  · exact Or.inl ⟨v, vm₁, B, X₁.warmed, X', hpost, fun target h => hstep₁ _ fun acts => by rw [doInvoke_state]; exact hsteps.trans h⟩
  · exact Or.inr ⟨q, vm₁, B, X₁.warmed, X', hpost, hstep₁ _ fun acts => by rw [doInvoke_state]; exact hsteps⟩
theorem vx_callVW (X : Stand p l e R s m args below meth c T locs cells slots) (hexec : p.tables.exec = Jvm.exec) {own C : String} {index : Nat} {y : MethodName} {bytes : ByteArray} {maxL : Nat} {ret : Option FieldType} {hh : List (Nat × Nat × Nat × Nat)}
    (hown : s.vm.findClass own = some m.cls) (hlink : (Cond.methodLink own index y).before args s = true) (hinst : (Cond.instanceMethod y).before args s = true) (hsel : (Cond.selects C y y).before args s = true)
    (hcode : (Cond.codeWith y bytes maxL ret hh).before args s = true) (hy : y.cls ≠ "java/lang/invoke/MethodHandle" ∧ y.cls ≠ "java/lang/invoke/VarHandle")
    {W9 : Nat} {Pre : Pt → Array Value → Prop} {Post : Pt → Array Value → Option Value → Pt → Prop} (hK : Back l R p e below s args y 3 W9 Pre Post)
    {b : Addr} {cellB : Cell} (hcell : T.heap[b]? = some cellB) (hobj : cellB.vm.isStatics = false) (hcls : s.vm.findClass C = some cellB.cls)
    {g : JFrame} (hg : g.method = m) (hsize : g.locals.size = c.maxLocals) {argsL rest : List Value} (hlen : ∀ sig, parseMethodDescriptor y.desc = some sig → argsL.length = sig.parameters.length)
    (hstack : g.stack = argsL.reverse ++ .ref b :: rest) (hW : 2 * g.monitorRoom + (rest.map fun v => v.category).sum ≤ W9) (hdg : decode c.code g.pc = .ok (.invokevirtual index, 3))
    (hpre : ∀ vm₁, s.WarmedH vm₁ → Pre ⟨T.setVm vm₁, locs, cells, slots⟩ (Value.ref b :: argsL).toArray) :
    ∃ (v : Option Value) (vm₁ : Vm) (B : Pt), s.WarmedH vm₁ ∧ Stand p l e R s m args below meth c B.U B.locs B.cells B.slots ∧ Post ⟨T.setVm vm₁, locs, cells, slots⟩ (Value.ref b :: argsL).toArray v B ∧
      ∀ target, Steps p.tables e below (B.U.setTop { g with pc := g.pc + 3, stack := v.toList ++ rest }) target → Steps p.tables e below (T.setTop g) target := by
  obtain ⟨mk, methM, hnamed, hmethM, hstM, habM⟩ := Cond.instanceMethod_spec hinst
  obtain ⟨m8, methM', cM, hn8, hmethM', -, -, -, -, -, -, hsigM⟩ := Cond.codeWith_spec hcode
  cases Option.some.inj (hn8.symm.trans hnamed)
  cases hmethM.symm.trans hmethM'
  obtain ⟨c2, r2, m2, q1, q2, q3, q4, kP, hkP, hkPi⟩ := Cond.selects_spec hsel
  cases hcls.symm.trans q1
  cases (State.methodFound?_of_named hnamed hy).symm.trans q2
  cases hnamed.symm.trans q3
  have hselP : selectMethod e.platform s.vm cellB.cls mk = .method mk := by rw [Launch.admits_selectMethod X.admits]; exact q4
  obtain ⟨vm₁, X₁, hstep₁⟩ := X.invokevirtual hexec hown hlink hnamed hmethM hstM hkP hkPi hy (a := b) (cell := cellB) hcell
    (fun z h => by rw [h] at hobj; cases hobj) hselP hmethM habM hkP hkPi (g := g) hg (argsL := argsL) (rest := rest) (hlen _ hsigM) hstack hdg
  obtain ⟨v, B, X', hpost, hsteps⟩ := hK m meth c ⟨T.setVm vm₁, locs, cells, slots⟩ { g with stack := rest } (.invokevirtual index) mk (Value.ref b :: argsL).toArray X₁ hg hsize hdg hW (X₁.named hnamed) (hpre vm₁ X₁.warmed)
  exact ⟨v, vm₁, B, X₁.warmed, X', hpost, fun target h => hstep₁ _ fun acts => by rw [doInvoke_state]; exact hsteps.trans h⟩
abbrev vx_CVW (R : Room) (s : State) (args : Array Value) (own C : String) (index : Nat) (y : MethodName) (bytes : ByteArray) (maxL : Nat) (ret : Option FieldType) (hh : List (Nat × Nat × Nat × Nat)) (ws : List Cond) (rm : Room) (mc ms n : Nat) : Prop :=
  (rm.cells = mc ∧ rm.slots = ms ∧ rm.frames + 1 ≤ R.frames ∧ 8 + (maxL + 11) + rm.locals ≤ R.locals ∧ (∀ w ∈ ws, ∀ (a' : Array Value) (U : State), s.WarmedH U.vm → w.before a' U = true) ∧ Cond.codeWith y bytes maxL ret hh ∈ ws) ∧
  (Cond.codeWith y bytes maxL ret hh).before args s = true ∧ (Cond.initialized y.cls).before args s = true ∧ (y.cls ≠ "java/lang/invoke/MethodHandle" ∧ y.cls ≠ "java/lang/invoke/VarHandle") ∧
  (∀ sig, parseMethodDescriptor y.desc = some sig → n = sig.parameters.length) ∧ (Cond.methodLink own index y).before args s = true ∧ (Cond.instanceMethod y).before args s = true ∧ (Cond.selects C y y).before args s = true
theorem vx_cwVW {own C : String} {index maxL mc ms : Nat} {y : MethodName} {bytes : ByteArray} {ret : Option FieldType} {hh : List (Nat × Nat × Nat × Nat)} {Ts ws ws' : List Cond} {rm : Room} (n : Nat) (ht : ∀ w ∈ Ts, w.before args s = true) (hT : GoodIn Ts (wsV own index C y ws)) (hw : ws = Cond.codeWith y bytes maxL ret hh :: ws') (hrc : rm.cells = mc) (hrs : rm.slots = ms)
    (hd : y.cls = C ∧ y.cls ≠ "java/lang/invoke/MethodHandle" ∧ y.cls ≠ "java/lang/invoke/VarHandle" ∧ (parseMethodDescriptor y.desc).map (fun d => d.parameters.length) = some n) (hR : rm.frames + 1 ≤ R.frames ∧ 8 + (maxL + 11) + rm.locals ≤ R.locals) :
    vx_CVW R s args own C index y bytes maxL ret hh ws rm mc ms n := by
  obtain ⟨hC, hd⟩ := hd
  subst hC
  have ok : ∀ w ∈ wsV own index y.cls y ws, w.before args s = true := fun w h => ht w (hT w h).1
  have hG : GoodIn Ts ws := fun w h => hT w (by unfold wsV; exact List.mem_append_right _ h)
  have hc : Cond.codeWith y bytes maxL ret hh ∈ ws := by rw [hw]; exact List.mem_cons_self
  refine ⟨⟨hrc, hrs, hR.1, hR.2, pay_in ht hG, hc⟩, ht _ (hG _ hc).1, ok _ (by simp [wsV]), ⟨hd.1, hd.2.1⟩, fun sig h => ?_, ok _ (by simp [wsV]), ok _ (by simp [wsV]), ok _ (by simp [wsV])⟩
  have h2 := hd.2.2
  rw [h] at h2
  exact (Option.some.inj h2).symm
theorem vx_runVW {y : MethodName} {bytes cc : ByteArray} {maxL nL mc ms n index : Nat} {ret : Option FieldType} {hh : List (Nat × Nat × Nat × Nat)} {ws : List Cond} {rm : Room} {Pc : Array Value → State → Prop} {Qc : Array Value → State → Outcome → State → Prop} {free : Addr → Prop} {Ts : List Cond} {own C : String} {b : Addr} {As rest : List Value} {g : JFrame}
    (S : CallFix p m c cc nL s args Ts own) (hM : Met l y ws rm Pc Qc mc ms free) (cw : vx_CVW R s args own C index y bytes maxL ret hh ws rm mc ms n) (hp : PreV s H C b Pc As)
    (hg : g.method = m) (hn : As.length = n) (hsize : g.locals.size = nL) (hstack : g.stack = As.reverse ++ .ref b :: rest) (hW : 2 * g.monitorRoom + (rest.map fun v => v.category).sum ≤ 8) (hdg : decode cc g.pc = .ok (.invokevirtual index, 3)) (hf : cells + mc ≤ R.cells ∧ slots + ms ≤ R.slots) :
    va_Run p l e R s m args below meth c H locs cells slots mc ms g rest (Qc (Value.ref b :: As).toArray) free := by
  obtain ⟨⟨hrc, hrs, hfr, hlo, hws, hcw⟩, hcode, hini, hy, hlen, hl, hin, hse⟩ := cw
  have hK : Back l R p e below s args y 3 8 (PreOf R mc ms Pc) (PostOf Qc mc ms free) := va_backW (hh := hh) (bytes := bytes) (maxL := maxL) (ret := ret) hM hp.1 hrc hrs hfr hlo hws hcw (fun a' U hW => word_at hW (Or.inl (by first | rfl | simp [Cond.onTables, Cond.keeps, Cond.steady])) hini)
  obtain ⟨hx, hb, hml, ho, -⟩ := S
  obtain ⟨-, ⟨cellB, hcB, hoB, hclB⟩, hPc⟩ := hp
  intro T hT X
  obtain ⟨v, vm₁, ⟨U', l2, c2, s2⟩, hW₁, X', ⟨g', mk, t, L, e1, e2, hq, h1, hL, h2, h3⟩, st⟩ := vx_callVW X hx (C := C) (hh := hh) (bytes := bytes) (maxL := maxL) (ret := ret) ho hl hin hse hcode hy hK (by rw [hT]; exact hcB) hoB hclB hg (hsize.trans hml.symm) (argsL := As) (rest := rest) (fun sig h => hn.trans (hlen sig h)) hstack hW (by rw [hb]; exact hdg)
    (fun vm₁ hW₁ => ⟨hf.1, hf.2, hPc (T.setVm vm₁) hT hW₁⟩)
  dsimp only [Pt.U, Pt.locs, Pt.cells, Pt.slots] at X' e1 e2 h1 h2 h3 st
  subst h1; subst h2; subst h3
  exact ⟨v, (T.setVm vm₁).calling g' mk (Value.ref b :: As).toArray, t, U', L, hT, X', hL, e1, e2, hq, st⟩
section
variable {y : MethodName} {bytes cc : ByteArray} {maxL nL mc ms n index : Nat} {ret : Option FieldType} {ws : List Cond} {rm : Room} {Pc : Array Value → State → Prop} {Qc : Array Value → State → Outcome → State → Prop} {XC : String → State → State → Prop} {free : Addr → Prop} {Ts : List Cond} {own C : String} {b : Addr} {As rest : List Value} {g : JFrame}
theorem vx_runVX {hh : List (Nat × Nat × Nat × Nat)} (S : CallFix p m c cc nL s args Ts own) (hM : vx_Met l y ws rm Pc Qc XC mc ms free) (cw : vx_CVW R s args own C index y bytes maxL ret hh ws rm mc ms n) (hp : PreV s H C b Pc As)
    (hg : g.method = m) (hn : As.length = n) (hsize : g.locals.size = nL) (hstack : g.stack = As.reverse ++ .ref b :: rest) (hW : 2 * g.monitorRoom + (rest.map fun v => v.category).sum ≤ 8) (hdg : decode cc g.pc = .ok (.invokevirtual index, 3)) (hf : cells + mc ≤ R.cells ∧ slots + ms ≤ R.slots) :
    vx_Run p l e R s m args below meth c H locs cells slots mc ms g rest (Qc (Value.ref b :: As).toArray) XC free := by
  obtain ⟨⟨hrc, hrs, hfr, hlo, hws, hcw⟩, hcode, hini, hy, hlen, hl, hin, hse⟩ := cw
  have hK : vx_Back l R p e below s args y 3 8 (PreOf R mc ms Pc) (PostOf Qc mc ms free) (vx_Post XC mc ms free) := vx_backW (hh := hh) (bytes := bytes) (maxL := maxL) (ret := ret) hM hp.1 hrc hrs hfr hlo hws hcw (fun a' U hW => word_at hW (Or.inl (by first | rfl | simp [Cond.onTables, Cond.keeps, Cond.steady])) hini)
  obtain ⟨hx, hb, hml, ho, -⟩ := S
  obtain ⟨-, ⟨cellB, hcB, hoB, hclB⟩, hPc⟩ := hp
  intro T hT X
  rcases vx_callVX X hx (C := C) (hh := hh) (bytes := bytes) (maxL := maxL) (ret := ret) ho hl hin hse hcode hy hK (by rw [hT]; exact hcB) hoB hclB hg (hsize.trans hml.symm) (argsL := As) (rest := rest) (fun sig h => hn.trans (hlen sig h)) hstack hW (by rw [hb]; exact hdg)
    (fun vm₁ hW₁ => ⟨hf.1, hf.2, hPc (T.setVm vm₁) hT hW₁⟩) with ⟨v, vm₁, ⟨U', l2, c2, s2⟩, hW₁, X', ⟨g', mk, t, L, e1, e2, hq, h1, hL, h2, h3⟩, st⟩ | ⟨q, vm₁, ⟨U', l2, c2, s2⟩, hW₁, X', ⟨g', mk, t, L, E, ce, e1, e2, hq, hce, hcv, hcl, h1, hL, h2, h3⟩, st⟩
  · dsimp only [Pt.U, Pt.locs, Pt.cells, Pt.slots] at X' e1 e2 h1 h2 h3 st
    subst h1; subst h2; subst h3
    exact Or.inl ⟨v, (T.setVm vm₁).calling g' mk (Value.ref b :: As).toArray, t, U', L, hT, X', hL, e1, e2, hq, st⟩
  · dsimp only [Pt.U, Pt.locs, Pt.cells, Pt.slots] at X' e1 e2 h1 h2 h3 st hcl
    subst h1; subst h2; subst h3
    exact Or.inr ⟨q, (T.setVm vm₁).calling g' mk (Value.ref b :: As).toArray, t, U', L, E, ce, hT, X', hL, e1, e2, hq, hce, hcv, vx_cls hW₁ hcl, st⟩
theorem vx_runSX {hh : List (Nat × Nat × Nat × Nat)} (S : CallFix p m c cc nL s args Ts own) (hM : vx_Met l y ws rm Pc Qc XC mc ms free) (cw : vx_CSW R s args own index y bytes maxL ret hh ws rm mc ms n) (hp : PreS s H Pc As)
    (hg : g.method = m) (hn : As.length = n) (hsize : g.locals.size = nL) (hstack : g.stack = As.reverse ++ rest) (hW : 2 * g.monitorRoom + (rest.map fun v => v.category).sum ≤ 8) (hdg : decode cc g.pc = .ok (.invokestatic index, 3)) (hf : cells + mc ≤ R.cells ∧ slots + ms ≤ R.slots) :
    vx_Run p l e R s m args below meth c H locs cells slots mc ms g rest (Qc As.toArray) XC free := by
  obtain ⟨⟨hrc, hrs, hfr, hlo, hws, hcw⟩, hcode, hini, hy, hlen, hl, hstt⟩ := cw
  have hK : vx_Back l R p e below s args y 3 8 (PreOf R mc ms Pc) (PostOf Qc mc ms free) (vx_Post XC mc ms free) := vx_backW (hh := hh) (bytes := bytes) (maxL := maxL) (ret := ret) hM hp.1 hrc hrs hfr hlo hws hcw (fun a' U hW => word_at hW (Or.inl (by first | rfl | simp [Cond.onTables, Cond.keeps, Cond.steady])) hini)
  obtain ⟨hx, hb, hml, ho, -⟩ := S
  intro T hT X
  rcases vx_callSX X hx (hh := hh) (bytes := bytes) (maxL := maxL) (ret := ret) ho hl hstt hini hcode hy hK hg (hsize.trans hml.symm) (argsL := As) (rest := rest) (fun sig h => hn.trans (hlen sig h)) hstack hW (by rw [hb]; exact hdg)
    (fun vm₁ hW₁ => ⟨hf.1, hf.2, hp.2 (T.setVm vm₁) hT hW₁⟩) with ⟨v, vm₁, ⟨U', l2, c2, s2⟩, hW₁, X', ⟨g', mk, t, L, e1, e2, hq, h1, hL, h2, h3⟩, st⟩ | ⟨q, vm₁, ⟨U', l2, c2, s2⟩, hW₁, X', ⟨g', mk, t, L, E, ce, e1, e2, hq, hce, hcv, hcl, h1, hL, h2, h3⟩, st⟩
  · dsimp only [Pt.U, Pt.locs, Pt.cells, Pt.slots] at X' e1 e2 h1 h2 h3 st
    subst h1; subst h2; subst h3
    exact Or.inl ⟨v, (T.setVm vm₁).calling g' mk As.toArray, t, U', L, hT, X', hL, e1, e2, hq, st⟩
  · dsimp only [Pt.U, Pt.locs, Pt.cells, Pt.slots] at X' e1 e2 h1 h2 h3 st hcl
    subst h1; subst h2; subst h3
    exact Or.inr ⟨q, (T.setVm vm₁).calling g' mk As.toArray, t, U', L, E, ce, hT, X', hL, e1, e2, hq, hce, hcv, vx_cls hW₁ hcl, st⟩
end
end VXH
theorem vx_ofWH {l : Launch} {y : MethodName} {ws ws' : List Cond} {rm : Room} {Pc : Array Value → State → Prop} {Qc : Array Value → State → Outcome → State → Prop} {XC : String → State → State → Prop} {mc ms : Nat} {free : Addr → Prop} {cc : ByteArray} {maxL : Nat} {ret : Option FieldType} {hh : List (Nat × Nat × Nat × Nat)}
    (hy : plainName y.cls = true) (hw : ws = Cond.codeWith y cc maxL ret hh :: ws')
    (body : ∀ p e s m args below meth c s₁, BodyLoose p l y (headSpec ws rm) cc maxL ret e s m args below meth c s₁ → c.maxLocals = maxL → Pc args s →
      W p l e (headSpec ws rm).room s m args below meth c s.heap [] 0 0 (vx_MQ below Qc XC args s mc ms free) (entryFrame m args maxL)) : vx_Met l y ws rm Pc Qc XC mc ms free := by
  refine MetFree.of_bodyS (code := cc) (maxLocals := maxL) (ret := ret) hy ?_ ?_
  · intro args s m h hn
    obtain ⟨m9, meth, c, hn9, h1, h2, h3, h4, -, h5, h6, -⟩ := Cond.codeWith_spec (atoms_spec (ws := ws) h _ (by rw [hw]; exact List.mem_cons_self))
    cases hn.symm.trans hn9
    exact ⟨meth, c, h1, h2, h3, h4, h5, h6⟩
  · intro p e s m args below meth c s₁ B hml hP _
    have hh0 : s₁.heap = s.heap := by rw [B.state]; rfl
    obtain ⟨t, a1, o, b1, b2, b3⟩ := body p e s m args below meth c s₁ B hml hP s₁ hh0 (Stand.of_body B)
    exact ⟨t, o, a1, b1, b2, b3⟩
/-! ===== END ===== -/
end
section
def RX0 : String := "ReliefPasses$Tool"
def RX1 : String := "ReliefPasses$Track"
def RX2 : String := "ReliefPasses"
def RX3 : String := "ReliefPassesModel"
def RL : String := "ReliefPassesLaw"
def RJ7 : String := "java/util/Arrays"
def TX0 : u_T := fun k => match k with
  | 0 => ("ReliefPasses$Tool", "kind", "I", false)
  | 1 => ("ReliefPasses$Tool", "radius", "I", false)
  | _ => ("ReliefPasses$Tool", "depths", "[I", true)
def tyX0 : Nat → FieldType := fun k => match k with
  | 0 => .int
  | 1 => .int
  | _ => .array .int
theorem nmX0 : ∀ a, a < 3 → ∀ b, b < 3 → a ≠ b → (TX0 a).2.1 ≠ (TX0 b).2.1 := by decide +kernel
theorem tyX0_ok : ∀ k, k < 3 → parseFieldDescriptor (TX0 k).2.2.1 = some (tyX0 k) := by decide +kernel
def TX1 : u_T := fun k => match k with
  | 0 => ("ReliefPasses$Track", "kept", "[I", true)
  | 1 => ("ReliefPasses$Track", "count", "I", false)
  | 2 => ("ReliefPasses$Track", "length", "J", false)
  | 3 => ("ReliefPasses$Track", "lastX", "I", false)
  | 4 => ("ReliefPasses$Track", "lastY", "I", false)
  | _ => ("ReliefPasses$Track", "lastZ", "I", false)
def tyX1 : Nat → FieldType := fun k => match k with
  | 0 => .array .int
  | 1 => .int
  | 2 => .long
  | 3 => .int
  | 4 => .int
  | _ => .int
theorem nmX1 : ∀ a, a < 6 → ∀ b, b < 6 → a ≠ b → (TX1 a).2.1 ≠ (TX1 b).2.1 := by decide +kernel
theorem tyX1_ok : ∀ k, k < 6 → parseFieldDescriptor (TX1 k).2.2.1 = some (tyX1 k) := by decide +kernel
def TX2 : u_T := fun k => match k with
  | 0 => ("ReliefPasses", "width", "I", true)
  | 1 => ("ReliefPasses", "height", "I", true)
  | 2 => ("ReliefPasses", "wantedHeights", "[I", true)
  | 3 => ("ReliefPasses", "madeHeights", "[I", true)
  | 4 => ("ReliefPasses", "keptHeights", "[I", true)
  | 5 => ("ReliefPasses", "lifts", "[I", true)
  | 6 => ("ReliefPasses", "tools", "[LReliefPasses$Tool;", true)
  | 7 => ("ReliefPasses", "track", "LReliefPasses$Track;", true)
  | 8 => ("ReliefPasses", "hasKept", "Z", false)
  | _ => ("ReliefPasses", "stockHeight", "I", false)
def tyX2 : Nat → FieldType := fun k => match k with
  | 0 => .int
  | 1 => .int
  | 2 => .array .int
  | 3 => .array .int
  | 4 => .array .int
  | 5 => .array .int
  | 6 => .array (.object "ReliefPasses$Tool")
  | 7 => .object "ReliefPasses$Track"
  | 8 => .boolean
  | _ => .int
theorem nmX2 : ∀ a, a < 10 → ∀ b, b < 10 → a ≠ b → (TX2 a).2.1 ≠ (TX2 b).2.1 := by decide +kernel
theorem tyX2_ok : ∀ k, k < 10 → parseFieldDescriptor (TX2 k).2.2.1 = some (tyX2 k) := by decide +kernel
def TX3 : u_T := fun k => match k with
  | 0 => ("ReliefPassesModel", "code", "I", false)
  | 1 => ("ReliefPassesModel", "wide", "I", true)
  | 2 => ("ReliefPassesModel", "high", "I", true)
  | 3 => ("ReliefPassesModel", "wanted", "[I", true)
  | 4 => ("ReliefPassesModel", "made", "[I", true)
  | 5 => ("ReliefPassesModel", "kept", "[I", true)
  | 6 => ("ReliefPassesModel", "isKept", "Z", false)
  | 7 => ("ReliefPassesModel", "stock", "I", false)
  | 8 => ("ReliefPassesModel", "kinds", "[I", true)
  | 9 => ("ReliefPassesModel", "radii", "[I", true)
  | 10 => ("ReliefPassesModel", "tips", "[I", true)
  | 11 => ("ReliefPassesModel", "lifts", "[I", true)
  | 12 => ("ReliefPassesModel", "moves", "I", false)
  | 13 => ("ReliefPassesModel", "movesAt", "[I", true)
  | 14 => ("ReliefPassesModel", "way", "J", false)
  | 15 => ("ReliefPassesModel", "lastX", "I", false)
  | 16 => ("ReliefPassesModel", "lastY", "I", false)
  | _ => ("ReliefPassesModel", "lastZ", "I", false)
def tyX3 : Nat → FieldType := fun k => match k with
  | 0 => .int
  | 1 => .int
  | 2 => .int
  | 3 => .array .int
  | 4 => .array .int
  | 5 => .array .int
  | 6 => .boolean
  | 7 => .int
  | 8 => .array .int
  | 9 => .array .int
  | 10 => .array .int
  | 11 => .array .int
  | 12 => .int
  | 13 => .array .int
  | 14 => .long
  | 15 => .int
  | 16 => .int
  | _ => .int
theorem nmX3 : ∀ a, a < 18 → ∀ b, b < 18 → a ≠ b → (TX3 a).2.1 ≠ (TX3 b).2.1 := by decide +kernel
theorem tyX3_ok : ∀ k, k < 18 → parseFieldDescriptor (TX3 k).2.2.1 = some (tyX3 k) := by decide +kernel
abbrev cX2_init : ByteArray := prog_1_method_1_code
def yX2_init : MethodName := ⟨RX2, "<init>", "(II)V"⟩
abbrev cX2_nearest : ByteArray := prog_1_method_22_code
def yX2_nearest : MethodName := ⟨RX2, "nearest", "(III)I"⟩
abbrev cX0_init : ByteArray := prog_2_method_1_code
def yX0_init : MethodName := ⟨RX0, "<init>", "()V"⟩
abbrev cX1_init : ByteArray := prog_3_method_1_code
def yX1_init : MethodName := ⟨RX1, "<init>", "()V"⟩
abbrev cJ7_fill : ByteArray := prog_15_method_103_code
def yJ7_fill : MethodName := ⟨RJ7, "fill", "([II)V"⟩
abbrev cX2_below : ByteArray := prog_1_method_10_code
def yX2_below : MethodName := ⟨RX2, "below", "()Z"⟩
abbrev cX2_leftAt : ByteArray := prog_1_method_24_code
def yX2_leftAt : MethodName := ⟨RX2, "leftAt", "(I)I"⟩
abbrev cX2_sum : ByteArray := prog_1_method_12_code
def yX2_sum : MethodName := ⟨RX2, "sum", "()J"⟩
abbrev cX2_moves : ByteArray := prog_1_method_13_code
def yX2_moves : MethodName := ⟨RX2, "moves", "()I"⟩
abbrev cX2_way : ByteArray := prog_1_method_15_code
def yX2_way : MethodName := ⟨RX2, "way", "()J"⟩
abbrev cL_cell : ByteArray := method_2_code
def yL_cell : MethodName := ⟨RL, "cell", "([II)I"⟩
abbrev cL_put : ByteArray := method_3_code
def yL_put : MethodName := ⟨RL, "put", "(LReliefPasses;III[J)I"⟩
abbrev cX2_put : ByteArray := prog_1_method_2_code
def yX2_put : MethodName := ⟨RX2, "put", "(III)Z"⟩
abbrev cX2_needPlace : ByteArray := prog_1_method_18_code
def yX2_needPlace : MethodName := ⟨RX2, "needPlace", "(II)V"⟩
abbrev cX2_isWithin : ByteArray := prog_1_method_21_code
def yX2_isWithin : MethodName := ⟨RX2, "isWithin", "(III)Z"⟩
abbrev cX2_needWithin : ByteArray := prog_1_method_20_code
def yX2_needWithin : MethodName := ⟨RX2, "needWithin", "(III)V"⟩
abbrev cX2_placeAt : ByteArray := prog_1_method_23_code
def yX2_placeAt : MethodName := ⟨RX2, "placeAt", "(II)I"⟩
abbrev cX2_setWanted : ByteArray := prog_1_method_25_code
def yX2_setWanted : MethodName := ⟨RX2, "setWanted", "(II)Z"⟩
abbrev cL_tool : ByteArray := method_4_code
def yL_tool : MethodName := ⟨RL, "tool", "(LReliefPasses;III[J)I"⟩
abbrev cX2_tool : ByteArray := prog_1_method_3_code
def yX2_tool : MethodName := ⟨RX2, "tool", "(III)Z"⟩
abbrev cX2_needTool : ByteArray := prog_1_method_19_code
def yX2_needTool : MethodName := ⟨RX2, "needTool", "(I)V"⟩
abbrev cX0_become : ByteArray := prog_2_method_2_code
def yX0_become : MethodName := ⟨RX0, "become", "(II)Z"⟩
abbrev cX0_cellOf : ByteArray := prog_2_method_4_code
def yX0_cellOf : MethodName := ⟨RX0, "cellOf", "(II)I"⟩
abbrev cX0_depthAtSquare : ByteArray := prog_2_method_5_code
def yX0_depthAtSquare : MethodName := ⟨RX0, "depthAtSquare", "(I)I"⟩
abbrev cX0_floorRoot : ByteArray := prog_2_method_6_code
def yX0_floorRoot : MethodName := ⟨RX0, "floorRoot", "(I)I"⟩
abbrev cX0_ceilRoot : ByteArray := prog_2_method_7_code
def yX0_ceilRoot : MethodName := ⟨RX0, "ceilRoot", "(I)I"⟩
abbrev cL_stock : ByteArray := method_5_code
def yL_stock : MethodName := ⟨RL, "stock", "(LReliefPasses;I[J)I"⟩
abbrev cX2_stock : ByteArray := prog_1_method_4_code
def yX2_stock : MethodName := ⟨RX2, "stock", "(I)I"⟩
abbrev cX2_greatestWanted : ByteArray := prog_1_method_26_code
def yX2_greatestWanted : MethodName := ⟨RX2, "greatestWanted", "()I"⟩
abbrev cL_lift : ByteArray := method_6_code
def yL_lift : MethodName := ⟨RL, "lift", "(LReliefPasses;III[J)I"⟩
abbrev cX2_lift : ByteArray := prog_1_method_5_code
def yX2_lift : MethodName := ⟨RX2, "lift", "(III)I"⟩
abbrev cX2_liftOver : ByteArray := prog_1_method_28_code
def yX2_liftOver : MethodName := ⟨RX2, "liftOver", "(LReliefPasses$Tool;II)I"⟩
abbrev cX0_depthOver : ByteArray := prog_2_method_3_code
def yX0_depthOver : MethodName := ⟨RX0, "depthOver", "(II)I"⟩
abbrev cL_profile : ByteArray := method_7_code
def yL_profile : MethodName := ⟨RL, "profile", "(LReliefPasses;III[J)I"⟩
abbrev cX2_profile : ByteArray := prog_1_method_6_code
def yX2_profile : MethodName := ⟨RX2, "profile", "(III)I"⟩
abbrev cL_rough : ByteArray := method_8_code
def yL_rough : MethodName := ⟨RL, "rough", "(LReliefPasses;III[J)I"⟩
abbrev cX2_rough : ByteArray := prog_1_method_7_code
def yX2_rough : MethodName := ⟨RX2, "rough", "(III)I"⟩
abbrev cX1_clear : ByteArray := prog_3_method_2_code
def yX1_clear : MethodName := ⟨RX1, "clear", "()V"⟩
abbrev cX2_findLifts : ByteArray := prog_1_method_30_code
def yX2_findLifts : MethodName := ⟨RX2, "findLifts", "(LReliefPasses$Tool;)V"⟩
abbrev cX2_goAlongLevel : ByteArray := prog_1_method_31_code
def yX2_goAlongLevel : MethodName := ⟨RX2, "goAlongLevel", "(LReliefPasses$Tool;III)Z"⟩
abbrev cX1_add : ByteArray := prog_3_method_3_code
def yX1_add : MethodName := ⟨RX1, "add", "(III)V"⟩
abbrev cX2_carve : ByteArray := prog_1_method_29_code
def yX2_carve : MethodName := ⟨RX2, "carve", "(LReliefPasses$Tool;III)V"⟩
abbrev cL_fine : ByteArray := method_9_code
def yL_fine : MethodName := ⟨RL, "fine", "(LReliefPasses;II[J)I"⟩
abbrev cX2_fine : ByteArray := prog_1_method_8_code
def yX2_fine : MethodName := ⟨RX2, "fine", "(II)I"⟩
abbrev cX2_goAlongRow : ByteArray := prog_1_method_32_code
def yX2_goAlongRow : MethodName := ⟨RX2, "goAlongRow", "(LReliefPasses$Tool;IZ)V"⟩
abbrev cL_made : ByteArray := method_10_code
def yL_made : MethodName := ⟨RL, "made", "(LReliefPasses;II[J)I"⟩
abbrev cX2_made : ByteArray := prog_1_method_9_code
def yX2_made : MethodName := ⟨RX2, "made", "(II)I"⟩
abbrev cL_rest : ByteArray := method_11_code
def yL_rest : MethodName := ⟨RL, "rest", "(LReliefPasses;II[J)I"⟩
abbrev cX2_rest : ByteArray := prog_1_method_11_code
def yX2_rest : MethodName := ⟨RX2, "rest", "(II)I"⟩
abbrev cL_move : ByteArray := method_12_code
def yL_move : MethodName := ⟨RL, "move", "(LReliefPasses;II[J)I"⟩
abbrev cX2_move : ByteArray := prog_1_method_14_code
def yX2_move : MethodName := ⟨RX2, "move", "(II)I"⟩
abbrev cX1_holds : ByteArray := prog_3_method_4_code
def yX1_holds : MethodName := ⟨RX1, "holds", "(I)Z"⟩
abbrev cX1_xOf : ByteArray := prog_3_method_5_code
def yX1_xOf : MethodName := ⟨RX1, "xOf", "(I)I"⟩
abbrev cX1_yOf : ByteArray := prog_3_method_6_code
def yX1_yOf : MethodName := ⟨RX1, "yOf", "(I)I"⟩
abbrev cX1_zOf : ByteArray := prog_3_method_7_code
def yX1_zOf : MethodName := ⟨RX1, "zOf", "(I)I"⟩
abbrev cL_repeat : ByteArray := method_13_code
def yL_repeat : MethodName := ⟨RL, "repeat", "(LReliefPasses;II[J)I"⟩
abbrev cX2_repeat : ByteArray := prog_1_method_16_code
def yX2_repeat : MethodName := ⟨RX2, "repeat", "(II)I"⟩
abbrev cL_merge : ByteArray := method_14_code
def yL_merge : MethodName := ⟨RL, "merge", "(LReliefPasses;II[J)I"⟩
abbrev cX2_merge : ByteArray := prog_1_method_17_code
def yX2_merge : MethodName := ⟨RX2, "merge", "(II)I"⟩
abbrev cX2_merged : ByteArray := prog_1_method_27_code
def yX2_merged : MethodName := ⟨RX2, "merged", "(IIII)I"⟩
abbrev cX3_init : ByteArray := prog_5_method_1_code
def yX3_init : MethodName := ⟨RX3, "<init>", "(II)V"⟩
abbrev cX3_nearest : ByteArray := prog_5_method_2_code
def yX3_nearest : MethodName := ⟨RX3, "nearest", "(I)I"⟩
abbrev cX3_thrown : ByteArray := prog_5_method_3_code
def yX3_thrown : MethodName := ⟨RX3, "thrown", "()I"⟩
abbrev cX3_put : ByteArray := prog_5_method_6_code
def yX3_put : MethodName := ⟨RX3, "put", "(III)Z"⟩
abbrev cX3_isPlace : ByteArray := prog_5_method_5_code
def yX3_isPlace : MethodName := ⟨RX3, "isPlace", "(II)Z"⟩
abbrev cX3_isIn : ByteArray := prog_5_method_4_code
def yX3_isIn : MethodName := ⟨RX3, "isIn", "(III)Z"⟩
abbrev cX3_tool : ByteArray := prog_5_method_7_code
def yX3_tool : MethodName := ⟨RX3, "tool", "(III)Z"⟩
abbrev cX3_stock : ByteArray := prog_5_method_9_code
def yX3_stock : MethodName := ⟨RX3, "stock", "(I)I"⟩
abbrev cX3_greatest : ByteArray := prog_5_method_8_code
def yX3_greatest : MethodName := ⟨RX3, "greatest", "()I"⟩
abbrev cX3_profile : ByteArray := prog_5_method_11_code
def yX3_profile : MethodName := ⟨RX3, "profile", "(III)I"⟩
abbrev cX3_profileOf : ByteArray := prog_5_method_10_code
def yX3_profileOf : MethodName := ⟨RX3, "profileOf", "(III)I"⟩
abbrev cX3_lift : ByteArray := prog_5_method_13_code
def yX3_lift : MethodName := ⟨RX3, "lift", "(III)I"⟩
abbrev cX3_liftOf : ByteArray := prog_5_method_12_code
def yX3_liftOf : MethodName := ⟨RX3, "liftOf", "(III)I"⟩
abbrev cX3_rough : ByteArray := prog_5_method_19_code
def yX3_rough : MethodName := ⟨RX3, "rough", "(III)I"⟩
abbrev cX3_begin : ByteArray := prog_5_method_15_code
def yX3_begin : MethodName := ⟨RX3, "begin", "()V"⟩
abbrev cX3_noTips : ByteArray := prog_5_method_17_code
def yX3_noTips : MethodName := ⟨RX3, "noTips", "()V"⟩
abbrev cX3_move3 : ByteArray := prog_5_method_16_code
def yX3_move3 : MethodName := ⟨RX3, "move", "(III)V"⟩
abbrev cX3_size : ByteArray := prog_5_method_14_code
def yX3_size : MethodName := ⟨RX3, "size", "(I)I"⟩
abbrev cX3_carve : ByteArray := prog_5_method_18_code
def yX3_carve : MethodName := ⟨RX3, "carve", "(I)V"⟩
abbrev cX3_fine : ByteArray := prog_5_method_20_code
def yX3_fine : MethodName := ⟨RX3, "fine", "(II)I"⟩
abbrev cX3_made : ByteArray := prog_5_method_21_code
def yX3_made : MethodName := ⟨RX3, "made", "(II)I"⟩
abbrev cX3_below : ByteArray := prog_5_method_23_code
def yX3_below : MethodName := ⟨RX3, "below", "()Z"⟩
abbrev cX3_leftAt : ByteArray := prog_5_method_22_code
def yX3_leftAt : MethodName := ⟨RX3, "leftAt", "(I)I"⟩
abbrev cX3_rest : ByteArray := prog_5_method_24_code
def yX3_rest : MethodName := ⟨RX3, "rest", "(II)I"⟩
abbrev cX3_sum : ByteArray := prog_5_method_25_code
def yX3_sum : MethodName := ⟨RX3, "sum", "()J"⟩
abbrev cX3_moves : ByteArray := prog_5_method_26_code
def yX3_moves : MethodName := ⟨RX3, "moves", "()I"⟩
abbrev cX3_move : ByteArray := prog_5_method_27_code
def yX3_move : MethodName := ⟨RX3, "move", "(II)I"⟩
abbrev cX3_way : ByteArray := prog_5_method_28_code
def yX3_way : MethodName := ⟨RX3, "way", "()J"⟩
abbrev cX3_repeat : ByteArray := prog_5_method_29_code
def yX3_repeat : MethodName := ⟨RX3, "repeat", "(II)I"⟩
abbrev cX3_merge : ByteArray := prog_5_method_30_code
def yX3_merge : MethodName := ⟨RX3, "merge", "(II)I"⟩
abbrev cL_law : ByteArray := code
def yL_law : MethodName := ⟨RL, "law", "([I)Z"⟩
abbrev vwCl : List vw_C := [(RX0, TX0, 3), (RX1, TX1, 6), (RX2, TX2, 10), (RX3, TX3, 18)]
def wA0 : List Cond := [Cond.initialized "java/lang/Throwable", Cond.initialized "java/lang/Exception", Cond.initialized "java/lang/RuntimeException", Cond.initialized "java/lang/IndexOutOfBoundsException", Cond.initialized "java/lang/IllegalArgumentException", Cond.initialized "java/lang/IllegalStateException", Cond.methodLink RX2 1 objectInit, Cond.instanceMethod objectInit, Cond.code objectInit object_method_1_code 1 none, Cond.methodLink RX0 3 objectInit, Cond.superclass RX0 "java/lang/Object", Cond.methodLink RX1 3 objectInit, Cond.superclass RX1 "java/lang/Object", Cond.superclass RX2 "java/lang/Object", Cond.classLink RL 13 "java/lang/IndexOutOfBoundsException", Cond.classLink RL 15 "java/lang/IllegalArgumentException", Cond.classLink RX2 135 "java/lang/IndexOutOfBoundsException", Cond.instantiable "java/lang/IndexOutOfBoundsException" 6, Cond.selects "java/lang/IndexOutOfBoundsException" ⟨"java/lang/Throwable", "fillInStackTrace", "(I)Ljava/lang/Throwable;"⟩ ⟨"java/lang/Throwable", "fillInStackTrace", "(I)Ljava/lang/Throwable;"⟩, Cond.selects "java/lang/IndexOutOfBoundsException" ⟨"java/lang/Throwable", "fillInStackTrace", "()Ljava/lang/Throwable;"⟩ ⟨"java/lang/Throwable", "fillInStackTrace", "()Ljava/lang/Throwable;"⟩]
def wA1 : List Cond := [Cond.lays "java/lang/IndexOutOfBoundsException" "java/lang/Throwable" "cause" "Ljava/lang/Throwable;", Cond.lays "java/lang/Throwable" "java/lang/Throwable" "cause" "Ljava/lang/Throwable;", Cond.lays "java/lang/IndexOutOfBoundsException" "java/lang/Throwable" "stackTrace" "[Ljava/lang/StackTraceElement;", Cond.lays "java/lang/Throwable" "java/lang/Throwable" "stackTrace" "[Ljava/lang/StackTraceElement;", Cond.lays "java/lang/IndexOutOfBoundsException" "java/lang/Throwable" "suppressedExceptions" "Ljava/util/List;", Cond.lays "java/lang/Throwable" "java/lang/Throwable" "suppressedExceptions" "Ljava/util/List;", Cond.lays "java/lang/IndexOutOfBoundsException" "java/lang/Throwable" "detailMessage" "Ljava/lang/String;", Cond.lays "java/lang/Throwable" "java/lang/Throwable" "detailMessage" "Ljava/lang/String;", Cond.lays "java/lang/IndexOutOfBoundsException" "java/lang/Throwable" "backtrace" "Ljava/lang/Object;", Cond.lays "java/lang/Throwable" "java/lang/Throwable" "backtrace" "Ljava/lang/Object;", Cond.fieldLink "java/lang/Throwable" 198 "java/lang/Throwable" "backtrace" "Ljava/lang/Object;", Cond.superclass "java/lang/Throwable" "java/lang/Object", Cond.instanceMethod ⟨"java/lang/Throwable", "<init>", "()V"⟩, Cond.code ⟨"java/lang/Throwable", "<init>", "()V"⟩ prog_14_method_1_code 1 none, Cond.methodLink "java/lang/Throwable" 1 objectInit, Cond.fieldLink "java/lang/Throwable" 13 "java/lang/Throwable" "UNASSIGNED_STACK" "[Ljava/lang/StackTraceElement;", Cond.fieldLink "java/lang/Throwable" 20 "java/lang/Throwable" "SUPPRESSED_SENTINEL" "Ljava/util/List;", Cond.methodLink "java/lang/Throwable" 27 ⟨"java/lang/Throwable", "fillInStackTrace", "()Ljava/lang/Throwable;"⟩, Cond.instanceMethod ⟨"java/lang/Throwable", "fillInStackTrace", "()Ljava/lang/Throwable;"⟩, Cond.sameMethod "java/lang/Throwable" "java/lang/Throwable" "fillInStackTrace" "()Ljava/lang/Throwable;"]
def wA2 : List Cond := [Cond.selects "java/lang/IllegalArgumentException" ⟨"java/lang/Throwable", "fillInStackTrace", "()Ljava/lang/Throwable;"⟩ ⟨"java/lang/Throwable", "fillInStackTrace", "()Ljava/lang/Throwable;"⟩, Cond.selects "java/lang/IllegalStateException" ⟨"java/lang/Throwable", "fillInStackTrace", "()Ljava/lang/Throwable;"⟩ ⟨"java/lang/Throwable", "fillInStackTrace", "()Ljava/lang/Throwable;"⟩, Cond.codeSync ⟨"java/lang/Throwable", "fillInStackTrace", "()Ljava/lang/Throwable;"⟩ prog_14_method_18_code 1 (some (.object "java/lang/Throwable")), Cond.methodLink "java/lang/Throwable" 202 ⟨"java/lang/Throwable", "fillInStackTrace", "(I)Ljava/lang/Throwable;"⟩, Cond.instanceMethod ⟨"java/lang/Throwable", "fillInStackTrace", "(I)Ljava/lang/Throwable;"⟩, Cond.instantiable "java/lang/Throwable" 6, Cond.native ⟨"java/lang/Throwable", "fillInStackTrace", "(I)Ljava/lang/Throwable;"⟩, Cond.methodLink RX2 139 ⟨"java/lang/IndexOutOfBoundsException", "<init>", "(Ljava/lang/String;)V"⟩, Cond.instanceMethod ⟨"java/lang/IndexOutOfBoundsException", "<init>", "(Ljava/lang/String;)V"⟩, Cond.code ⟨"java/lang/IndexOutOfBoundsException", "<init>", "(Ljava/lang/String;)V"⟩ prog_9_method_2_code 2 none, Cond.methodLink "java/lang/IndexOutOfBoundsException" 7 ⟨"java/lang/RuntimeException", "<init>", "(Ljava/lang/String;)V"⟩, Cond.instanceMethod ⟨"java/lang/RuntimeException", "<init>", "(Ljava/lang/String;)V"⟩, Cond.code ⟨"java/lang/RuntimeException", "<init>", "(Ljava/lang/String;)V"⟩ prog_11_method_2_code 2 none, Cond.methodLink "java/lang/RuntimeException" 7 ⟨"java/lang/Exception", "<init>", "(Ljava/lang/String;)V"⟩, Cond.instanceMethod ⟨"java/lang/Exception", "<init>", "(Ljava/lang/String;)V"⟩, Cond.code ⟨"java/lang/Exception", "<init>", "(Ljava/lang/String;)V"⟩ prog_6_method_2_code 2 none, Cond.methodLink "java/lang/Exception" 7 ⟨"java/lang/Throwable", "<init>", "(Ljava/lang/String;)V"⟩, Cond.instanceMethod ⟨"java/lang/Throwable", "<init>", "(Ljava/lang/String;)V"⟩, Cond.code ⟨"java/lang/Throwable", "<init>", "(Ljava/lang/String;)V"⟩ prog_14_method_2_code 2 none, Cond.fieldLink "java/lang/Throwable" 198 "java/lang/Throwable" "backtrace" "Ljava/lang/Object;"]
def wA3 : List Cond := [Cond.fieldLink "java/lang/Throwable" 31 "java/lang/Throwable" "detailMessage" "Ljava/lang/String;", Cond.fieldLink "java/lang/Throwable" 7 "java/lang/Throwable" "cause" "Ljava/lang/Throwable;", Cond.fieldLink "java/lang/Throwable" 17 "java/lang/Throwable" "stackTrace" "[Ljava/lang/StackTraceElement;", Cond.fieldLink "java/lang/Throwable" 24 "java/lang/Throwable" "suppressedExceptions" "Ljava/util/List;", Cond.soleField "java/lang/Throwable" "backtrace", Cond.soleField "java/lang/Throwable" "detailMessage", Cond.soleField "java/lang/Throwable" "cause", Cond.soleField "java/lang/Throwable" "stackTrace", Cond.lays "java/lang/IndexOutOfBoundsException" "java/lang/Throwable" "depth" "I", Cond.soleField "java/lang/Throwable" "depth", Cond.soleField "java/lang/Throwable" "suppressedExceptions", Cond.superclass "java/lang/IndexOutOfBoundsException" "java/lang/RuntimeException", Cond.classLink RX2 173 "java/lang/IllegalArgumentException", Cond.instantiable "java/lang/IllegalArgumentException" 6, Cond.selects "java/lang/IllegalArgumentException" ⟨"java/lang/Throwable", "fillInStackTrace", "(I)Ljava/lang/Throwable;"⟩ ⟨"java/lang/Throwable", "fillInStackTrace", "(I)Ljava/lang/Throwable;"⟩, Cond.lays "java/lang/IllegalArgumentException" "java/lang/Throwable" "cause" "Ljava/lang/Throwable;", Cond.lays "java/lang/IllegalArgumentException" "java/lang/Throwable" "stackTrace" "[Ljava/lang/StackTraceElement;", Cond.lays "java/lang/IllegalArgumentException" "java/lang/Throwable" "suppressedExceptions" "Ljava/util/List;", Cond.lays "java/lang/IllegalArgumentException" "java/lang/Throwable" "detailMessage" "Ljava/lang/String;", Cond.lays "java/lang/IllegalArgumentException" "java/lang/Throwable" "backtrace" "Ljava/lang/Object;"]
def wA4 : List Cond := [Cond.methodLink RX2 177 ⟨"java/lang/IllegalArgumentException", "<init>", "(Ljava/lang/String;)V"⟩, Cond.instanceMethod ⟨"java/lang/IllegalArgumentException", "<init>", "(Ljava/lang/String;)V"⟩, Cond.code ⟨"java/lang/IllegalArgumentException", "<init>", "(Ljava/lang/String;)V"⟩ prog_7_method_2_code 2 none, Cond.methodLink "java/lang/IllegalArgumentException" 7 ⟨"java/lang/RuntimeException", "<init>", "(Ljava/lang/String;)V"⟩, Cond.lays "java/lang/IllegalArgumentException" "java/lang/Throwable" "depth" "I", Cond.superclass "java/lang/IllegalArgumentException" "java/lang/RuntimeException", Cond.classLink RL 24 "java/lang/IllegalStateException", Cond.classLink RX2 87 "java/lang/IllegalStateException", Cond.instantiable "java/lang/IllegalStateException" 6, Cond.selects "java/lang/IllegalStateException" ⟨"java/lang/Throwable", "fillInStackTrace", "(I)Ljava/lang/Throwable;"⟩ ⟨"java/lang/Throwable", "fillInStackTrace", "(I)Ljava/lang/Throwable;"⟩, Cond.lays "java/lang/IllegalStateException" "java/lang/Throwable" "cause" "Ljava/lang/Throwable;", Cond.lays "java/lang/IllegalStateException" "java/lang/Throwable" "stackTrace" "[Ljava/lang/StackTraceElement;", Cond.lays "java/lang/IllegalStateException" "java/lang/Throwable" "suppressedExceptions" "Ljava/util/List;", Cond.lays "java/lang/IllegalStateException" "java/lang/Throwable" "detailMessage" "Ljava/lang/String;", Cond.lays "java/lang/IllegalStateException" "java/lang/Throwable" "backtrace" "Ljava/lang/Object;", Cond.methodLink RX2 91 ⟨"java/lang/IllegalStateException", "<init>", "(Ljava/lang/String;)V"⟩, Cond.instanceMethod ⟨"java/lang/IllegalStateException", "<init>", "(Ljava/lang/String;)V"⟩, Cond.code ⟨"java/lang/IllegalStateException", "<init>", "(Ljava/lang/String;)V"⟩ prog_8_method_2_code 2 none, Cond.methodLink "java/lang/IllegalStateException" 7 ⟨"java/lang/RuntimeException", "<init>", "(Ljava/lang/String;)V"⟩, Cond.lays "java/lang/IllegalStateException" "java/lang/Throwable" "depth" "I"]
def wA5 : List Cond := [Cond.superclass "java/lang/IllegalStateException" "java/lang/RuntimeException", Cond.methodLink RX2 153 ⟨"java/lang/System", "arraycopy", "(Ljava/lang/Object;ILjava/lang/Object;II)V"⟩, Cond.static ⟨"java/lang/System", "arraycopy", "(Ljava/lang/Object;ILjava/lang/Object;II)V"⟩, Cond.native ⟨"java/lang/System", "arraycopy", "(Ljava/lang/Object;ILjava/lang/Object;II)V"⟩, Cond.methodLink RX3 1 objectInit, Cond.superclass RX3 "java/lang/Object", Cond.sameMethod "java/lang/Throwable" "java/lang/Throwable" "fillInStackTrace" "(I)Ljava/lang/Throwable;", Cond.selects "java/lang/Throwable" ⟨"java/lang/Throwable", "fillInStackTrace", "(I)Ljava/lang/Throwable;"⟩ ⟨"java/lang/Throwable", "fillInStackTrace", "(I)Ljava/lang/Throwable;"⟩]
def wA6 : List Cond := [Cond.initialized RL, Cond.initialized RX2, Cond.initialized "java/lang/Math", Cond.initialized RX0, Cond.initialized RX1, Cond.initialized RJ7, Cond.initialized RX3, Cond.initialized "java/lang/System", Cond.classLink RL 8 RX2, Cond.instantiable RX2 10, Cond.methodLink RL 61 yX2_init, Cond.instanceMethod yX2_init, Cond.code yX2_init prog_1_method_1_code 5 none, Cond.methodLink RX2 9 yX2_nearest, Cond.static yX2_nearest, Cond.code yX2_nearest prog_1_method_22_code 3 (some .int), Cond.methodLink RX2 178 ⟨"java/lang/Math", "min", "(II)I"⟩, Cond.static ⟨"java/lang/Math", "min", "(II)I"⟩, Cond.code ⟨"java/lang/Math", "min", "(II)I"⟩ prog_10_method_69_code 2 (some .int), Cond.methodLink RX2 123 ⟨"java/lang/Math", "max", "(II)I"⟩]
def wA7 : List Cond := [Cond.static ⟨"java/lang/Math", "max", "(II)I"⟩, Cond.code ⟨"java/lang/Math", "max", "(II)I"⟩ prog_10_method_65_code 2 (some .int), Cond.classLink RX2 33 RX0, Cond.instantiable RX0 3, Cond.methodLink RX2 39 yX0_init, Cond.instanceMethod yX0_init, Cond.code yX0_init prog_2_method_1_code 1 none, Cond.fieldLink RX0 9 RX0 "kind" "I", Cond.fieldLink RX0 15 RX0 "radius" "I", Cond.fieldLink RX0 18 RX0 "depths" "[I", Cond.lays RX0 RX0 "kind" "I", Cond.soleField RX0 "kind", Cond.lays RX0 RX0 "radius" "I", Cond.soleField RX0 "radius", Cond.laysFinal RX0 RX0 "depths" "[I", Cond.soleField RX0 "depths", Cond.arrayClass .int, Cond.classLink RX2 40 RX1, Cond.instantiable RX1 6, Cond.methodLink RX2 42 yX1_init]
def wA8 : List Cond := [Cond.instanceMethod yX1_init, Cond.code yX1_init prog_3_method_1_code 1 none, Cond.fieldLink RX1 11 RX1 "kept" "[I", Cond.fieldLink RX1 15 RX1 "count" "I", Cond.fieldLink RX1 19 RX1 "length" "J", Cond.fieldLink RX1 23 RX1 "lastX" "I", Cond.fieldLink RX1 26 RX1 "lastY" "I", Cond.fieldLink RX1 29 RX1 "lastZ" "I", Cond.laysFinal RX1 RX1 "kept" "[I", Cond.soleField RX1 "kept", Cond.lays RX1 RX1 "count" "I", Cond.soleField RX1 "count", Cond.lays RX1 RX1 "length" "J", Cond.soleField RX1 "length", Cond.lays RX1 RX1 "lastX" "I", Cond.soleField RX1 "lastX", Cond.lays RX1 RX1 "lastY" "I", Cond.soleField RX1 "lastY", Cond.lays RX1 RX1 "lastZ" "I", Cond.soleField RX1 "lastZ"]
def wA9 : List Cond := [Cond.methodLink RX2 54 yJ7_fill, Cond.static yJ7_fill, Cond.code yJ7_fill prog_15_method_103_code 4 none, Cond.fieldLink RX2 13 RX2 "width" "I", Cond.fieldLink RX2 17 RX2 "height" "I", Cond.fieldLink RX2 20 RX2 "wantedHeights" "[I", Cond.fieldLink RX2 24 RX2 "madeHeights" "[I", Cond.fieldLink RX2 27 RX2 "keptHeights" "[I", Cond.fieldLink RX2 30 RX2 "lifts" "[I", Cond.fieldLink RX2 35 RX2 "tools" "[LReliefPasses$Tool;", Cond.fieldLink RX2 43 RX2 "track" "LReliefPasses$Track;", Cond.fieldLink RX2 47 RX2 "hasKept" "Z", Cond.fieldLink RX2 51 RX2 "stockHeight" "I", Cond.laysFinal RX2 RX2 "width" "I", Cond.soleField RX2 "width", Cond.laysFinal RX2 RX2 "height" "I", Cond.soleField RX2 "height", Cond.laysFinal RX2 RX2 "wantedHeights" "[I", Cond.soleField RX2 "wantedHeights", Cond.laysFinal RX2 RX2 "madeHeights" "[I"]
def wA10 : List Cond := [Cond.soleField RX2 "madeHeights", Cond.laysFinal RX2 RX2 "keptHeights" "[I", Cond.soleField RX2 "keptHeights", Cond.laysFinal RX2 RX2 "lifts" "[I", Cond.soleField RX2 "lifts", Cond.laysFinal RX2 RX2 "tools" "[LReliefPasses$Tool;", Cond.soleField RX2 "tools", Cond.laysFinal RX2 RX2 "track" "LReliefPasses$Track;", Cond.soleField RX2 "track", Cond.lays RX2 RX2 "hasKept" "Z", Cond.soleField RX2 "hasKept", Cond.lays RX2 RX2 "stockHeight" "I", Cond.soleField RX2 "stockHeight", Cond.methodLink RL 98 yX2_below, Cond.instanceMethod yX2_below, Cond.selects RX2 yX2_below yX2_below, Cond.code yX2_below prog_1_method_10_code 2 (some .boolean), Cond.methodLink RX2 116 yX2_leftAt, Cond.instanceMethod yX2_leftAt, Cond.code yX2_leftAt prog_1_method_24_code 2 (some .int)]
def wA11 : List Cond := [Cond.methodLink RL 106 yX2_sum, Cond.instanceMethod yX2_sum, Cond.selects RX2 yX2_sum yX2_sum, Cond.code yX2_sum prog_1_method_12_code 4 (some .long), Cond.methodLink RL 111 yX2_moves, Cond.instanceMethod yX2_moves, Cond.selects RX2 yX2_moves yX2_moves, Cond.code yX2_moves prog_1_method_13_code 1 (some .int), Cond.methodLink RL 118 yX2_way, Cond.instanceMethod yX2_way, Cond.selects RX2 yX2_way yX2_way, Cond.code yX2_way prog_1_method_15_code 1 (some .long), Cond.methodLink RL 55 yL_cell, Cond.static yL_cell, Cond.code yL_cell method_2_code 2 (some .int), Cond.methodLink RL 67 yL_put, Cond.static yL_put, Cond.codeWith yL_put method_3_code 6 (some .int) [(0, 19, 22, 13), (0, 19, 26, 15)], Cond.methodLink RL 7 yX2_put, Cond.instanceMethod yX2_put]
def wA12 : List Cond := [Cond.selects RX2 yX2_put yX2_put, Cond.code yX2_put prog_1_method_2_code 4 (some .boolean), Cond.methodLink RX2 60 yX2_needPlace, Cond.instanceMethod yX2_needPlace, Cond.code yX2_needPlace prog_1_method_18_code 3 none, Cond.methodLink RX2 165 yX2_isWithin, Cond.static yX2_isWithin, Cond.code yX2_isWithin prog_1_method_21_code 3 (some .boolean), Cond.arrayClass .byte, Cond.methodLink RX2 64 yX2_needWithin, Cond.static yX2_needWithin, Cond.code yX2_needWithin prog_1_method_20_code 3 none, Cond.methodLink RX2 68 yX2_placeAt, Cond.instanceMethod yX2_placeAt, Cond.code yX2_placeAt prog_1_method_23_code 3 (some .int), Cond.methodLink RX2 72 yX2_setWanted, Cond.instanceMethod yX2_setWanted, Cond.code yX2_setWanted prog_1_method_25_code 4 (some .boolean), Cond.methodLink RL 75 yL_tool, Cond.static yL_tool]
def wA13 : List Cond := [Cond.codeWith yL_tool method_4_code 6 (some .int) [(0, 19, 22, 13), (0, 19, 26, 15)], Cond.methodLink RL 17 yX2_tool, Cond.instanceMethod yX2_tool, Cond.selects RX2 yX2_tool yX2_tool, Cond.code yX2_tool prog_1_method_3_code 4 (some .boolean), Cond.methodLink RX2 76 yX2_needTool, Cond.static yX2_needTool, Cond.code yX2_needTool prog_1_method_19_code 1 none, Cond.methodLink RX2 80 yX0_become, Cond.instanceMethod yX0_become, Cond.selects RX0 yX0_become yX0_become, Cond.code yX0_become prog_2_method_2_code 6 (some .boolean), Cond.methodLink RX0 22 yX0_cellOf, Cond.static yX0_cellOf, Cond.code yX0_cellOf prog_2_method_4_code 2 (some .int), Cond.methodLink RX0 26 yX0_depthAtSquare, Cond.instanceMethod yX0_depthAtSquare, Cond.code yX0_depthAtSquare prog_2_method_5_code 3 (some .int), Cond.methodLink RX0 34 yX0_floorRoot, Cond.static yX0_floorRoot]
def wA14 : List Cond := [Cond.code yX0_floorRoot prog_2_method_6_code 2 (some .int), Cond.methodLink RX0 37 yX0_ceilRoot, Cond.static yX0_ceilRoot, Cond.code yX0_ceilRoot prog_2_method_7_code 2 (some .int), Cond.methodLink RL 78 yL_stock, Cond.static yL_stock, Cond.codeWith yL_stock method_5_code 4 (some .int) [(0, 9, 12, 15), (0, 9, 15, 24)], Cond.methodLink RL 20 yX2_stock, Cond.instanceMethod yX2_stock, Cond.selects RX2 yX2_stock yX2_stock, Cond.code yX2_stock prog_1_method_4_code 3 (some .int), Cond.methodLink RX2 83 yX2_greatestWanted, Cond.instanceMethod yX2_greatestWanted, Cond.code yX2_greatestWanted prog_1_method_26_code 6 (some .int), Cond.methodLink RL 82 yL_lift, Cond.static yL_lift, Cond.codeWith yL_lift method_6_code 6 (some .int) [(0, 12, 15, 13)], Cond.methodLink RL 26 yX2_lift, Cond.instanceMethod yX2_lift, Cond.selects RX2 yX2_lift yX2_lift]
def wA15 : List Cond := [Cond.code yX2_lift prog_1_method_5_code 4 (some .int), Cond.methodLink RX2 94 yX2_liftOver, Cond.instanceMethod yX2_liftOver, Cond.code yX2_liftOver prog_1_method_28_code 10 (some .int), Cond.methodLink RX2 98 yX0_depthOver, Cond.instanceMethod yX0_depthOver, Cond.selects RX0 yX0_depthOver yX0_depthOver, Cond.code yX0_depthOver prog_2_method_3_code 3 (some .int), Cond.methodLink RL 85 yL_profile, Cond.static yL_profile, Cond.codeWith yL_profile method_7_code 6 (some .int) [(0, 12, 15, 13)], Cond.methodLink RL 30 yX2_profile, Cond.instanceMethod yX2_profile, Cond.selects RX2 yX2_profile yX2_profile, Cond.code yX2_profile prog_1_method_6_code 4 (some .int), Cond.methodLink RL 88 yL_rough, Cond.static yL_rough, Cond.codeWith yL_rough method_8_code 6 (some .int) [(0, 12, 15, 13), (0, 12, 19, 15)], Cond.methodLink RL 33 yX2_rough, Cond.instanceMethod yX2_rough]
def wA16 : List Cond := [Cond.selects RX2 yX2_rough yX2_rough, Cond.code yX2_rough prog_1_method_7_code 6 (some .int), Cond.methodLink RX2 101 yX1_clear, Cond.instanceMethod yX1_clear, Cond.selects RX1 yX1_clear yX1_clear, Cond.code yX1_clear prog_3_method_2_code 1 none, Cond.methodLink RX2 104 yX2_findLifts, Cond.instanceMethod yX2_findLifts, Cond.code yX2_findLifts prog_1_method_30_code 4 none, Cond.methodLink RX2 108 yX2_goAlongLevel, Cond.instanceMethod yX2_goAlongLevel, Cond.code yX2_goAlongLevel prog_1_method_31_code 10 (some .boolean), Cond.methodLink RX2 184 yX1_add, Cond.instanceMethod yX1_add, Cond.selects RX1 yX1_add yX1_add, Cond.code yX1_add prog_3_method_3_code 4 none, Cond.methodLink RX1 32 ⟨"java/lang/Math", "abs", "(I)I"⟩, Cond.static ⟨"java/lang/Math", "abs", "(I)I"⟩, Cond.code ⟨"java/lang/Math", "abs", "(I)I"⟩ prog_10_method_59_code 1 (some .int), Cond.methodLink RX2 187 yX2_carve]
def wA17 : List Cond := [Cond.instanceMethod yX2_carve, Cond.code yX2_carve prog_1_method_29_code 11 none, Cond.methodLink RL 91 yL_fine, Cond.static yL_fine, Cond.codeWith yL_fine method_9_code 5 (some .int) [(0, 10, 13, 13), (0, 10, 17, 15)], Cond.methodLink RL 36 yX2_fine, Cond.instanceMethod yX2_fine, Cond.selects RX2 yX2_fine yX2_fine, Cond.code yX2_fine prog_1_method_8_code 5 (some .int), Cond.methodLink RX2 112 yX2_goAlongRow, Cond.instanceMethod yX2_goAlongRow, Cond.code yX2_goAlongRow prog_1_method_32_code 7 none, Cond.methodLink RL 95 yL_made, Cond.static yL_made, Cond.codeWith yL_made method_10_code 5 (some .int) [(0, 10, 13, 13)], Cond.methodLink RL 40 yX2_made, Cond.instanceMethod yX2_made, Cond.selects RX2 yX2_made yX2_made, Cond.code yX2_made prog_1_method_9_code 3 (some .int), Cond.methodLink RL 103 yL_rest]
def wA18 : List Cond := [Cond.static yL_rest, Cond.codeWith yL_rest method_11_code 5 (some .int) [(0, 10, 13, 15)], Cond.methodLink RL 43 yX2_rest, Cond.instanceMethod yX2_rest, Cond.selects RX2 yX2_rest yX2_rest, Cond.code yX2_rest prog_1_method_11_code 6 (some .int), Cond.constant RX2 122 2147483647, Cond.methodLink RL 115 yL_move, Cond.static yL_move, Cond.codeWith yL_move method_12_code 5 (some .int) [(0, 10, 13, 13), (0, 10, 17, 15)], Cond.methodLink RL 46 yX2_move, Cond.instanceMethod yX2_move, Cond.selects RX2 yX2_move yX2_move, Cond.code yX2_move prog_1_method_14_code 3 (some .int), Cond.methodLink RX2 131 yX1_holds, Cond.instanceMethod yX1_holds, Cond.selects RX1 yX1_holds yX1_holds, Cond.code yX1_holds prog_3_method_4_code 2 (some .boolean), Cond.methodLink RX2 140 yX1_xOf, Cond.instanceMethod yX1_xOf]
def wA19 : List Cond := [Cond.selects RX1 yX1_xOf yX1_xOf, Cond.code yX1_xOf prog_3_method_5_code 2 (some .int), Cond.methodLink RX2 143 yX1_yOf, Cond.instanceMethod yX1_yOf, Cond.selects RX1 yX1_yOf yX1_yOf, Cond.code yX1_yOf prog_3_method_6_code 2 (some .int), Cond.methodLink RX2 146 yX1_zOf, Cond.instanceMethod yX1_zOf, Cond.selects RX1 yX1_zOf yX1_zOf, Cond.code yX1_zOf prog_3_method_7_code 2 (some .int), Cond.methodLink RL 122 yL_repeat, Cond.static yL_repeat, Cond.codeWith yL_repeat method_13_code 5 (some .int) [(0, 10, 13, 15)], Cond.methodLink RL 49 yX2_repeat, Cond.instanceMethod yX2_repeat, Cond.selects RX2 yX2_repeat yX2_repeat, Cond.code yX2_repeat prog_1_method_16_code 6 (some .int), Cond.methodLink RL 125 yL_merge, Cond.static yL_merge, Cond.codeWith yL_merge method_14_code 5 (some .int) [(0, 10, 13, 15), (0, 10, 17, 24)]]
def wA20 : List Cond := [Cond.methodLink RL 52 yX2_merge, Cond.instanceMethod yX2_merge, Cond.selects RX2 yX2_merge yX2_merge, Cond.code yX2_merge prog_1_method_17_code 5 (some .int), Cond.methodLink RX2 161 yX2_merged, Cond.static yX2_merged, Cond.code yX2_merged prog_1_method_27_code 4 (some .int), Cond.classLink RL 64 RX3, Cond.instantiable RX3 18, Cond.methodLink RL 66 yX3_init, Cond.instanceMethod yX3_init, Cond.code yX3_init prog_5_method_1_code 4 none, Cond.methodLink RX3 38 yX3_nearest, Cond.static yX3_nearest, Cond.code yX3_nearest prog_5_method_2_code 1 (some .int), Cond.fieldLink RX3 48 RX3 "code" "I", Cond.fieldLink RX3 42 RX3 "wide" "I", Cond.fieldLink RX3 45 RX3 "high" "I", Cond.fieldLink RX3 7 RX3 "wanted" "[I", Cond.fieldLink RX3 13 RX3 "made" "[I"]
def wA21 : List Cond := [Cond.fieldLink RX3 16 RX3 "kept" "[I", Cond.fieldLink RX3 106 RX3 "isKept" "Z", Cond.fieldLink RX3 19 RX3 "stock" "I", Cond.fieldLink RX3 23 RX3 "kinds" "[I", Cond.fieldLink RX3 26 RX3 "radii" "[I", Cond.fieldLink RX3 29 RX3 "tips" "[I", Cond.fieldLink RX3 32 RX3 "lifts" "[I", Cond.fieldLink RX3 70 RX3 "moves" "I", Cond.fieldLink RX3 35 RX3 "movesAt" "[I", Cond.fieldLink RX3 73 RX3 "way" "J", Cond.fieldLink RX3 77 RX3 "lastX" "I", Cond.fieldLink RX3 83 RX3 "lastY" "I", Cond.fieldLink RX3 86 RX3 "lastZ" "I", Cond.lays RX3 RX3 "code" "I", Cond.soleField RX3 "code", Cond.laysFinal RX3 RX3 "wide" "I", Cond.soleField RX3 "wide", Cond.laysFinal RX3 RX3 "high" "I", Cond.soleField RX3 "high", Cond.laysFinal RX3 RX3 "wanted" "[I"]
def wA22 : List Cond := [Cond.soleField RX3 "wanted", Cond.laysFinal RX3 RX3 "made" "[I", Cond.soleField RX3 "made", Cond.laysFinal RX3 RX3 "kept" "[I", Cond.soleField RX3 "kept", Cond.lays RX3 RX3 "isKept" "Z", Cond.soleField RX3 "isKept", Cond.lays RX3 RX3 "stock" "I", Cond.soleField RX3 "stock", Cond.laysFinal RX3 RX3 "kinds" "[I", Cond.soleField RX3 "kinds", Cond.laysFinal RX3 RX3 "radii" "[I", Cond.soleField RX3 "radii", Cond.laysFinal RX3 RX3 "tips" "[I", Cond.soleField RX3 "tips", Cond.laysFinal RX3 RX3 "lifts" "[I", Cond.soleField RX3 "lifts", Cond.lays RX3 RX3 "moves" "I", Cond.soleField RX3 "moves", Cond.laysFinal RX3 RX3 "movesAt" "[I"]
def wA23 : List Cond := [Cond.soleField RX3 "movesAt", Cond.lays RX3 RX3 "way" "J", Cond.soleField RX3 "way", Cond.lays RX3 RX3 "lastX" "I", Cond.soleField RX3 "lastX", Cond.lays RX3 RX3 "lastY" "I", Cond.soleField RX3 "lastY", Cond.lays RX3 RX3 "lastZ" "I", Cond.soleField RX3 "lastZ", Cond.methodLink RL 71 yX3_thrown, Cond.instanceMethod yX3_thrown, Cond.selects RX3 yX3_thrown yX3_thrown, Cond.code yX3_thrown prog_5_method_3_code 1 (some .int), Cond.methodLink RL 70 yX3_put, Cond.instanceMethod yX3_put, Cond.selects RX3 yX3_put yX3_put, Cond.code yX3_put prog_5_method_6_code 4 (some .boolean), Cond.methodLink RX3 51 yX3_isPlace, Cond.instanceMethod yX3_isPlace, Cond.code yX3_isPlace prog_5_method_5_code 3 (some .boolean)]
def wA24 : List Cond := [Cond.methodLink RX3 55 yX3_isIn, Cond.static yX3_isIn, Cond.code yX3_isIn prog_5_method_4_code 3 (some .boolean), Cond.methodLink RL 77 yX3_tool, Cond.instanceMethod yX3_tool, Cond.selects RX3 yX3_tool yX3_tool, Cond.code yX3_tool prog_5_method_7_code 4 (some .boolean), Cond.methodLink RL 81 yX3_stock, Cond.instanceMethod yX3_stock, Cond.selects RX3 yX3_stock yX3_stock, Cond.code yX3_stock prog_5_method_9_code 3 (some .int), Cond.methodLink RX3 59 yX3_greatest, Cond.instanceMethod yX3_greatest, Cond.code yX3_greatest prog_5_method_8_code 4 (some .int), Cond.methodLink RL 87 yX3_profile, Cond.instanceMethod yX3_profile, Cond.selects RX3 yX3_profile yX3_profile, Cond.code yX3_profile prog_5_method_11_code 4 (some .int), Cond.methodLink RX3 63 yX3_profileOf, Cond.instanceMethod yX3_profileOf]
def wA25 : List Cond := [Cond.code yX3_profileOf prog_5_method_10_code 7 (some .int), Cond.methodLink RL 84 yX3_lift, Cond.instanceMethod yX3_lift, Cond.selects RX3 yX3_lift yX3_lift, Cond.code yX3_lift prog_5_method_13_code 4 (some .int), Cond.methodLink RX3 67 yX3_liftOf, Cond.instanceMethod yX3_liftOf, Cond.code yX3_liftOf prog_5_method_12_code 9 (some .int), Cond.methodLink RL 90 yX3_rough, Cond.instanceMethod yX3_rough, Cond.selects RX3 yX3_rough yX3_rough, Cond.code yX3_rough prog_5_method_19_code 9 (some .int), Cond.methodLink RX3 89 yX3_begin, Cond.instanceMethod yX3_begin, Cond.code yX3_begin prog_5_method_15_code 1 none, Cond.methodLink RX3 92 yX3_noTips, Cond.instanceMethod yX3_noTips, Cond.code yX3_noTips prog_5_method_17_code 2 none, Cond.methodLink RX3 95 yX3_move3, Cond.instanceMethod yX3_move3]
def wA26 : List Cond := [Cond.code yX3_move3 prog_5_method_16_code 4 none, Cond.methodLink RX3 80 yX3_size, Cond.static yX3_size, Cond.code yX3_size prog_5_method_14_code 1 (some .int), Cond.methodLink RX3 99 yX3_carve, Cond.instanceMethod yX3_carve, Cond.code yX3_carve prog_5_method_18_code 9 none, Cond.methodLink RL 94 yX3_fine, Cond.instanceMethod yX3_fine, Cond.selects RX3 yX3_fine yX3_fine, Cond.code yX3_fine prog_5_method_20_code 7 (some .int), Cond.methodLink RL 97 yX3_made, Cond.instanceMethod yX3_made, Cond.selects RX3 yX3_made yX3_made, Cond.code yX3_made prog_5_method_21_code 3 (some .int), Cond.methodLink RL 102 yX3_below, Cond.instanceMethod yX3_below, Cond.selects RX3 yX3_below yX3_below, Cond.code yX3_below prog_5_method_23_code 4 (some .boolean), Cond.methodLink RX3 103 yX3_leftAt]
def wA27 : List Cond := [Cond.instanceMethod yX3_leftAt, Cond.code yX3_leftAt prog_5_method_22_code 2 (some .int), Cond.methodLink RL 105 yX3_rest, Cond.instanceMethod yX3_rest, Cond.selects RX3 yX3_rest yX3_rest, Cond.code yX3_rest prog_5_method_24_code 6 (some .int), Cond.methodLink RL 110 yX3_sum, Cond.instanceMethod yX3_sum, Cond.selects RX3 yX3_sum yX3_sum, Cond.code yX3_sum prog_5_method_25_code 6 (some .long), Cond.methodLink RL 114 yX3_moves, Cond.instanceMethod yX3_moves, Cond.selects RX3 yX3_moves yX3_moves, Cond.code yX3_moves prog_5_method_26_code 1 (some .int), Cond.methodLink RL 117 yX3_move, Cond.instanceMethod yX3_move, Cond.selects RX3 yX3_move yX3_move, Cond.code yX3_move prog_5_method_27_code 3 (some .int), Cond.methodLink RL 121 yX3_way, Cond.instanceMethod yX3_way]
def wA28 : List Cond := [Cond.selects RX3 yX3_way yX3_way, Cond.code yX3_way prog_5_method_28_code 1 (some .long), Cond.methodLink RL 124 yX3_repeat, Cond.instanceMethod yX3_repeat, Cond.selects RX3 yX3_repeat yX3_repeat, Cond.code yX3_repeat prog_5_method_29_code 7 (some .int), Cond.methodLink RL 127 yX3_merge, Cond.instanceMethod yX3_merge, Cond.selects RX3 yX3_merge yX3_merge, Cond.code yX3_merge prog_5_method_30_code 8 (some .int), Cond.arrayClass .long, Cond.selects RX2 yX2_leftAt yX2_leftAt, Cond.selects RX2 yX2_needPlace yX2_needPlace, Cond.selects RX2 yX2_placeAt yX2_placeAt, Cond.selects RX2 yX2_setWanted yX2_setWanted, Cond.selects RX0 yX0_depthAtSquare yX0_depthAtSquare, Cond.selects RX2 yX2_greatestWanted yX2_greatestWanted, Cond.selects RX2 yX2_liftOver yX2_liftOver, Cond.selects RX2 yX2_findLifts yX2_findLifts, Cond.selects RX2 yX2_goAlongLevel yX2_goAlongLevel]
def wA29 : List Cond := [Cond.selects RX2 yX2_carve yX2_carve, Cond.selects RX2 yX2_goAlongRow yX2_goAlongRow, Cond.selects RX3 yX3_isPlace yX3_isPlace, Cond.selects RX3 yX3_greatest yX3_greatest, Cond.selects RX3 yX3_profileOf yX3_profileOf, Cond.selects RX3 yX3_liftOf yX3_liftOf, Cond.selects RX3 yX3_begin yX3_begin, Cond.selects RX3 yX3_noTips yX3_noTips, Cond.selects RX3 yX3_move3 yX3_move3, Cond.selects RX3 yX3_carve yX3_carve, Cond.selects RX3 yX3_leftAt yX3_leftAt]
def wsE : List Cond := wA0 ++ (wA1 ++ (wA2 ++ (wA3 ++ (wA4 ++ (wA5)))))
def wsAll : List Cond := wsE ++ (wA6 ++ (wA7 ++ (wA8 ++ (wA9 ++ (wA10 ++ (wA11 ++ (wA12 ++ (wA13 ++ (wA14 ++ (wA15 ++ (wA16 ++ (wA17 ++ (wA18 ++ (wA19 ++ (wA20 ++ (wA21 ++ (wA22 ++ (wA23 ++ (wA24 ++ (wA25 ++ (wA26 ++ (wA27 ++ (wA28 ++ (wA29))))))))))))))))))))))))
theorem wsE_in : ∀ w ∈ wsE, w ∈ wsAll := fun _ h => List.mem_append_left _ h
theorem wA0_in : ∀ w ∈ wA0, w ∈ wsAll := fun _ h => (List.mem_append_left _ (List.mem_append_left _ h))
theorem wA1_in : ∀ w ∈ wA1, w ∈ wsAll := fun _ h => (List.mem_append_left _ (List.mem_append_right _ (List.mem_append_left _ h)))
theorem wA2_in : ∀ w ∈ wA2, w ∈ wsAll := fun _ h => (List.mem_append_left _ (List.mem_append_right _ (List.mem_append_right _ (List.mem_append_left _ h))))
theorem wA3_in : ∀ w ∈ wA3, w ∈ wsAll := fun _ h => (List.mem_append_left _ (List.mem_append_right _ (List.mem_append_right _ (List.mem_append_right _ (List.mem_append_left _ h)))))
theorem wA4_in : ∀ w ∈ wA4, w ∈ wsAll := fun _ h => (List.mem_append_left _ (List.mem_append_right _ (List.mem_append_right _ (List.mem_append_right _ (List.mem_append_right _ (List.mem_append_left _ h))))))
theorem wA5_in : ∀ w ∈ wA5, w ∈ wsAll := fun _ h => (List.mem_append_left _ (List.mem_append_right _ (List.mem_append_right _ (List.mem_append_right _ (List.mem_append_right _ (List.mem_append_right _ h))))))
theorem wA6_in : ∀ w ∈ wA6, w ∈ wsAll := fun _ h => (List.mem_append_right _ (List.mem_append_left _ h))
theorem wA7_in : ∀ w ∈ wA7, w ∈ wsAll := fun _ h => (List.mem_append_right _ (List.mem_append_right _ (List.mem_append_left _ h)))
theorem wA8_in : ∀ w ∈ wA8, w ∈ wsAll := fun _ h => (List.mem_append_right _ (List.mem_append_right _ (List.mem_append_right _ (List.mem_append_left _ h))))
theorem wA9_in : ∀ w ∈ wA9, w ∈ wsAll := fun _ h => (List.mem_append_right _ (List.mem_append_right _ (List.mem_append_right _ (List.mem_append_right _ (List.mem_append_left _ h)))))
theorem wA10_in : ∀ w ∈ wA10, w ∈ wsAll := fun _ h => (List.mem_append_right _ (List.mem_append_right _ (List.mem_append_right _ (List.mem_append_right _ (List.mem_append_right _ (List.mem_append_left _ h))))))
theorem wA11_in : ∀ w ∈ wA11, w ∈ wsAll := fun _ h => (List.mem_append_right _ (List.mem_append_right _ (List.mem_append_right _ (List.mem_append_right _ (List.mem_append_right _ (List.mem_append_right _ (List.mem_append_left _ h)))))))
theorem wA12_in : ∀ w ∈ wA12, w ∈ wsAll := fun _ h => (List.mem_append_right _ (List.mem_append_right _ (List.mem_append_right _ (List.mem_append_right _ (List.mem_append_right _ (List.mem_append_right _ (List.mem_append_right _ (List.mem_append_left _ h))))))))
theorem wA13_in : ∀ w ∈ wA13, w ∈ wsAll := fun _ h => (List.mem_append_right _ (List.mem_append_right _ (List.mem_append_right _ (List.mem_append_right _ (List.mem_append_right _ (List.mem_append_right _ (List.mem_append_right _ (List.mem_append_right _ (List.mem_append_left _ h)))))))))
theorem wA14_in : ∀ w ∈ wA14, w ∈ wsAll := fun _ h => (List.mem_append_right _ (List.mem_append_right _ (List.mem_append_right _ (List.mem_append_right _ (List.mem_append_right _ (List.mem_append_right _ (List.mem_append_right _ (List.mem_append_right _ (List.mem_append_right _ (List.mem_append_left _ h))))))))))
theorem wA15_in : ∀ w ∈ wA15, w ∈ wsAll := fun _ h => (List.mem_append_right _ (List.mem_append_right _ (List.mem_append_right _ (List.mem_append_right _ (List.mem_append_right _ (List.mem_append_right _ (List.mem_append_right _ (List.mem_append_right _ (List.mem_append_right _ (List.mem_append_right _ (List.mem_append_left _ h)))))))))))
theorem wA16_in : ∀ w ∈ wA16, w ∈ wsAll := fun _ h => (List.mem_append_right _ (List.mem_append_right _ (List.mem_append_right _ (List.mem_append_right _ (List.mem_append_right _ (List.mem_append_right _ (List.mem_append_right _ (List.mem_append_right _ (List.mem_append_right _ (List.mem_append_right _ (List.mem_append_right _ (List.mem_append_left _ h))))))))))))
theorem wA17_in : ∀ w ∈ wA17, w ∈ wsAll := fun _ h => (List.mem_append_right _ (List.mem_append_right _ (List.mem_append_right _ (List.mem_append_right _ (List.mem_append_right _ (List.mem_append_right _ (List.mem_append_right _ (List.mem_append_right _ (List.mem_append_right _ (List.mem_append_right _ (List.mem_append_right _ (List.mem_append_right _ (List.mem_append_left _ h)))))))))))))
theorem wA18_in : ∀ w ∈ wA18, w ∈ wsAll := fun _ h => (List.mem_append_right _ (List.mem_append_right _ (List.mem_append_right _ (List.mem_append_right _ (List.mem_append_right _ (List.mem_append_right _ (List.mem_append_right _ (List.mem_append_right _ (List.mem_append_right _ (List.mem_append_right _ (List.mem_append_right _ (List.mem_append_right _ (List.mem_append_right _ (List.mem_append_left _ h))))))))))))))
theorem wA19_in : ∀ w ∈ wA19, w ∈ wsAll := fun _ h => (List.mem_append_right _ (List.mem_append_right _ (List.mem_append_right _ (List.mem_append_right _ (List.mem_append_right _ (List.mem_append_right _ (List.mem_append_right _ (List.mem_append_right _ (List.mem_append_right _ (List.mem_append_right _ (List.mem_append_right _ (List.mem_append_right _ (List.mem_append_right _ (List.mem_append_right _ (List.mem_append_left _ h)))))))))))))))
theorem wA20_in : ∀ w ∈ wA20, w ∈ wsAll := fun _ h => (List.mem_append_right _ (List.mem_append_right _ (List.mem_append_right _ (List.mem_append_right _ (List.mem_append_right _ (List.mem_append_right _ (List.mem_append_right _ (List.mem_append_right _ (List.mem_append_right _ (List.mem_append_right _ (List.mem_append_right _ (List.mem_append_right _ (List.mem_append_right _ (List.mem_append_right _ (List.mem_append_right _ (List.mem_append_left _ h))))))))))))))))
theorem wA21_in : ∀ w ∈ wA21, w ∈ wsAll := fun _ h => (List.mem_append_right _ (List.mem_append_right _ (List.mem_append_right _ (List.mem_append_right _ (List.mem_append_right _ (List.mem_append_right _ (List.mem_append_right _ (List.mem_append_right _ (List.mem_append_right _ (List.mem_append_right _ (List.mem_append_right _ (List.mem_append_right _ (List.mem_append_right _ (List.mem_append_right _ (List.mem_append_right _ (List.mem_append_right _ (List.mem_append_left _ h)))))))))))))))))
theorem wA22_in : ∀ w ∈ wA22, w ∈ wsAll := fun _ h => (List.mem_append_right _ (List.mem_append_right _ (List.mem_append_right _ (List.mem_append_right _ (List.mem_append_right _ (List.mem_append_right _ (List.mem_append_right _ (List.mem_append_right _ (List.mem_append_right _ (List.mem_append_right _ (List.mem_append_right _ (List.mem_append_right _ (List.mem_append_right _ (List.mem_append_right _ (List.mem_append_right _ (List.mem_append_right _ (List.mem_append_right _ (List.mem_append_left _ h))))))))))))))))))
theorem wA23_in : ∀ w ∈ wA23, w ∈ wsAll := fun _ h => (List.mem_append_right _ (List.mem_append_right _ (List.mem_append_right _ (List.mem_append_right _ (List.mem_append_right _ (List.mem_append_right _ (List.mem_append_right _ (List.mem_append_right _ (List.mem_append_right _ (List.mem_append_right _ (List.mem_append_right _ (List.mem_append_right _ (List.mem_append_right _ (List.mem_append_right _ (List.mem_append_right _ (List.mem_append_right _ (List.mem_append_right _ (List.mem_append_right _ (List.mem_append_left _ h)))))))))))))))))))
theorem wA24_in : ∀ w ∈ wA24, w ∈ wsAll := fun _ h => (List.mem_append_right _ (List.mem_append_right _ (List.mem_append_right _ (List.mem_append_right _ (List.mem_append_right _ (List.mem_append_right _ (List.mem_append_right _ (List.mem_append_right _ (List.mem_append_right _ (List.mem_append_right _ (List.mem_append_right _ (List.mem_append_right _ (List.mem_append_right _ (List.mem_append_right _ (List.mem_append_right _ (List.mem_append_right _ (List.mem_append_right _ (List.mem_append_right _ (List.mem_append_right _ (List.mem_append_left _ h))))))))))))))))))))
theorem wA25_in : ∀ w ∈ wA25, w ∈ wsAll := fun _ h => (List.mem_append_right _ (List.mem_append_right _ (List.mem_append_right _ (List.mem_append_right _ (List.mem_append_right _ (List.mem_append_right _ (List.mem_append_right _ (List.mem_append_right _ (List.mem_append_right _ (List.mem_append_right _ (List.mem_append_right _ (List.mem_append_right _ (List.mem_append_right _ (List.mem_append_right _ (List.mem_append_right _ (List.mem_append_right _ (List.mem_append_right _ (List.mem_append_right _ (List.mem_append_right _ (List.mem_append_right _ (List.mem_append_left _ h)))))))))))))))))))))
theorem wA26_in : ∀ w ∈ wA26, w ∈ wsAll := fun _ h => (List.mem_append_right _ (List.mem_append_right _ (List.mem_append_right _ (List.mem_append_right _ (List.mem_append_right _ (List.mem_append_right _ (List.mem_append_right _ (List.mem_append_right _ (List.mem_append_right _ (List.mem_append_right _ (List.mem_append_right _ (List.mem_append_right _ (List.mem_append_right _ (List.mem_append_right _ (List.mem_append_right _ (List.mem_append_right _ (List.mem_append_right _ (List.mem_append_right _ (List.mem_append_right _ (List.mem_append_right _ (List.mem_append_right _ (List.mem_append_left _ h))))))))))))))))))))))
theorem wA27_in : ∀ w ∈ wA27, w ∈ wsAll := fun _ h => (List.mem_append_right _ (List.mem_append_right _ (List.mem_append_right _ (List.mem_append_right _ (List.mem_append_right _ (List.mem_append_right _ (List.mem_append_right _ (List.mem_append_right _ (List.mem_append_right _ (List.mem_append_right _ (List.mem_append_right _ (List.mem_append_right _ (List.mem_append_right _ (List.mem_append_right _ (List.mem_append_right _ (List.mem_append_right _ (List.mem_append_right _ (List.mem_append_right _ (List.mem_append_right _ (List.mem_append_right _ (List.mem_append_right _ (List.mem_append_right _ (List.mem_append_left _ h)))))))))))))))))))))))
theorem wA28_in : ∀ w ∈ wA28, w ∈ wsAll := fun _ h => (List.mem_append_right _ (List.mem_append_right _ (List.mem_append_right _ (List.mem_append_right _ (List.mem_append_right _ (List.mem_append_right _ (List.mem_append_right _ (List.mem_append_right _ (List.mem_append_right _ (List.mem_append_right _ (List.mem_append_right _ (List.mem_append_right _ (List.mem_append_right _ (List.mem_append_right _ (List.mem_append_right _ (List.mem_append_right _ (List.mem_append_right _ (List.mem_append_right _ (List.mem_append_right _ (List.mem_append_right _ (List.mem_append_right _ (List.mem_append_right _ (List.mem_append_right _ (List.mem_append_left _ h))))))))))))))))))))))))
theorem wA29_in : ∀ w ∈ wA29, w ∈ wsAll := fun _ h => (List.mem_append_right _ (List.mem_append_right _ (List.mem_append_right _ (List.mem_append_right _ (List.mem_append_right _ (List.mem_append_right _ (List.mem_append_right _ (List.mem_append_right _ (List.mem_append_right _ (List.mem_append_right _ (List.mem_append_right _ (List.mem_append_right _ (List.mem_append_right _ (List.mem_append_right _ (List.mem_append_right _ (List.mem_append_right _ (List.mem_append_right _ (List.mem_append_right _ (List.mem_append_right _ (List.mem_append_right _ (List.mem_append_right _ (List.mem_append_right _ (List.mem_append_right _ (List.mem_append_right _ h))))))))))))))))))))))))
theorem wm_0 : Cond.initialized "java/lang/Throwable" ∈ wsAll := wA0_in _ (List.mem_of_getElem? (i := 0) rfl)
theorem wm_1 : Cond.initialized "java/lang/Exception" ∈ wsAll := wA0_in _ (List.mem_of_getElem? (i := 1) rfl)
theorem wm_2 : Cond.initialized "java/lang/RuntimeException" ∈ wsAll := wA0_in _ (List.mem_of_getElem? (i := 2) rfl)
theorem wm_3 : Cond.initialized "java/lang/IndexOutOfBoundsException" ∈ wsAll := wA0_in _ (List.mem_of_getElem? (i := 3) rfl)
theorem wm_4 : Cond.initialized "java/lang/IllegalArgumentException" ∈ wsAll := wA0_in _ (List.mem_of_getElem? (i := 4) rfl)
theorem wm_5 : Cond.initialized "java/lang/IllegalStateException" ∈ wsAll := wA0_in _ (List.mem_of_getElem? (i := 5) rfl)
theorem wm_6 : Cond.methodLink RX2 1 objectInit ∈ wsAll := wA0_in _ (List.mem_of_getElem? (i := 6) rfl)
theorem wm_7 : Cond.instanceMethod objectInit ∈ wsAll := wA0_in _ (List.mem_of_getElem? (i := 7) rfl)
theorem wm_8 : Cond.code objectInit object_method_1_code 1 none ∈ wsAll := wA0_in _ (List.mem_of_getElem? (i := 8) rfl)
theorem wm_9 : Cond.methodLink RX0 3 objectInit ∈ wsAll := wA0_in _ (List.mem_of_getElem? (i := 9) rfl)
theorem wm_10 : Cond.superclass RX0 "java/lang/Object" ∈ wsAll := wA0_in _ (List.mem_of_getElem? (i := 10) rfl)
theorem wm_11 : Cond.methodLink RX1 3 objectInit ∈ wsAll := wA0_in _ (List.mem_of_getElem? (i := 11) rfl)
theorem wm_12 : Cond.superclass RX1 "java/lang/Object" ∈ wsAll := wA0_in _ (List.mem_of_getElem? (i := 12) rfl)
theorem wm_13 : Cond.superclass RX2 "java/lang/Object" ∈ wsAll := wA0_in _ (List.mem_of_getElem? (i := 13) rfl)
theorem wm_14 : Cond.classLink RL 13 "java/lang/IndexOutOfBoundsException" ∈ wsAll := wA0_in _ (List.mem_of_getElem? (i := 14) rfl)
theorem wm_15 : Cond.classLink RL 15 "java/lang/IllegalArgumentException" ∈ wsAll := wA0_in _ (List.mem_of_getElem? (i := 15) rfl)
theorem wm_16 : Cond.classLink RX2 135 "java/lang/IndexOutOfBoundsException" ∈ wsAll := wA0_in _ (List.mem_of_getElem? (i := 16) rfl)
theorem wm_17 : Cond.instantiable "java/lang/IndexOutOfBoundsException" 6 ∈ wsAll := wA0_in _ (List.mem_of_getElem? (i := 17) rfl)
theorem wm_18 : Cond.selects "java/lang/IndexOutOfBoundsException" ⟨"java/lang/Throwable", "fillInStackTrace", "(I)Ljava/lang/Throwable;"⟩ ⟨"java/lang/Throwable", "fillInStackTrace", "(I)Ljava/lang/Throwable;"⟩ ∈ wsAll := wA0_in _ (List.mem_of_getElem? (i := 18) rfl)
theorem wm_19 : Cond.selects "java/lang/IndexOutOfBoundsException" ⟨"java/lang/Throwable", "fillInStackTrace", "()Ljava/lang/Throwable;"⟩ ⟨"java/lang/Throwable", "fillInStackTrace", "()Ljava/lang/Throwable;"⟩ ∈ wsAll := wA0_in _ (List.mem_of_getElem? (i := 19) rfl)
theorem wm_20 : Cond.lays "java/lang/IndexOutOfBoundsException" "java/lang/Throwable" "cause" "Ljava/lang/Throwable;" ∈ wsAll := wA1_in _ (List.mem_of_getElem? (i := 0) rfl)
theorem wm_21 : Cond.lays "java/lang/Throwable" "java/lang/Throwable" "cause" "Ljava/lang/Throwable;" ∈ wsAll := wA1_in _ (List.mem_of_getElem? (i := 1) rfl)
theorem wm_22 : Cond.lays "java/lang/IndexOutOfBoundsException" "java/lang/Throwable" "stackTrace" "[Ljava/lang/StackTraceElement;" ∈ wsAll := wA1_in _ (List.mem_of_getElem? (i := 2) rfl)
theorem wm_23 : Cond.lays "java/lang/Throwable" "java/lang/Throwable" "stackTrace" "[Ljava/lang/StackTraceElement;" ∈ wsAll := wA1_in _ (List.mem_of_getElem? (i := 3) rfl)
theorem wm_24 : Cond.lays "java/lang/IndexOutOfBoundsException" "java/lang/Throwable" "suppressedExceptions" "Ljava/util/List;" ∈ wsAll := wA1_in _ (List.mem_of_getElem? (i := 4) rfl)
theorem wm_25 : Cond.lays "java/lang/Throwable" "java/lang/Throwable" "suppressedExceptions" "Ljava/util/List;" ∈ wsAll := wA1_in _ (List.mem_of_getElem? (i := 5) rfl)
theorem wm_26 : Cond.lays "java/lang/IndexOutOfBoundsException" "java/lang/Throwable" "detailMessage" "Ljava/lang/String;" ∈ wsAll := wA1_in _ (List.mem_of_getElem? (i := 6) rfl)
theorem wm_27 : Cond.lays "java/lang/Throwable" "java/lang/Throwable" "detailMessage" "Ljava/lang/String;" ∈ wsAll := wA1_in _ (List.mem_of_getElem? (i := 7) rfl)
theorem wm_28 : Cond.lays "java/lang/IndexOutOfBoundsException" "java/lang/Throwable" "backtrace" "Ljava/lang/Object;" ∈ wsAll := wA1_in _ (List.mem_of_getElem? (i := 8) rfl)
theorem wm_29 : Cond.lays "java/lang/Throwable" "java/lang/Throwable" "backtrace" "Ljava/lang/Object;" ∈ wsAll := wA1_in _ (List.mem_of_getElem? (i := 9) rfl)
theorem wm_30 : Cond.fieldLink "java/lang/Throwable" 198 "java/lang/Throwable" "backtrace" "Ljava/lang/Object;" ∈ wsAll := wA1_in _ (List.mem_of_getElem? (i := 10) rfl)
theorem wm_31 : Cond.superclass "java/lang/Throwable" "java/lang/Object" ∈ wsAll := wA1_in _ (List.mem_of_getElem? (i := 11) rfl)
theorem wm_32 : Cond.instanceMethod ⟨"java/lang/Throwable", "<init>", "()V"⟩ ∈ wsAll := wA1_in _ (List.mem_of_getElem? (i := 12) rfl)
theorem wm_33 : Cond.code ⟨"java/lang/Throwable", "<init>", "()V"⟩ prog_14_method_1_code 1 none ∈ wsAll := wA1_in _ (List.mem_of_getElem? (i := 13) rfl)
theorem wm_34 : Cond.methodLink "java/lang/Throwable" 1 objectInit ∈ wsAll := wA1_in _ (List.mem_of_getElem? (i := 14) rfl)
theorem wm_35 : Cond.fieldLink "java/lang/Throwable" 13 "java/lang/Throwable" "UNASSIGNED_STACK" "[Ljava/lang/StackTraceElement;" ∈ wsAll := wA1_in _ (List.mem_of_getElem? (i := 15) rfl)
theorem wm_36 : Cond.fieldLink "java/lang/Throwable" 20 "java/lang/Throwable" "SUPPRESSED_SENTINEL" "Ljava/util/List;" ∈ wsAll := wA1_in _ (List.mem_of_getElem? (i := 16) rfl)
theorem wm_37 : Cond.methodLink "java/lang/Throwable" 27 ⟨"java/lang/Throwable", "fillInStackTrace", "()Ljava/lang/Throwable;"⟩ ∈ wsAll := wA1_in _ (List.mem_of_getElem? (i := 17) rfl)
theorem wm_38 : Cond.instanceMethod ⟨"java/lang/Throwable", "fillInStackTrace", "()Ljava/lang/Throwable;"⟩ ∈ wsAll := wA1_in _ (List.mem_of_getElem? (i := 18) rfl)
theorem wm_39 : Cond.sameMethod "java/lang/Throwable" "java/lang/Throwable" "fillInStackTrace" "()Ljava/lang/Throwable;" ∈ wsAll := wA1_in _ (List.mem_of_getElem? (i := 19) rfl)
theorem wm_40 : Cond.selects "java/lang/IllegalArgumentException" ⟨"java/lang/Throwable", "fillInStackTrace", "()Ljava/lang/Throwable;"⟩ ⟨"java/lang/Throwable", "fillInStackTrace", "()Ljava/lang/Throwable;"⟩ ∈ wsAll := wA2_in _ (List.mem_of_getElem? (i := 0) rfl)
theorem wm_41 : Cond.selects "java/lang/IllegalStateException" ⟨"java/lang/Throwable", "fillInStackTrace", "()Ljava/lang/Throwable;"⟩ ⟨"java/lang/Throwable", "fillInStackTrace", "()Ljava/lang/Throwable;"⟩ ∈ wsAll := wA2_in _ (List.mem_of_getElem? (i := 1) rfl)
theorem wm_42 : Cond.codeSync ⟨"java/lang/Throwable", "fillInStackTrace", "()Ljava/lang/Throwable;"⟩ prog_14_method_18_code 1 (some (.object "java/lang/Throwable")) ∈ wsAll := wA2_in _ (List.mem_of_getElem? (i := 2) rfl)
theorem wm_43 : Cond.methodLink "java/lang/Throwable" 202 ⟨"java/lang/Throwable", "fillInStackTrace", "(I)Ljava/lang/Throwable;"⟩ ∈ wsAll := wA2_in _ (List.mem_of_getElem? (i := 3) rfl)
theorem wm_44 : Cond.instanceMethod ⟨"java/lang/Throwable", "fillInStackTrace", "(I)Ljava/lang/Throwable;"⟩ ∈ wsAll := wA2_in _ (List.mem_of_getElem? (i := 4) rfl)
theorem wm_45 : Cond.instantiable "java/lang/Throwable" 6 ∈ wsAll := wA2_in _ (List.mem_of_getElem? (i := 5) rfl)
theorem wm_46 : Cond.native ⟨"java/lang/Throwable", "fillInStackTrace", "(I)Ljava/lang/Throwable;"⟩ ∈ wsAll := wA2_in _ (List.mem_of_getElem? (i := 6) rfl)
theorem wm_47 : Cond.methodLink RX2 139 ⟨"java/lang/IndexOutOfBoundsException", "<init>", "(Ljava/lang/String;)V"⟩ ∈ wsAll := wA2_in _ (List.mem_of_getElem? (i := 7) rfl)
theorem wm_48 : Cond.instanceMethod ⟨"java/lang/IndexOutOfBoundsException", "<init>", "(Ljava/lang/String;)V"⟩ ∈ wsAll := wA2_in _ (List.mem_of_getElem? (i := 8) rfl)
theorem wm_49 : Cond.code ⟨"java/lang/IndexOutOfBoundsException", "<init>", "(Ljava/lang/String;)V"⟩ prog_9_method_2_code 2 none ∈ wsAll := wA2_in _ (List.mem_of_getElem? (i := 9) rfl)
theorem wm_50 : Cond.methodLink "java/lang/IndexOutOfBoundsException" 7 ⟨"java/lang/RuntimeException", "<init>", "(Ljava/lang/String;)V"⟩ ∈ wsAll := wA2_in _ (List.mem_of_getElem? (i := 10) rfl)
theorem wm_51 : Cond.instanceMethod ⟨"java/lang/RuntimeException", "<init>", "(Ljava/lang/String;)V"⟩ ∈ wsAll := wA2_in _ (List.mem_of_getElem? (i := 11) rfl)
theorem wm_52 : Cond.code ⟨"java/lang/RuntimeException", "<init>", "(Ljava/lang/String;)V"⟩ prog_11_method_2_code 2 none ∈ wsAll := wA2_in _ (List.mem_of_getElem? (i := 12) rfl)
theorem wm_53 : Cond.methodLink "java/lang/RuntimeException" 7 ⟨"java/lang/Exception", "<init>", "(Ljava/lang/String;)V"⟩ ∈ wsAll := wA2_in _ (List.mem_of_getElem? (i := 13) rfl)
theorem wm_54 : Cond.instanceMethod ⟨"java/lang/Exception", "<init>", "(Ljava/lang/String;)V"⟩ ∈ wsAll := wA2_in _ (List.mem_of_getElem? (i := 14) rfl)
theorem wm_55 : Cond.code ⟨"java/lang/Exception", "<init>", "(Ljava/lang/String;)V"⟩ prog_6_method_2_code 2 none ∈ wsAll := wA2_in _ (List.mem_of_getElem? (i := 15) rfl)
theorem wm_56 : Cond.methodLink "java/lang/Exception" 7 ⟨"java/lang/Throwable", "<init>", "(Ljava/lang/String;)V"⟩ ∈ wsAll := wA2_in _ (List.mem_of_getElem? (i := 16) rfl)
theorem wm_57 : Cond.instanceMethod ⟨"java/lang/Throwable", "<init>", "(Ljava/lang/String;)V"⟩ ∈ wsAll := wA2_in _ (List.mem_of_getElem? (i := 17) rfl)
theorem wm_58 : Cond.code ⟨"java/lang/Throwable", "<init>", "(Ljava/lang/String;)V"⟩ prog_14_method_2_code 2 none ∈ wsAll := wA2_in _ (List.mem_of_getElem? (i := 18) rfl)
theorem wm_59 : Cond.fieldLink "java/lang/Throwable" 198 "java/lang/Throwable" "backtrace" "Ljava/lang/Object;" ∈ wsAll := wA2_in _ (List.mem_of_getElem? (i := 19) rfl)
theorem wm_60 : Cond.fieldLink "java/lang/Throwable" 31 "java/lang/Throwable" "detailMessage" "Ljava/lang/String;" ∈ wsAll := wA3_in _ (List.mem_of_getElem? (i := 0) rfl)
theorem wm_61 : Cond.fieldLink "java/lang/Throwable" 7 "java/lang/Throwable" "cause" "Ljava/lang/Throwable;" ∈ wsAll := wA3_in _ (List.mem_of_getElem? (i := 1) rfl)
theorem wm_62 : Cond.fieldLink "java/lang/Throwable" 17 "java/lang/Throwable" "stackTrace" "[Ljava/lang/StackTraceElement;" ∈ wsAll := wA3_in _ (List.mem_of_getElem? (i := 2) rfl)
theorem wm_63 : Cond.fieldLink "java/lang/Throwable" 24 "java/lang/Throwable" "suppressedExceptions" "Ljava/util/List;" ∈ wsAll := wA3_in _ (List.mem_of_getElem? (i := 3) rfl)
theorem wm_64 : Cond.soleField "java/lang/Throwable" "backtrace" ∈ wsAll := wA3_in _ (List.mem_of_getElem? (i := 4) rfl)
theorem wm_65 : Cond.soleField "java/lang/Throwable" "detailMessage" ∈ wsAll := wA3_in _ (List.mem_of_getElem? (i := 5) rfl)
theorem wm_66 : Cond.soleField "java/lang/Throwable" "cause" ∈ wsAll := wA3_in _ (List.mem_of_getElem? (i := 6) rfl)
theorem wm_67 : Cond.soleField "java/lang/Throwable" "stackTrace" ∈ wsAll := wA3_in _ (List.mem_of_getElem? (i := 7) rfl)
theorem wm_68 : Cond.lays "java/lang/IndexOutOfBoundsException" "java/lang/Throwable" "depth" "I" ∈ wsAll := wA3_in _ (List.mem_of_getElem? (i := 8) rfl)
theorem wm_69 : Cond.soleField "java/lang/Throwable" "depth" ∈ wsAll := wA3_in _ (List.mem_of_getElem? (i := 9) rfl)
theorem wm_70 : Cond.soleField "java/lang/Throwable" "suppressedExceptions" ∈ wsAll := wA3_in _ (List.mem_of_getElem? (i := 10) rfl)
theorem wm_71 : Cond.superclass "java/lang/IndexOutOfBoundsException" "java/lang/RuntimeException" ∈ wsAll := wA3_in _ (List.mem_of_getElem? (i := 11) rfl)
theorem wm_72 : Cond.classLink RX2 173 "java/lang/IllegalArgumentException" ∈ wsAll := wA3_in _ (List.mem_of_getElem? (i := 12) rfl)
theorem wm_73 : Cond.instantiable "java/lang/IllegalArgumentException" 6 ∈ wsAll := wA3_in _ (List.mem_of_getElem? (i := 13) rfl)
theorem wm_74 : Cond.selects "java/lang/IllegalArgumentException" ⟨"java/lang/Throwable", "fillInStackTrace", "(I)Ljava/lang/Throwable;"⟩ ⟨"java/lang/Throwable", "fillInStackTrace", "(I)Ljava/lang/Throwable;"⟩ ∈ wsAll := wA3_in _ (List.mem_of_getElem? (i := 14) rfl)
theorem wm_75 : Cond.lays "java/lang/IllegalArgumentException" "java/lang/Throwable" "cause" "Ljava/lang/Throwable;" ∈ wsAll := wA3_in _ (List.mem_of_getElem? (i := 15) rfl)
theorem wm_76 : Cond.lays "java/lang/IllegalArgumentException" "java/lang/Throwable" "stackTrace" "[Ljava/lang/StackTraceElement;" ∈ wsAll := wA3_in _ (List.mem_of_getElem? (i := 16) rfl)
theorem wm_77 : Cond.lays "java/lang/IllegalArgumentException" "java/lang/Throwable" "suppressedExceptions" "Ljava/util/List;" ∈ wsAll := wA3_in _ (List.mem_of_getElem? (i := 17) rfl)
theorem wm_78 : Cond.lays "java/lang/IllegalArgumentException" "java/lang/Throwable" "detailMessage" "Ljava/lang/String;" ∈ wsAll := wA3_in _ (List.mem_of_getElem? (i := 18) rfl)
theorem wm_79 : Cond.lays "java/lang/IllegalArgumentException" "java/lang/Throwable" "backtrace" "Ljava/lang/Object;" ∈ wsAll := wA3_in _ (List.mem_of_getElem? (i := 19) rfl)
theorem wm_80 : Cond.methodLink RX2 177 ⟨"java/lang/IllegalArgumentException", "<init>", "(Ljava/lang/String;)V"⟩ ∈ wsAll := wA4_in _ (List.mem_of_getElem? (i := 0) rfl)
theorem wm_81 : Cond.instanceMethod ⟨"java/lang/IllegalArgumentException", "<init>", "(Ljava/lang/String;)V"⟩ ∈ wsAll := wA4_in _ (List.mem_of_getElem? (i := 1) rfl)
theorem wm_82 : Cond.code ⟨"java/lang/IllegalArgumentException", "<init>", "(Ljava/lang/String;)V"⟩ prog_7_method_2_code 2 none ∈ wsAll := wA4_in _ (List.mem_of_getElem? (i := 2) rfl)
theorem wm_83 : Cond.methodLink "java/lang/IllegalArgumentException" 7 ⟨"java/lang/RuntimeException", "<init>", "(Ljava/lang/String;)V"⟩ ∈ wsAll := wA4_in _ (List.mem_of_getElem? (i := 3) rfl)
theorem wm_84 : Cond.lays "java/lang/IllegalArgumentException" "java/lang/Throwable" "depth" "I" ∈ wsAll := wA4_in _ (List.mem_of_getElem? (i := 4) rfl)
theorem wm_85 : Cond.superclass "java/lang/IllegalArgumentException" "java/lang/RuntimeException" ∈ wsAll := wA4_in _ (List.mem_of_getElem? (i := 5) rfl)
theorem wm_86 : Cond.classLink RL 24 "java/lang/IllegalStateException" ∈ wsAll := wA4_in _ (List.mem_of_getElem? (i := 6) rfl)
theorem wm_87 : Cond.classLink RX2 87 "java/lang/IllegalStateException" ∈ wsAll := wA4_in _ (List.mem_of_getElem? (i := 7) rfl)
theorem wm_88 : Cond.instantiable "java/lang/IllegalStateException" 6 ∈ wsAll := wA4_in _ (List.mem_of_getElem? (i := 8) rfl)
theorem wm_89 : Cond.selects "java/lang/IllegalStateException" ⟨"java/lang/Throwable", "fillInStackTrace", "(I)Ljava/lang/Throwable;"⟩ ⟨"java/lang/Throwable", "fillInStackTrace", "(I)Ljava/lang/Throwable;"⟩ ∈ wsAll := wA4_in _ (List.mem_of_getElem? (i := 9) rfl)
theorem wm_90 : Cond.lays "java/lang/IllegalStateException" "java/lang/Throwable" "cause" "Ljava/lang/Throwable;" ∈ wsAll := wA4_in _ (List.mem_of_getElem? (i := 10) rfl)
theorem wm_91 : Cond.lays "java/lang/IllegalStateException" "java/lang/Throwable" "stackTrace" "[Ljava/lang/StackTraceElement;" ∈ wsAll := wA4_in _ (List.mem_of_getElem? (i := 11) rfl)
theorem wm_92 : Cond.lays "java/lang/IllegalStateException" "java/lang/Throwable" "suppressedExceptions" "Ljava/util/List;" ∈ wsAll := wA4_in _ (List.mem_of_getElem? (i := 12) rfl)
theorem wm_93 : Cond.lays "java/lang/IllegalStateException" "java/lang/Throwable" "detailMessage" "Ljava/lang/String;" ∈ wsAll := wA4_in _ (List.mem_of_getElem? (i := 13) rfl)
theorem wm_94 : Cond.lays "java/lang/IllegalStateException" "java/lang/Throwable" "backtrace" "Ljava/lang/Object;" ∈ wsAll := wA4_in _ (List.mem_of_getElem? (i := 14) rfl)
theorem wm_95 : Cond.methodLink RX2 91 ⟨"java/lang/IllegalStateException", "<init>", "(Ljava/lang/String;)V"⟩ ∈ wsAll := wA4_in _ (List.mem_of_getElem? (i := 15) rfl)
theorem wm_96 : Cond.instanceMethod ⟨"java/lang/IllegalStateException", "<init>", "(Ljava/lang/String;)V"⟩ ∈ wsAll := wA4_in _ (List.mem_of_getElem? (i := 16) rfl)
theorem wm_97 : Cond.code ⟨"java/lang/IllegalStateException", "<init>", "(Ljava/lang/String;)V"⟩ prog_8_method_2_code 2 none ∈ wsAll := wA4_in _ (List.mem_of_getElem? (i := 17) rfl)
theorem wm_98 : Cond.methodLink "java/lang/IllegalStateException" 7 ⟨"java/lang/RuntimeException", "<init>", "(Ljava/lang/String;)V"⟩ ∈ wsAll := wA4_in _ (List.mem_of_getElem? (i := 18) rfl)
theorem wm_99 : Cond.lays "java/lang/IllegalStateException" "java/lang/Throwable" "depth" "I" ∈ wsAll := wA4_in _ (List.mem_of_getElem? (i := 19) rfl)
theorem wm_100 : Cond.superclass "java/lang/IllegalStateException" "java/lang/RuntimeException" ∈ wsAll := wA5_in _ (List.mem_of_getElem? (i := 0) rfl)
theorem wm_101 : Cond.methodLink RX2 153 ⟨"java/lang/System", "arraycopy", "(Ljava/lang/Object;ILjava/lang/Object;II)V"⟩ ∈ wsAll := wA5_in _ (List.mem_of_getElem? (i := 1) rfl)
theorem wm_102 : Cond.static ⟨"java/lang/System", "arraycopy", "(Ljava/lang/Object;ILjava/lang/Object;II)V"⟩ ∈ wsAll := wA5_in _ (List.mem_of_getElem? (i := 2) rfl)
theorem wm_103 : Cond.native ⟨"java/lang/System", "arraycopy", "(Ljava/lang/Object;ILjava/lang/Object;II)V"⟩ ∈ wsAll := wA5_in _ (List.mem_of_getElem? (i := 3) rfl)
theorem wm_104 : Cond.methodLink RX3 1 objectInit ∈ wsAll := wA5_in _ (List.mem_of_getElem? (i := 4) rfl)
theorem wm_105 : Cond.superclass RX3 "java/lang/Object" ∈ wsAll := wA5_in _ (List.mem_of_getElem? (i := 5) rfl)
theorem wm_106 : Cond.sameMethod "java/lang/Throwable" "java/lang/Throwable" "fillInStackTrace" "(I)Ljava/lang/Throwable;" ∈ wsAll := wA5_in _ (List.mem_of_getElem? (i := 6) rfl)
theorem wm_107 : Cond.selects "java/lang/Throwable" ⟨"java/lang/Throwable", "fillInStackTrace", "(I)Ljava/lang/Throwable;"⟩ ⟨"java/lang/Throwable", "fillInStackTrace", "(I)Ljava/lang/Throwable;"⟩ ∈ wsAll := wA5_in _ (List.mem_of_getElem? (i := 7) rfl)
theorem wm_108 : Cond.initialized RL ∈ wsAll := wA6_in _ (List.mem_of_getElem? (i := 0) rfl)
theorem wm_109 : Cond.initialized RX2 ∈ wsAll := wA6_in _ (List.mem_of_getElem? (i := 1) rfl)
theorem wm_110 : Cond.initialized "java/lang/Math" ∈ wsAll := wA6_in _ (List.mem_of_getElem? (i := 2) rfl)
theorem wm_111 : Cond.initialized RX0 ∈ wsAll := wA6_in _ (List.mem_of_getElem? (i := 3) rfl)
theorem wm_112 : Cond.initialized RX1 ∈ wsAll := wA6_in _ (List.mem_of_getElem? (i := 4) rfl)
theorem wm_113 : Cond.initialized RJ7 ∈ wsAll := wA6_in _ (List.mem_of_getElem? (i := 5) rfl)
theorem wm_114 : Cond.initialized RX3 ∈ wsAll := wA6_in _ (List.mem_of_getElem? (i := 6) rfl)
theorem wm_115 : Cond.initialized "java/lang/System" ∈ wsAll := wA6_in _ (List.mem_of_getElem? (i := 7) rfl)
theorem wm_116 : Cond.classLink RL 8 RX2 ∈ wsAll := wA6_in _ (List.mem_of_getElem? (i := 8) rfl)
theorem wm_117 : Cond.instantiable RX2 10 ∈ wsAll := wA6_in _ (List.mem_of_getElem? (i := 9) rfl)
theorem wm_118 : Cond.methodLink RL 61 yX2_init ∈ wsAll := wA6_in _ (List.mem_of_getElem? (i := 10) rfl)
theorem wm_119 : Cond.instanceMethod yX2_init ∈ wsAll := wA6_in _ (List.mem_of_getElem? (i := 11) rfl)
theorem wm_120 : Cond.code yX2_init prog_1_method_1_code 5 none ∈ wsAll := wA6_in _ (List.mem_of_getElem? (i := 12) rfl)
theorem wm_121 : Cond.methodLink RX2 9 yX2_nearest ∈ wsAll := wA6_in _ (List.mem_of_getElem? (i := 13) rfl)
theorem wm_122 : Cond.static yX2_nearest ∈ wsAll := wA6_in _ (List.mem_of_getElem? (i := 14) rfl)
theorem wm_123 : Cond.code yX2_nearest prog_1_method_22_code 3 (some .int) ∈ wsAll := wA6_in _ (List.mem_of_getElem? (i := 15) rfl)
theorem wm_124 : Cond.methodLink RX2 178 ⟨"java/lang/Math", "min", "(II)I"⟩ ∈ wsAll := wA6_in _ (List.mem_of_getElem? (i := 16) rfl)
theorem wm_125 : Cond.static ⟨"java/lang/Math", "min", "(II)I"⟩ ∈ wsAll := wA6_in _ (List.mem_of_getElem? (i := 17) rfl)
theorem wm_126 : Cond.code ⟨"java/lang/Math", "min", "(II)I"⟩ prog_10_method_69_code 2 (some .int) ∈ wsAll := wA6_in _ (List.mem_of_getElem? (i := 18) rfl)
theorem wm_127 : Cond.methodLink RX2 123 ⟨"java/lang/Math", "max", "(II)I"⟩ ∈ wsAll := wA6_in _ (List.mem_of_getElem? (i := 19) rfl)
theorem wm_128 : Cond.static ⟨"java/lang/Math", "max", "(II)I"⟩ ∈ wsAll := wA7_in _ (List.mem_of_getElem? (i := 0) rfl)
theorem wm_129 : Cond.code ⟨"java/lang/Math", "max", "(II)I"⟩ prog_10_method_65_code 2 (some .int) ∈ wsAll := wA7_in _ (List.mem_of_getElem? (i := 1) rfl)
theorem wm_130 : Cond.classLink RX2 33 RX0 ∈ wsAll := wA7_in _ (List.mem_of_getElem? (i := 2) rfl)
theorem wm_131 : Cond.instantiable RX0 3 ∈ wsAll := wA7_in _ (List.mem_of_getElem? (i := 3) rfl)
theorem wm_132 : Cond.methodLink RX2 39 yX0_init ∈ wsAll := wA7_in _ (List.mem_of_getElem? (i := 4) rfl)
theorem wm_133 : Cond.instanceMethod yX0_init ∈ wsAll := wA7_in _ (List.mem_of_getElem? (i := 5) rfl)
theorem wm_134 : Cond.code yX0_init prog_2_method_1_code 1 none ∈ wsAll := wA7_in _ (List.mem_of_getElem? (i := 6) rfl)
theorem wm_135 : Cond.fieldLink RX0 9 RX0 "kind" "I" ∈ wsAll := wA7_in _ (List.mem_of_getElem? (i := 7) rfl)
theorem wm_136 : Cond.fieldLink RX0 15 RX0 "radius" "I" ∈ wsAll := wA7_in _ (List.mem_of_getElem? (i := 8) rfl)
theorem wm_137 : Cond.fieldLink RX0 18 RX0 "depths" "[I" ∈ wsAll := wA7_in _ (List.mem_of_getElem? (i := 9) rfl)
theorem wm_138 : Cond.lays RX0 RX0 "kind" "I" ∈ wsAll := wA7_in _ (List.mem_of_getElem? (i := 10) rfl)
theorem wm_139 : Cond.soleField RX0 "kind" ∈ wsAll := wA7_in _ (List.mem_of_getElem? (i := 11) rfl)
theorem wm_140 : Cond.lays RX0 RX0 "radius" "I" ∈ wsAll := wA7_in _ (List.mem_of_getElem? (i := 12) rfl)
theorem wm_141 : Cond.soleField RX0 "radius" ∈ wsAll := wA7_in _ (List.mem_of_getElem? (i := 13) rfl)
theorem wm_142 : Cond.laysFinal RX0 RX0 "depths" "[I" ∈ wsAll := wA7_in _ (List.mem_of_getElem? (i := 14) rfl)
theorem wm_143 : Cond.soleField RX0 "depths" ∈ wsAll := wA7_in _ (List.mem_of_getElem? (i := 15) rfl)
theorem wm_144 : Cond.arrayClass .int ∈ wsAll := wA7_in _ (List.mem_of_getElem? (i := 16) rfl)
theorem wm_145 : Cond.classLink RX2 40 RX1 ∈ wsAll := wA7_in _ (List.mem_of_getElem? (i := 17) rfl)
theorem wm_146 : Cond.instantiable RX1 6 ∈ wsAll := wA7_in _ (List.mem_of_getElem? (i := 18) rfl)
theorem wm_147 : Cond.methodLink RX2 42 yX1_init ∈ wsAll := wA7_in _ (List.mem_of_getElem? (i := 19) rfl)
theorem wm_148 : Cond.instanceMethod yX1_init ∈ wsAll := wA8_in _ (List.mem_of_getElem? (i := 0) rfl)
theorem wm_149 : Cond.code yX1_init prog_3_method_1_code 1 none ∈ wsAll := wA8_in _ (List.mem_of_getElem? (i := 1) rfl)
theorem wm_150 : Cond.fieldLink RX1 11 RX1 "kept" "[I" ∈ wsAll := wA8_in _ (List.mem_of_getElem? (i := 2) rfl)
theorem wm_151 : Cond.fieldLink RX1 15 RX1 "count" "I" ∈ wsAll := wA8_in _ (List.mem_of_getElem? (i := 3) rfl)
theorem wm_152 : Cond.fieldLink RX1 19 RX1 "length" "J" ∈ wsAll := wA8_in _ (List.mem_of_getElem? (i := 4) rfl)
theorem wm_153 : Cond.fieldLink RX1 23 RX1 "lastX" "I" ∈ wsAll := wA8_in _ (List.mem_of_getElem? (i := 5) rfl)
theorem wm_154 : Cond.fieldLink RX1 26 RX1 "lastY" "I" ∈ wsAll := wA8_in _ (List.mem_of_getElem? (i := 6) rfl)
theorem wm_155 : Cond.fieldLink RX1 29 RX1 "lastZ" "I" ∈ wsAll := wA8_in _ (List.mem_of_getElem? (i := 7) rfl)
theorem wm_156 : Cond.laysFinal RX1 RX1 "kept" "[I" ∈ wsAll := wA8_in _ (List.mem_of_getElem? (i := 8) rfl)
theorem wm_157 : Cond.soleField RX1 "kept" ∈ wsAll := wA8_in _ (List.mem_of_getElem? (i := 9) rfl)
theorem wm_158 : Cond.lays RX1 RX1 "count" "I" ∈ wsAll := wA8_in _ (List.mem_of_getElem? (i := 10) rfl)
theorem wm_159 : Cond.soleField RX1 "count" ∈ wsAll := wA8_in _ (List.mem_of_getElem? (i := 11) rfl)
theorem wm_160 : Cond.lays RX1 RX1 "length" "J" ∈ wsAll := wA8_in _ (List.mem_of_getElem? (i := 12) rfl)
theorem wm_161 : Cond.soleField RX1 "length" ∈ wsAll := wA8_in _ (List.mem_of_getElem? (i := 13) rfl)
theorem wm_162 : Cond.lays RX1 RX1 "lastX" "I" ∈ wsAll := wA8_in _ (List.mem_of_getElem? (i := 14) rfl)
theorem wm_163 : Cond.soleField RX1 "lastX" ∈ wsAll := wA8_in _ (List.mem_of_getElem? (i := 15) rfl)
theorem wm_164 : Cond.lays RX1 RX1 "lastY" "I" ∈ wsAll := wA8_in _ (List.mem_of_getElem? (i := 16) rfl)
theorem wm_165 : Cond.soleField RX1 "lastY" ∈ wsAll := wA8_in _ (List.mem_of_getElem? (i := 17) rfl)
theorem wm_166 : Cond.lays RX1 RX1 "lastZ" "I" ∈ wsAll := wA8_in _ (List.mem_of_getElem? (i := 18) rfl)
theorem wm_167 : Cond.soleField RX1 "lastZ" ∈ wsAll := wA8_in _ (List.mem_of_getElem? (i := 19) rfl)
theorem wm_168 : Cond.methodLink RX2 54 yJ7_fill ∈ wsAll := wA9_in _ (List.mem_of_getElem? (i := 0) rfl)
theorem wm_169 : Cond.static yJ7_fill ∈ wsAll := wA9_in _ (List.mem_of_getElem? (i := 1) rfl)
theorem wm_170 : Cond.code yJ7_fill prog_15_method_103_code 4 none ∈ wsAll := wA9_in _ (List.mem_of_getElem? (i := 2) rfl)
theorem wm_171 : Cond.fieldLink RX2 13 RX2 "width" "I" ∈ wsAll := wA9_in _ (List.mem_of_getElem? (i := 3) rfl)
theorem wm_172 : Cond.fieldLink RX2 17 RX2 "height" "I" ∈ wsAll := wA9_in _ (List.mem_of_getElem? (i := 4) rfl)
theorem wm_173 : Cond.fieldLink RX2 20 RX2 "wantedHeights" "[I" ∈ wsAll := wA9_in _ (List.mem_of_getElem? (i := 5) rfl)
theorem wm_174 : Cond.fieldLink RX2 24 RX2 "madeHeights" "[I" ∈ wsAll := wA9_in _ (List.mem_of_getElem? (i := 6) rfl)
theorem wm_175 : Cond.fieldLink RX2 27 RX2 "keptHeights" "[I" ∈ wsAll := wA9_in _ (List.mem_of_getElem? (i := 7) rfl)
theorem wm_176 : Cond.fieldLink RX2 30 RX2 "lifts" "[I" ∈ wsAll := wA9_in _ (List.mem_of_getElem? (i := 8) rfl)
theorem wm_177 : Cond.fieldLink RX2 35 RX2 "tools" "[LReliefPasses$Tool;" ∈ wsAll := wA9_in _ (List.mem_of_getElem? (i := 9) rfl)
theorem wm_178 : Cond.fieldLink RX2 43 RX2 "track" "LReliefPasses$Track;" ∈ wsAll := wA9_in _ (List.mem_of_getElem? (i := 10) rfl)
theorem wm_179 : Cond.fieldLink RX2 47 RX2 "hasKept" "Z" ∈ wsAll := wA9_in _ (List.mem_of_getElem? (i := 11) rfl)
theorem wm_180 : Cond.fieldLink RX2 51 RX2 "stockHeight" "I" ∈ wsAll := wA9_in _ (List.mem_of_getElem? (i := 12) rfl)
theorem wm_181 : Cond.laysFinal RX2 RX2 "width" "I" ∈ wsAll := wA9_in _ (List.mem_of_getElem? (i := 13) rfl)
theorem wm_182 : Cond.soleField RX2 "width" ∈ wsAll := wA9_in _ (List.mem_of_getElem? (i := 14) rfl)
theorem wm_183 : Cond.laysFinal RX2 RX2 "height" "I" ∈ wsAll := wA9_in _ (List.mem_of_getElem? (i := 15) rfl)
theorem wm_184 : Cond.soleField RX2 "height" ∈ wsAll := wA9_in _ (List.mem_of_getElem? (i := 16) rfl)
theorem wm_185 : Cond.laysFinal RX2 RX2 "wantedHeights" "[I" ∈ wsAll := wA9_in _ (List.mem_of_getElem? (i := 17) rfl)
theorem wm_186 : Cond.soleField RX2 "wantedHeights" ∈ wsAll := wA9_in _ (List.mem_of_getElem? (i := 18) rfl)
theorem wm_187 : Cond.laysFinal RX2 RX2 "madeHeights" "[I" ∈ wsAll := wA9_in _ (List.mem_of_getElem? (i := 19) rfl)
theorem wm_188 : Cond.soleField RX2 "madeHeights" ∈ wsAll := wA10_in _ (List.mem_of_getElem? (i := 0) rfl)
theorem wm_189 : Cond.laysFinal RX2 RX2 "keptHeights" "[I" ∈ wsAll := wA10_in _ (List.mem_of_getElem? (i := 1) rfl)
theorem wm_190 : Cond.soleField RX2 "keptHeights" ∈ wsAll := wA10_in _ (List.mem_of_getElem? (i := 2) rfl)
theorem wm_191 : Cond.laysFinal RX2 RX2 "lifts" "[I" ∈ wsAll := wA10_in _ (List.mem_of_getElem? (i := 3) rfl)
theorem wm_192 : Cond.soleField RX2 "lifts" ∈ wsAll := wA10_in _ (List.mem_of_getElem? (i := 4) rfl)
theorem wm_193 : Cond.laysFinal RX2 RX2 "tools" "[LReliefPasses$Tool;" ∈ wsAll := wA10_in _ (List.mem_of_getElem? (i := 5) rfl)
theorem wm_194 : Cond.soleField RX2 "tools" ∈ wsAll := wA10_in _ (List.mem_of_getElem? (i := 6) rfl)
theorem wm_195 : Cond.laysFinal RX2 RX2 "track" "LReliefPasses$Track;" ∈ wsAll := wA10_in _ (List.mem_of_getElem? (i := 7) rfl)
theorem wm_196 : Cond.soleField RX2 "track" ∈ wsAll := wA10_in _ (List.mem_of_getElem? (i := 8) rfl)
theorem wm_197 : Cond.lays RX2 RX2 "hasKept" "Z" ∈ wsAll := wA10_in _ (List.mem_of_getElem? (i := 9) rfl)
theorem wm_198 : Cond.soleField RX2 "hasKept" ∈ wsAll := wA10_in _ (List.mem_of_getElem? (i := 10) rfl)
theorem wm_199 : Cond.lays RX2 RX2 "stockHeight" "I" ∈ wsAll := wA10_in _ (List.mem_of_getElem? (i := 11) rfl)
theorem wm_200 : Cond.soleField RX2 "stockHeight" ∈ wsAll := wA10_in _ (List.mem_of_getElem? (i := 12) rfl)
theorem wm_201 : Cond.methodLink RL 98 yX2_below ∈ wsAll := wA10_in _ (List.mem_of_getElem? (i := 13) rfl)
theorem wm_202 : Cond.instanceMethod yX2_below ∈ wsAll := wA10_in _ (List.mem_of_getElem? (i := 14) rfl)
theorem wm_203 : Cond.selects RX2 yX2_below yX2_below ∈ wsAll := wA10_in _ (List.mem_of_getElem? (i := 15) rfl)
theorem wm_204 : Cond.code yX2_below prog_1_method_10_code 2 (some .boolean) ∈ wsAll := wA10_in _ (List.mem_of_getElem? (i := 16) rfl)
theorem wm_205 : Cond.methodLink RX2 116 yX2_leftAt ∈ wsAll := wA10_in _ (List.mem_of_getElem? (i := 17) rfl)
theorem wm_206 : Cond.instanceMethod yX2_leftAt ∈ wsAll := wA10_in _ (List.mem_of_getElem? (i := 18) rfl)
theorem wm_207 : Cond.code yX2_leftAt prog_1_method_24_code 2 (some .int) ∈ wsAll := wA10_in _ (List.mem_of_getElem? (i := 19) rfl)
theorem wm_208 : Cond.methodLink RL 106 yX2_sum ∈ wsAll := wA11_in _ (List.mem_of_getElem? (i := 0) rfl)
theorem wm_209 : Cond.instanceMethod yX2_sum ∈ wsAll := wA11_in _ (List.mem_of_getElem? (i := 1) rfl)
theorem wm_210 : Cond.selects RX2 yX2_sum yX2_sum ∈ wsAll := wA11_in _ (List.mem_of_getElem? (i := 2) rfl)
theorem wm_211 : Cond.code yX2_sum prog_1_method_12_code 4 (some .long) ∈ wsAll := wA11_in _ (List.mem_of_getElem? (i := 3) rfl)
theorem wm_212 : Cond.methodLink RL 111 yX2_moves ∈ wsAll := wA11_in _ (List.mem_of_getElem? (i := 4) rfl)
theorem wm_213 : Cond.instanceMethod yX2_moves ∈ wsAll := wA11_in _ (List.mem_of_getElem? (i := 5) rfl)
theorem wm_214 : Cond.selects RX2 yX2_moves yX2_moves ∈ wsAll := wA11_in _ (List.mem_of_getElem? (i := 6) rfl)
theorem wm_215 : Cond.code yX2_moves prog_1_method_13_code 1 (some .int) ∈ wsAll := wA11_in _ (List.mem_of_getElem? (i := 7) rfl)
theorem wm_216 : Cond.methodLink RL 118 yX2_way ∈ wsAll := wA11_in _ (List.mem_of_getElem? (i := 8) rfl)
theorem wm_217 : Cond.instanceMethod yX2_way ∈ wsAll := wA11_in _ (List.mem_of_getElem? (i := 9) rfl)
theorem wm_218 : Cond.selects RX2 yX2_way yX2_way ∈ wsAll := wA11_in _ (List.mem_of_getElem? (i := 10) rfl)
theorem wm_219 : Cond.code yX2_way prog_1_method_15_code 1 (some .long) ∈ wsAll := wA11_in _ (List.mem_of_getElem? (i := 11) rfl)
theorem wm_220 : Cond.methodLink RL 55 yL_cell ∈ wsAll := wA11_in _ (List.mem_of_getElem? (i := 12) rfl)
theorem wm_221 : Cond.static yL_cell ∈ wsAll := wA11_in _ (List.mem_of_getElem? (i := 13) rfl)
theorem wm_222 : Cond.code yL_cell method_2_code 2 (some .int) ∈ wsAll := wA11_in _ (List.mem_of_getElem? (i := 14) rfl)
theorem wm_223 : Cond.methodLink RL 67 yL_put ∈ wsAll := wA11_in _ (List.mem_of_getElem? (i := 15) rfl)
theorem wm_224 : Cond.static yL_put ∈ wsAll := wA11_in _ (List.mem_of_getElem? (i := 16) rfl)
theorem wm_225 : Cond.codeWith yL_put method_3_code 6 (some .int) [(0, 19, 22, 13), (0, 19, 26, 15)] ∈ wsAll := wA11_in _ (List.mem_of_getElem? (i := 17) rfl)
theorem wm_226 : Cond.methodLink RL 7 yX2_put ∈ wsAll := wA11_in _ (List.mem_of_getElem? (i := 18) rfl)
theorem wm_227 : Cond.instanceMethod yX2_put ∈ wsAll := wA11_in _ (List.mem_of_getElem? (i := 19) rfl)
theorem wm_228 : Cond.selects RX2 yX2_put yX2_put ∈ wsAll := wA12_in _ (List.mem_of_getElem? (i := 0) rfl)
theorem wm_229 : Cond.code yX2_put prog_1_method_2_code 4 (some .boolean) ∈ wsAll := wA12_in _ (List.mem_of_getElem? (i := 1) rfl)
theorem wm_230 : Cond.methodLink RX2 60 yX2_needPlace ∈ wsAll := wA12_in _ (List.mem_of_getElem? (i := 2) rfl)
theorem wm_231 : Cond.instanceMethod yX2_needPlace ∈ wsAll := wA12_in _ (List.mem_of_getElem? (i := 3) rfl)
theorem wm_232 : Cond.code yX2_needPlace prog_1_method_18_code 3 none ∈ wsAll := wA12_in _ (List.mem_of_getElem? (i := 4) rfl)
theorem wm_233 : Cond.methodLink RX2 165 yX2_isWithin ∈ wsAll := wA12_in _ (List.mem_of_getElem? (i := 5) rfl)
theorem wm_234 : Cond.static yX2_isWithin ∈ wsAll := wA12_in _ (List.mem_of_getElem? (i := 6) rfl)
theorem wm_235 : Cond.code yX2_isWithin prog_1_method_21_code 3 (some .boolean) ∈ wsAll := wA12_in _ (List.mem_of_getElem? (i := 7) rfl)
theorem wm_236 : Cond.arrayClass .byte ∈ wsAll := wA12_in _ (List.mem_of_getElem? (i := 8) rfl)
theorem wm_237 : Cond.methodLink RX2 64 yX2_needWithin ∈ wsAll := wA12_in _ (List.mem_of_getElem? (i := 9) rfl)
theorem wm_238 : Cond.static yX2_needWithin ∈ wsAll := wA12_in _ (List.mem_of_getElem? (i := 10) rfl)
theorem wm_239 : Cond.code yX2_needWithin prog_1_method_20_code 3 none ∈ wsAll := wA12_in _ (List.mem_of_getElem? (i := 11) rfl)
theorem wm_240 : Cond.methodLink RX2 68 yX2_placeAt ∈ wsAll := wA12_in _ (List.mem_of_getElem? (i := 12) rfl)
theorem wm_241 : Cond.instanceMethod yX2_placeAt ∈ wsAll := wA12_in _ (List.mem_of_getElem? (i := 13) rfl)
theorem wm_242 : Cond.code yX2_placeAt prog_1_method_23_code 3 (some .int) ∈ wsAll := wA12_in _ (List.mem_of_getElem? (i := 14) rfl)
theorem wm_243 : Cond.methodLink RX2 72 yX2_setWanted ∈ wsAll := wA12_in _ (List.mem_of_getElem? (i := 15) rfl)
theorem wm_244 : Cond.instanceMethod yX2_setWanted ∈ wsAll := wA12_in _ (List.mem_of_getElem? (i := 16) rfl)
theorem wm_245 : Cond.code yX2_setWanted prog_1_method_25_code 4 (some .boolean) ∈ wsAll := wA12_in _ (List.mem_of_getElem? (i := 17) rfl)
theorem wm_246 : Cond.methodLink RL 75 yL_tool ∈ wsAll := wA12_in _ (List.mem_of_getElem? (i := 18) rfl)
theorem wm_247 : Cond.static yL_tool ∈ wsAll := wA12_in _ (List.mem_of_getElem? (i := 19) rfl)
theorem wm_248 : Cond.codeWith yL_tool method_4_code 6 (some .int) [(0, 19, 22, 13), (0, 19, 26, 15)] ∈ wsAll := wA13_in _ (List.mem_of_getElem? (i := 0) rfl)
theorem wm_249 : Cond.methodLink RL 17 yX2_tool ∈ wsAll := wA13_in _ (List.mem_of_getElem? (i := 1) rfl)
theorem wm_250 : Cond.instanceMethod yX2_tool ∈ wsAll := wA13_in _ (List.mem_of_getElem? (i := 2) rfl)
theorem wm_251 : Cond.selects RX2 yX2_tool yX2_tool ∈ wsAll := wA13_in _ (List.mem_of_getElem? (i := 3) rfl)
theorem wm_252 : Cond.code yX2_tool prog_1_method_3_code 4 (some .boolean) ∈ wsAll := wA13_in _ (List.mem_of_getElem? (i := 4) rfl)
theorem wm_253 : Cond.methodLink RX2 76 yX2_needTool ∈ wsAll := wA13_in _ (List.mem_of_getElem? (i := 5) rfl)
theorem wm_254 : Cond.static yX2_needTool ∈ wsAll := wA13_in _ (List.mem_of_getElem? (i := 6) rfl)
theorem wm_255 : Cond.code yX2_needTool prog_1_method_19_code 1 none ∈ wsAll := wA13_in _ (List.mem_of_getElem? (i := 7) rfl)
theorem wm_256 : Cond.methodLink RX2 80 yX0_become ∈ wsAll := wA13_in _ (List.mem_of_getElem? (i := 8) rfl)
theorem wm_257 : Cond.instanceMethod yX0_become ∈ wsAll := wA13_in _ (List.mem_of_getElem? (i := 9) rfl)
theorem wm_258 : Cond.selects RX0 yX0_become yX0_become ∈ wsAll := wA13_in _ (List.mem_of_getElem? (i := 10) rfl)
theorem wm_259 : Cond.code yX0_become prog_2_method_2_code 6 (some .boolean) ∈ wsAll := wA13_in _ (List.mem_of_getElem? (i := 11) rfl)
theorem wm_260 : Cond.methodLink RX0 22 yX0_cellOf ∈ wsAll := wA13_in _ (List.mem_of_getElem? (i := 12) rfl)
theorem wm_261 : Cond.static yX0_cellOf ∈ wsAll := wA13_in _ (List.mem_of_getElem? (i := 13) rfl)
theorem wm_262 : Cond.code yX0_cellOf prog_2_method_4_code 2 (some .int) ∈ wsAll := wA13_in _ (List.mem_of_getElem? (i := 14) rfl)
theorem wm_263 : Cond.methodLink RX0 26 yX0_depthAtSquare ∈ wsAll := wA13_in _ (List.mem_of_getElem? (i := 15) rfl)
theorem wm_264 : Cond.instanceMethod yX0_depthAtSquare ∈ wsAll := wA13_in _ (List.mem_of_getElem? (i := 16) rfl)
theorem wm_265 : Cond.code yX0_depthAtSquare prog_2_method_5_code 3 (some .int) ∈ wsAll := wA13_in _ (List.mem_of_getElem? (i := 17) rfl)
theorem wm_266 : Cond.methodLink RX0 34 yX0_floorRoot ∈ wsAll := wA13_in _ (List.mem_of_getElem? (i := 18) rfl)
theorem wm_267 : Cond.static yX0_floorRoot ∈ wsAll := wA13_in _ (List.mem_of_getElem? (i := 19) rfl)
theorem wm_268 : Cond.code yX0_floorRoot prog_2_method_6_code 2 (some .int) ∈ wsAll := wA14_in _ (List.mem_of_getElem? (i := 0) rfl)
theorem wm_269 : Cond.methodLink RX0 37 yX0_ceilRoot ∈ wsAll := wA14_in _ (List.mem_of_getElem? (i := 1) rfl)
theorem wm_270 : Cond.static yX0_ceilRoot ∈ wsAll := wA14_in _ (List.mem_of_getElem? (i := 2) rfl)
theorem wm_271 : Cond.code yX0_ceilRoot prog_2_method_7_code 2 (some .int) ∈ wsAll := wA14_in _ (List.mem_of_getElem? (i := 3) rfl)
theorem wm_272 : Cond.methodLink RL 78 yL_stock ∈ wsAll := wA14_in _ (List.mem_of_getElem? (i := 4) rfl)
theorem wm_273 : Cond.static yL_stock ∈ wsAll := wA14_in _ (List.mem_of_getElem? (i := 5) rfl)
theorem wm_274 : Cond.codeWith yL_stock method_5_code 4 (some .int) [(0, 9, 12, 15), (0, 9, 15, 24)] ∈ wsAll := wA14_in _ (List.mem_of_getElem? (i := 6) rfl)
theorem wm_275 : Cond.methodLink RL 20 yX2_stock ∈ wsAll := wA14_in _ (List.mem_of_getElem? (i := 7) rfl)
theorem wm_276 : Cond.instanceMethod yX2_stock ∈ wsAll := wA14_in _ (List.mem_of_getElem? (i := 8) rfl)
theorem wm_277 : Cond.selects RX2 yX2_stock yX2_stock ∈ wsAll := wA14_in _ (List.mem_of_getElem? (i := 9) rfl)
theorem wm_278 : Cond.code yX2_stock prog_1_method_4_code 3 (some .int) ∈ wsAll := wA14_in _ (List.mem_of_getElem? (i := 10) rfl)
theorem wm_279 : Cond.methodLink RX2 83 yX2_greatestWanted ∈ wsAll := wA14_in _ (List.mem_of_getElem? (i := 11) rfl)
theorem wm_280 : Cond.instanceMethod yX2_greatestWanted ∈ wsAll := wA14_in _ (List.mem_of_getElem? (i := 12) rfl)
theorem wm_281 : Cond.code yX2_greatestWanted prog_1_method_26_code 6 (some .int) ∈ wsAll := wA14_in _ (List.mem_of_getElem? (i := 13) rfl)
theorem wm_282 : Cond.methodLink RL 82 yL_lift ∈ wsAll := wA14_in _ (List.mem_of_getElem? (i := 14) rfl)
theorem wm_283 : Cond.static yL_lift ∈ wsAll := wA14_in _ (List.mem_of_getElem? (i := 15) rfl)
theorem wm_284 : Cond.codeWith yL_lift method_6_code 6 (some .int) [(0, 12, 15, 13)] ∈ wsAll := wA14_in _ (List.mem_of_getElem? (i := 16) rfl)
theorem wm_285 : Cond.methodLink RL 26 yX2_lift ∈ wsAll := wA14_in _ (List.mem_of_getElem? (i := 17) rfl)
theorem wm_286 : Cond.instanceMethod yX2_lift ∈ wsAll := wA14_in _ (List.mem_of_getElem? (i := 18) rfl)
theorem wm_287 : Cond.selects RX2 yX2_lift yX2_lift ∈ wsAll := wA14_in _ (List.mem_of_getElem? (i := 19) rfl)
theorem wm_288 : Cond.code yX2_lift prog_1_method_5_code 4 (some .int) ∈ wsAll := wA15_in _ (List.mem_of_getElem? (i := 0) rfl)
theorem wm_289 : Cond.methodLink RX2 94 yX2_liftOver ∈ wsAll := wA15_in _ (List.mem_of_getElem? (i := 1) rfl)
theorem wm_290 : Cond.instanceMethod yX2_liftOver ∈ wsAll := wA15_in _ (List.mem_of_getElem? (i := 2) rfl)
theorem wm_291 : Cond.code yX2_liftOver prog_1_method_28_code 10 (some .int) ∈ wsAll := wA15_in _ (List.mem_of_getElem? (i := 3) rfl)
theorem wm_292 : Cond.methodLink RX2 98 yX0_depthOver ∈ wsAll := wA15_in _ (List.mem_of_getElem? (i := 4) rfl)
theorem wm_293 : Cond.instanceMethod yX0_depthOver ∈ wsAll := wA15_in _ (List.mem_of_getElem? (i := 5) rfl)
theorem wm_294 : Cond.selects RX0 yX0_depthOver yX0_depthOver ∈ wsAll := wA15_in _ (List.mem_of_getElem? (i := 6) rfl)
theorem wm_295 : Cond.code yX0_depthOver prog_2_method_3_code 3 (some .int) ∈ wsAll := wA15_in _ (List.mem_of_getElem? (i := 7) rfl)
theorem wm_296 : Cond.methodLink RL 85 yL_profile ∈ wsAll := wA15_in _ (List.mem_of_getElem? (i := 8) rfl)
theorem wm_297 : Cond.static yL_profile ∈ wsAll := wA15_in _ (List.mem_of_getElem? (i := 9) rfl)
theorem wm_298 : Cond.codeWith yL_profile method_7_code 6 (some .int) [(0, 12, 15, 13)] ∈ wsAll := wA15_in _ (List.mem_of_getElem? (i := 10) rfl)
theorem wm_299 : Cond.methodLink RL 30 yX2_profile ∈ wsAll := wA15_in _ (List.mem_of_getElem? (i := 11) rfl)
theorem wm_300 : Cond.instanceMethod yX2_profile ∈ wsAll := wA15_in _ (List.mem_of_getElem? (i := 12) rfl)
theorem wm_301 : Cond.selects RX2 yX2_profile yX2_profile ∈ wsAll := wA15_in _ (List.mem_of_getElem? (i := 13) rfl)
theorem wm_302 : Cond.code yX2_profile prog_1_method_6_code 4 (some .int) ∈ wsAll := wA15_in _ (List.mem_of_getElem? (i := 14) rfl)
theorem wm_303 : Cond.methodLink RL 88 yL_rough ∈ wsAll := wA15_in _ (List.mem_of_getElem? (i := 15) rfl)
theorem wm_304 : Cond.static yL_rough ∈ wsAll := wA15_in _ (List.mem_of_getElem? (i := 16) rfl)
theorem wm_305 : Cond.codeWith yL_rough method_8_code 6 (some .int) [(0, 12, 15, 13), (0, 12, 19, 15)] ∈ wsAll := wA15_in _ (List.mem_of_getElem? (i := 17) rfl)
theorem wm_306 : Cond.methodLink RL 33 yX2_rough ∈ wsAll := wA15_in _ (List.mem_of_getElem? (i := 18) rfl)
theorem wm_307 : Cond.instanceMethod yX2_rough ∈ wsAll := wA15_in _ (List.mem_of_getElem? (i := 19) rfl)
theorem wm_308 : Cond.selects RX2 yX2_rough yX2_rough ∈ wsAll := wA16_in _ (List.mem_of_getElem? (i := 0) rfl)
theorem wm_309 : Cond.code yX2_rough prog_1_method_7_code 6 (some .int) ∈ wsAll := wA16_in _ (List.mem_of_getElem? (i := 1) rfl)
theorem wm_310 : Cond.methodLink RX2 101 yX1_clear ∈ wsAll := wA16_in _ (List.mem_of_getElem? (i := 2) rfl)
theorem wm_311 : Cond.instanceMethod yX1_clear ∈ wsAll := wA16_in _ (List.mem_of_getElem? (i := 3) rfl)
theorem wm_312 : Cond.selects RX1 yX1_clear yX1_clear ∈ wsAll := wA16_in _ (List.mem_of_getElem? (i := 4) rfl)
theorem wm_313 : Cond.code yX1_clear prog_3_method_2_code 1 none ∈ wsAll := wA16_in _ (List.mem_of_getElem? (i := 5) rfl)
theorem wm_314 : Cond.methodLink RX2 104 yX2_findLifts ∈ wsAll := wA16_in _ (List.mem_of_getElem? (i := 6) rfl)
theorem wm_315 : Cond.instanceMethod yX2_findLifts ∈ wsAll := wA16_in _ (List.mem_of_getElem? (i := 7) rfl)
theorem wm_316 : Cond.code yX2_findLifts prog_1_method_30_code 4 none ∈ wsAll := wA16_in _ (List.mem_of_getElem? (i := 8) rfl)
theorem wm_317 : Cond.methodLink RX2 108 yX2_goAlongLevel ∈ wsAll := wA16_in _ (List.mem_of_getElem? (i := 9) rfl)
theorem wm_318 : Cond.instanceMethod yX2_goAlongLevel ∈ wsAll := wA16_in _ (List.mem_of_getElem? (i := 10) rfl)
theorem wm_319 : Cond.code yX2_goAlongLevel prog_1_method_31_code 10 (some .boolean) ∈ wsAll := wA16_in _ (List.mem_of_getElem? (i := 11) rfl)
theorem wm_320 : Cond.methodLink RX2 184 yX1_add ∈ wsAll := wA16_in _ (List.mem_of_getElem? (i := 12) rfl)
theorem wm_321 : Cond.instanceMethod yX1_add ∈ wsAll := wA16_in _ (List.mem_of_getElem? (i := 13) rfl)
theorem wm_322 : Cond.selects RX1 yX1_add yX1_add ∈ wsAll := wA16_in _ (List.mem_of_getElem? (i := 14) rfl)
theorem wm_323 : Cond.code yX1_add prog_3_method_3_code 4 none ∈ wsAll := wA16_in _ (List.mem_of_getElem? (i := 15) rfl)
theorem wm_324 : Cond.methodLink RX1 32 ⟨"java/lang/Math", "abs", "(I)I"⟩ ∈ wsAll := wA16_in _ (List.mem_of_getElem? (i := 16) rfl)
theorem wm_325 : Cond.static ⟨"java/lang/Math", "abs", "(I)I"⟩ ∈ wsAll := wA16_in _ (List.mem_of_getElem? (i := 17) rfl)
theorem wm_326 : Cond.code ⟨"java/lang/Math", "abs", "(I)I"⟩ prog_10_method_59_code 1 (some .int) ∈ wsAll := wA16_in _ (List.mem_of_getElem? (i := 18) rfl)
theorem wm_327 : Cond.methodLink RX2 187 yX2_carve ∈ wsAll := wA16_in _ (List.mem_of_getElem? (i := 19) rfl)
theorem wm_328 : Cond.instanceMethod yX2_carve ∈ wsAll := wA17_in _ (List.mem_of_getElem? (i := 0) rfl)
theorem wm_329 : Cond.code yX2_carve prog_1_method_29_code 11 none ∈ wsAll := wA17_in _ (List.mem_of_getElem? (i := 1) rfl)
theorem wm_330 : Cond.methodLink RL 91 yL_fine ∈ wsAll := wA17_in _ (List.mem_of_getElem? (i := 2) rfl)
theorem wm_331 : Cond.static yL_fine ∈ wsAll := wA17_in _ (List.mem_of_getElem? (i := 3) rfl)
theorem wm_332 : Cond.codeWith yL_fine method_9_code 5 (some .int) [(0, 10, 13, 13), (0, 10, 17, 15)] ∈ wsAll := wA17_in _ (List.mem_of_getElem? (i := 4) rfl)
theorem wm_333 : Cond.methodLink RL 36 yX2_fine ∈ wsAll := wA17_in _ (List.mem_of_getElem? (i := 5) rfl)
theorem wm_334 : Cond.instanceMethod yX2_fine ∈ wsAll := wA17_in _ (List.mem_of_getElem? (i := 6) rfl)
theorem wm_335 : Cond.selects RX2 yX2_fine yX2_fine ∈ wsAll := wA17_in _ (List.mem_of_getElem? (i := 7) rfl)
theorem wm_336 : Cond.code yX2_fine prog_1_method_8_code 5 (some .int) ∈ wsAll := wA17_in _ (List.mem_of_getElem? (i := 8) rfl)
theorem wm_337 : Cond.methodLink RX2 112 yX2_goAlongRow ∈ wsAll := wA17_in _ (List.mem_of_getElem? (i := 9) rfl)
theorem wm_338 : Cond.instanceMethod yX2_goAlongRow ∈ wsAll := wA17_in _ (List.mem_of_getElem? (i := 10) rfl)
theorem wm_339 : Cond.code yX2_goAlongRow prog_1_method_32_code 7 none ∈ wsAll := wA17_in _ (List.mem_of_getElem? (i := 11) rfl)
theorem wm_340 : Cond.methodLink RL 95 yL_made ∈ wsAll := wA17_in _ (List.mem_of_getElem? (i := 12) rfl)
theorem wm_341 : Cond.static yL_made ∈ wsAll := wA17_in _ (List.mem_of_getElem? (i := 13) rfl)
theorem wm_342 : Cond.codeWith yL_made method_10_code 5 (some .int) [(0, 10, 13, 13)] ∈ wsAll := wA17_in _ (List.mem_of_getElem? (i := 14) rfl)
theorem wm_343 : Cond.methodLink RL 40 yX2_made ∈ wsAll := wA17_in _ (List.mem_of_getElem? (i := 15) rfl)
theorem wm_344 : Cond.instanceMethod yX2_made ∈ wsAll := wA17_in _ (List.mem_of_getElem? (i := 16) rfl)
theorem wm_345 : Cond.selects RX2 yX2_made yX2_made ∈ wsAll := wA17_in _ (List.mem_of_getElem? (i := 17) rfl)
theorem wm_346 : Cond.code yX2_made prog_1_method_9_code 3 (some .int) ∈ wsAll := wA17_in _ (List.mem_of_getElem? (i := 18) rfl)
theorem wm_347 : Cond.methodLink RL 103 yL_rest ∈ wsAll := wA17_in _ (List.mem_of_getElem? (i := 19) rfl)
theorem wm_348 : Cond.static yL_rest ∈ wsAll := wA18_in _ (List.mem_of_getElem? (i := 0) rfl)
theorem wm_349 : Cond.codeWith yL_rest method_11_code 5 (some .int) [(0, 10, 13, 15)] ∈ wsAll := wA18_in _ (List.mem_of_getElem? (i := 1) rfl)
theorem wm_350 : Cond.methodLink RL 43 yX2_rest ∈ wsAll := wA18_in _ (List.mem_of_getElem? (i := 2) rfl)
theorem wm_351 : Cond.instanceMethod yX2_rest ∈ wsAll := wA18_in _ (List.mem_of_getElem? (i := 3) rfl)
theorem wm_352 : Cond.selects RX2 yX2_rest yX2_rest ∈ wsAll := wA18_in _ (List.mem_of_getElem? (i := 4) rfl)
theorem wm_353 : Cond.code yX2_rest prog_1_method_11_code 6 (some .int) ∈ wsAll := wA18_in _ (List.mem_of_getElem? (i := 5) rfl)
theorem wm_354 : Cond.constant RX2 122 2147483647 ∈ wsAll := wA18_in _ (List.mem_of_getElem? (i := 6) rfl)
theorem wm_355 : Cond.methodLink RL 115 yL_move ∈ wsAll := wA18_in _ (List.mem_of_getElem? (i := 7) rfl)
theorem wm_356 : Cond.static yL_move ∈ wsAll := wA18_in _ (List.mem_of_getElem? (i := 8) rfl)
theorem wm_357 : Cond.codeWith yL_move method_12_code 5 (some .int) [(0, 10, 13, 13), (0, 10, 17, 15)] ∈ wsAll := wA18_in _ (List.mem_of_getElem? (i := 9) rfl)
theorem wm_358 : Cond.methodLink RL 46 yX2_move ∈ wsAll := wA18_in _ (List.mem_of_getElem? (i := 10) rfl)
theorem wm_359 : Cond.instanceMethod yX2_move ∈ wsAll := wA18_in _ (List.mem_of_getElem? (i := 11) rfl)
theorem wm_360 : Cond.selects RX2 yX2_move yX2_move ∈ wsAll := wA18_in _ (List.mem_of_getElem? (i := 12) rfl)
theorem wm_361 : Cond.code yX2_move prog_1_method_14_code 3 (some .int) ∈ wsAll := wA18_in _ (List.mem_of_getElem? (i := 13) rfl)
theorem wm_362 : Cond.methodLink RX2 131 yX1_holds ∈ wsAll := wA18_in _ (List.mem_of_getElem? (i := 14) rfl)
theorem wm_363 : Cond.instanceMethod yX1_holds ∈ wsAll := wA18_in _ (List.mem_of_getElem? (i := 15) rfl)
theorem wm_364 : Cond.selects RX1 yX1_holds yX1_holds ∈ wsAll := wA18_in _ (List.mem_of_getElem? (i := 16) rfl)
theorem wm_365 : Cond.code yX1_holds prog_3_method_4_code 2 (some .boolean) ∈ wsAll := wA18_in _ (List.mem_of_getElem? (i := 17) rfl)
theorem wm_366 : Cond.methodLink RX2 140 yX1_xOf ∈ wsAll := wA18_in _ (List.mem_of_getElem? (i := 18) rfl)
theorem wm_367 : Cond.instanceMethod yX1_xOf ∈ wsAll := wA18_in _ (List.mem_of_getElem? (i := 19) rfl)
theorem wm_368 : Cond.selects RX1 yX1_xOf yX1_xOf ∈ wsAll := wA19_in _ (List.mem_of_getElem? (i := 0) rfl)
theorem wm_369 : Cond.code yX1_xOf prog_3_method_5_code 2 (some .int) ∈ wsAll := wA19_in _ (List.mem_of_getElem? (i := 1) rfl)
theorem wm_370 : Cond.methodLink RX2 143 yX1_yOf ∈ wsAll := wA19_in _ (List.mem_of_getElem? (i := 2) rfl)
theorem wm_371 : Cond.instanceMethod yX1_yOf ∈ wsAll := wA19_in _ (List.mem_of_getElem? (i := 3) rfl)
theorem wm_372 : Cond.selects RX1 yX1_yOf yX1_yOf ∈ wsAll := wA19_in _ (List.mem_of_getElem? (i := 4) rfl)
theorem wm_373 : Cond.code yX1_yOf prog_3_method_6_code 2 (some .int) ∈ wsAll := wA19_in _ (List.mem_of_getElem? (i := 5) rfl)
theorem wm_374 : Cond.methodLink RX2 146 yX1_zOf ∈ wsAll := wA19_in _ (List.mem_of_getElem? (i := 6) rfl)
theorem wm_375 : Cond.instanceMethod yX1_zOf ∈ wsAll := wA19_in _ (List.mem_of_getElem? (i := 7) rfl)
theorem wm_376 : Cond.selects RX1 yX1_zOf yX1_zOf ∈ wsAll := wA19_in _ (List.mem_of_getElem? (i := 8) rfl)
theorem wm_377 : Cond.code yX1_zOf prog_3_method_7_code 2 (some .int) ∈ wsAll := wA19_in _ (List.mem_of_getElem? (i := 9) rfl)
theorem wm_378 : Cond.methodLink RL 122 yL_repeat ∈ wsAll := wA19_in _ (List.mem_of_getElem? (i := 10) rfl)
theorem wm_379 : Cond.static yL_repeat ∈ wsAll := wA19_in _ (List.mem_of_getElem? (i := 11) rfl)
theorem wm_380 : Cond.codeWith yL_repeat method_13_code 5 (some .int) [(0, 10, 13, 15)] ∈ wsAll := wA19_in _ (List.mem_of_getElem? (i := 12) rfl)
theorem wm_381 : Cond.methodLink RL 49 yX2_repeat ∈ wsAll := wA19_in _ (List.mem_of_getElem? (i := 13) rfl)
theorem wm_382 : Cond.instanceMethod yX2_repeat ∈ wsAll := wA19_in _ (List.mem_of_getElem? (i := 14) rfl)
theorem wm_383 : Cond.selects RX2 yX2_repeat yX2_repeat ∈ wsAll := wA19_in _ (List.mem_of_getElem? (i := 15) rfl)
theorem wm_384 : Cond.code yX2_repeat prog_1_method_16_code 6 (some .int) ∈ wsAll := wA19_in _ (List.mem_of_getElem? (i := 16) rfl)
theorem wm_385 : Cond.methodLink RL 125 yL_merge ∈ wsAll := wA19_in _ (List.mem_of_getElem? (i := 17) rfl)
theorem wm_386 : Cond.static yL_merge ∈ wsAll := wA19_in _ (List.mem_of_getElem? (i := 18) rfl)
theorem wm_387 : Cond.codeWith yL_merge method_14_code 5 (some .int) [(0, 10, 13, 15), (0, 10, 17, 24)] ∈ wsAll := wA19_in _ (List.mem_of_getElem? (i := 19) rfl)
theorem wm_388 : Cond.methodLink RL 52 yX2_merge ∈ wsAll := wA20_in _ (List.mem_of_getElem? (i := 0) rfl)
theorem wm_389 : Cond.instanceMethod yX2_merge ∈ wsAll := wA20_in _ (List.mem_of_getElem? (i := 1) rfl)
theorem wm_390 : Cond.selects RX2 yX2_merge yX2_merge ∈ wsAll := wA20_in _ (List.mem_of_getElem? (i := 2) rfl)
theorem wm_391 : Cond.code yX2_merge prog_1_method_17_code 5 (some .int) ∈ wsAll := wA20_in _ (List.mem_of_getElem? (i := 3) rfl)
theorem wm_392 : Cond.methodLink RX2 161 yX2_merged ∈ wsAll := wA20_in _ (List.mem_of_getElem? (i := 4) rfl)
theorem wm_393 : Cond.static yX2_merged ∈ wsAll := wA20_in _ (List.mem_of_getElem? (i := 5) rfl)
theorem wm_394 : Cond.code yX2_merged prog_1_method_27_code 4 (some .int) ∈ wsAll := wA20_in _ (List.mem_of_getElem? (i := 6) rfl)
theorem wm_395 : Cond.classLink RL 64 RX3 ∈ wsAll := wA20_in _ (List.mem_of_getElem? (i := 7) rfl)
theorem wm_396 : Cond.instantiable RX3 18 ∈ wsAll := wA20_in _ (List.mem_of_getElem? (i := 8) rfl)
theorem wm_397 : Cond.methodLink RL 66 yX3_init ∈ wsAll := wA20_in _ (List.mem_of_getElem? (i := 9) rfl)
theorem wm_398 : Cond.instanceMethod yX3_init ∈ wsAll := wA20_in _ (List.mem_of_getElem? (i := 10) rfl)
theorem wm_399 : Cond.code yX3_init prog_5_method_1_code 4 none ∈ wsAll := wA20_in _ (List.mem_of_getElem? (i := 11) rfl)
theorem wm_400 : Cond.methodLink RX3 38 yX3_nearest ∈ wsAll := wA20_in _ (List.mem_of_getElem? (i := 12) rfl)
theorem wm_401 : Cond.static yX3_nearest ∈ wsAll := wA20_in _ (List.mem_of_getElem? (i := 13) rfl)
theorem wm_402 : Cond.code yX3_nearest prog_5_method_2_code 1 (some .int) ∈ wsAll := wA20_in _ (List.mem_of_getElem? (i := 14) rfl)
theorem wm_403 : Cond.fieldLink RX3 48 RX3 "code" "I" ∈ wsAll := wA20_in _ (List.mem_of_getElem? (i := 15) rfl)
theorem wm_404 : Cond.fieldLink RX3 42 RX3 "wide" "I" ∈ wsAll := wA20_in _ (List.mem_of_getElem? (i := 16) rfl)
theorem wm_405 : Cond.fieldLink RX3 45 RX3 "high" "I" ∈ wsAll := wA20_in _ (List.mem_of_getElem? (i := 17) rfl)
theorem wm_406 : Cond.fieldLink RX3 7 RX3 "wanted" "[I" ∈ wsAll := wA20_in _ (List.mem_of_getElem? (i := 18) rfl)
theorem wm_407 : Cond.fieldLink RX3 13 RX3 "made" "[I" ∈ wsAll := wA20_in _ (List.mem_of_getElem? (i := 19) rfl)
theorem wm_408 : Cond.fieldLink RX3 16 RX3 "kept" "[I" ∈ wsAll := wA21_in _ (List.mem_of_getElem? (i := 0) rfl)
theorem wm_409 : Cond.fieldLink RX3 106 RX3 "isKept" "Z" ∈ wsAll := wA21_in _ (List.mem_of_getElem? (i := 1) rfl)
theorem wm_410 : Cond.fieldLink RX3 19 RX3 "stock" "I" ∈ wsAll := wA21_in _ (List.mem_of_getElem? (i := 2) rfl)
theorem wm_411 : Cond.fieldLink RX3 23 RX3 "kinds" "[I" ∈ wsAll := wA21_in _ (List.mem_of_getElem? (i := 3) rfl)
theorem wm_412 : Cond.fieldLink RX3 26 RX3 "radii" "[I" ∈ wsAll := wA21_in _ (List.mem_of_getElem? (i := 4) rfl)
theorem wm_413 : Cond.fieldLink RX3 29 RX3 "tips" "[I" ∈ wsAll := wA21_in _ (List.mem_of_getElem? (i := 5) rfl)
theorem wm_414 : Cond.fieldLink RX3 32 RX3 "lifts" "[I" ∈ wsAll := wA21_in _ (List.mem_of_getElem? (i := 6) rfl)
theorem wm_415 : Cond.fieldLink RX3 70 RX3 "moves" "I" ∈ wsAll := wA21_in _ (List.mem_of_getElem? (i := 7) rfl)
theorem wm_416 : Cond.fieldLink RX3 35 RX3 "movesAt" "[I" ∈ wsAll := wA21_in _ (List.mem_of_getElem? (i := 8) rfl)
theorem wm_417 : Cond.fieldLink RX3 73 RX3 "way" "J" ∈ wsAll := wA21_in _ (List.mem_of_getElem? (i := 9) rfl)
theorem wm_418 : Cond.fieldLink RX3 77 RX3 "lastX" "I" ∈ wsAll := wA21_in _ (List.mem_of_getElem? (i := 10) rfl)
theorem wm_419 : Cond.fieldLink RX3 83 RX3 "lastY" "I" ∈ wsAll := wA21_in _ (List.mem_of_getElem? (i := 11) rfl)
theorem wm_420 : Cond.fieldLink RX3 86 RX3 "lastZ" "I" ∈ wsAll := wA21_in _ (List.mem_of_getElem? (i := 12) rfl)
theorem wm_421 : Cond.lays RX3 RX3 "code" "I" ∈ wsAll := wA21_in _ (List.mem_of_getElem? (i := 13) rfl)
theorem wm_422 : Cond.soleField RX3 "code" ∈ wsAll := wA21_in _ (List.mem_of_getElem? (i := 14) rfl)
theorem wm_423 : Cond.laysFinal RX3 RX3 "wide" "I" ∈ wsAll := wA21_in _ (List.mem_of_getElem? (i := 15) rfl)
theorem wm_424 : Cond.soleField RX3 "wide" ∈ wsAll := wA21_in _ (List.mem_of_getElem? (i := 16) rfl)
theorem wm_425 : Cond.laysFinal RX3 RX3 "high" "I" ∈ wsAll := wA21_in _ (List.mem_of_getElem? (i := 17) rfl)
theorem wm_426 : Cond.soleField RX3 "high" ∈ wsAll := wA21_in _ (List.mem_of_getElem? (i := 18) rfl)
theorem wm_427 : Cond.laysFinal RX3 RX3 "wanted" "[I" ∈ wsAll := wA21_in _ (List.mem_of_getElem? (i := 19) rfl)
theorem wm_428 : Cond.soleField RX3 "wanted" ∈ wsAll := wA22_in _ (List.mem_of_getElem? (i := 0) rfl)
theorem wm_429 : Cond.laysFinal RX3 RX3 "made" "[I" ∈ wsAll := wA22_in _ (List.mem_of_getElem? (i := 1) rfl)
theorem wm_430 : Cond.soleField RX3 "made" ∈ wsAll := wA22_in _ (List.mem_of_getElem? (i := 2) rfl)
theorem wm_431 : Cond.laysFinal RX3 RX3 "kept" "[I" ∈ wsAll := wA22_in _ (List.mem_of_getElem? (i := 3) rfl)
theorem wm_432 : Cond.soleField RX3 "kept" ∈ wsAll := wA22_in _ (List.mem_of_getElem? (i := 4) rfl)
theorem wm_433 : Cond.lays RX3 RX3 "isKept" "Z" ∈ wsAll := wA22_in _ (List.mem_of_getElem? (i := 5) rfl)
theorem wm_434 : Cond.soleField RX3 "isKept" ∈ wsAll := wA22_in _ (List.mem_of_getElem? (i := 6) rfl)
theorem wm_435 : Cond.lays RX3 RX3 "stock" "I" ∈ wsAll := wA22_in _ (List.mem_of_getElem? (i := 7) rfl)
theorem wm_436 : Cond.soleField RX3 "stock" ∈ wsAll := wA22_in _ (List.mem_of_getElem? (i := 8) rfl)
theorem wm_437 : Cond.laysFinal RX3 RX3 "kinds" "[I" ∈ wsAll := wA22_in _ (List.mem_of_getElem? (i := 9) rfl)
theorem wm_438 : Cond.soleField RX3 "kinds" ∈ wsAll := wA22_in _ (List.mem_of_getElem? (i := 10) rfl)
theorem wm_439 : Cond.laysFinal RX3 RX3 "radii" "[I" ∈ wsAll := wA22_in _ (List.mem_of_getElem? (i := 11) rfl)
theorem wm_440 : Cond.soleField RX3 "radii" ∈ wsAll := wA22_in _ (List.mem_of_getElem? (i := 12) rfl)
theorem wm_441 : Cond.laysFinal RX3 RX3 "tips" "[I" ∈ wsAll := wA22_in _ (List.mem_of_getElem? (i := 13) rfl)
theorem wm_442 : Cond.soleField RX3 "tips" ∈ wsAll := wA22_in _ (List.mem_of_getElem? (i := 14) rfl)
theorem wm_443 : Cond.laysFinal RX3 RX3 "lifts" "[I" ∈ wsAll := wA22_in _ (List.mem_of_getElem? (i := 15) rfl)
theorem wm_444 : Cond.soleField RX3 "lifts" ∈ wsAll := wA22_in _ (List.mem_of_getElem? (i := 16) rfl)
theorem wm_445 : Cond.lays RX3 RX3 "moves" "I" ∈ wsAll := wA22_in _ (List.mem_of_getElem? (i := 17) rfl)
theorem wm_446 : Cond.soleField RX3 "moves" ∈ wsAll := wA22_in _ (List.mem_of_getElem? (i := 18) rfl)
theorem wm_447 : Cond.laysFinal RX3 RX3 "movesAt" "[I" ∈ wsAll := wA22_in _ (List.mem_of_getElem? (i := 19) rfl)
theorem wm_448 : Cond.soleField RX3 "movesAt" ∈ wsAll := wA23_in _ (List.mem_of_getElem? (i := 0) rfl)
theorem wm_449 : Cond.lays RX3 RX3 "way" "J" ∈ wsAll := wA23_in _ (List.mem_of_getElem? (i := 1) rfl)
theorem wm_450 : Cond.soleField RX3 "way" ∈ wsAll := wA23_in _ (List.mem_of_getElem? (i := 2) rfl)
theorem wm_451 : Cond.lays RX3 RX3 "lastX" "I" ∈ wsAll := wA23_in _ (List.mem_of_getElem? (i := 3) rfl)
theorem wm_452 : Cond.soleField RX3 "lastX" ∈ wsAll := wA23_in _ (List.mem_of_getElem? (i := 4) rfl)
theorem wm_453 : Cond.lays RX3 RX3 "lastY" "I" ∈ wsAll := wA23_in _ (List.mem_of_getElem? (i := 5) rfl)
theorem wm_454 : Cond.soleField RX3 "lastY" ∈ wsAll := wA23_in _ (List.mem_of_getElem? (i := 6) rfl)
theorem wm_455 : Cond.lays RX3 RX3 "lastZ" "I" ∈ wsAll := wA23_in _ (List.mem_of_getElem? (i := 7) rfl)
theorem wm_456 : Cond.soleField RX3 "lastZ" ∈ wsAll := wA23_in _ (List.mem_of_getElem? (i := 8) rfl)
theorem wm_457 : Cond.methodLink RL 71 yX3_thrown ∈ wsAll := wA23_in _ (List.mem_of_getElem? (i := 9) rfl)
theorem wm_458 : Cond.instanceMethod yX3_thrown ∈ wsAll := wA23_in _ (List.mem_of_getElem? (i := 10) rfl)
theorem wm_459 : Cond.selects RX3 yX3_thrown yX3_thrown ∈ wsAll := wA23_in _ (List.mem_of_getElem? (i := 11) rfl)
theorem wm_460 : Cond.code yX3_thrown prog_5_method_3_code 1 (some .int) ∈ wsAll := wA23_in _ (List.mem_of_getElem? (i := 12) rfl)
theorem wm_461 : Cond.methodLink RL 70 yX3_put ∈ wsAll := wA23_in _ (List.mem_of_getElem? (i := 13) rfl)
theorem wm_462 : Cond.instanceMethod yX3_put ∈ wsAll := wA23_in _ (List.mem_of_getElem? (i := 14) rfl)
theorem wm_463 : Cond.selects RX3 yX3_put yX3_put ∈ wsAll := wA23_in _ (List.mem_of_getElem? (i := 15) rfl)
theorem wm_464 : Cond.code yX3_put prog_5_method_6_code 4 (some .boolean) ∈ wsAll := wA23_in _ (List.mem_of_getElem? (i := 16) rfl)
theorem wm_465 : Cond.methodLink RX3 51 yX3_isPlace ∈ wsAll := wA23_in _ (List.mem_of_getElem? (i := 17) rfl)
theorem wm_466 : Cond.instanceMethod yX3_isPlace ∈ wsAll := wA23_in _ (List.mem_of_getElem? (i := 18) rfl)
theorem wm_467 : Cond.code yX3_isPlace prog_5_method_5_code 3 (some .boolean) ∈ wsAll := wA23_in _ (List.mem_of_getElem? (i := 19) rfl)
theorem wm_468 : Cond.methodLink RX3 55 yX3_isIn ∈ wsAll := wA24_in _ (List.mem_of_getElem? (i := 0) rfl)
theorem wm_469 : Cond.static yX3_isIn ∈ wsAll := wA24_in _ (List.mem_of_getElem? (i := 1) rfl)
theorem wm_470 : Cond.code yX3_isIn prog_5_method_4_code 3 (some .boolean) ∈ wsAll := wA24_in _ (List.mem_of_getElem? (i := 2) rfl)
theorem wm_471 : Cond.methodLink RL 77 yX3_tool ∈ wsAll := wA24_in _ (List.mem_of_getElem? (i := 3) rfl)
theorem wm_472 : Cond.instanceMethod yX3_tool ∈ wsAll := wA24_in _ (List.mem_of_getElem? (i := 4) rfl)
theorem wm_473 : Cond.selects RX3 yX3_tool yX3_tool ∈ wsAll := wA24_in _ (List.mem_of_getElem? (i := 5) rfl)
theorem wm_474 : Cond.code yX3_tool prog_5_method_7_code 4 (some .boolean) ∈ wsAll := wA24_in _ (List.mem_of_getElem? (i := 6) rfl)
theorem wm_475 : Cond.methodLink RL 81 yX3_stock ∈ wsAll := wA24_in _ (List.mem_of_getElem? (i := 7) rfl)
theorem wm_476 : Cond.instanceMethod yX3_stock ∈ wsAll := wA24_in _ (List.mem_of_getElem? (i := 8) rfl)
theorem wm_477 : Cond.selects RX3 yX3_stock yX3_stock ∈ wsAll := wA24_in _ (List.mem_of_getElem? (i := 9) rfl)
theorem wm_478 : Cond.code yX3_stock prog_5_method_9_code 3 (some .int) ∈ wsAll := wA24_in _ (List.mem_of_getElem? (i := 10) rfl)
theorem wm_479 : Cond.methodLink RX3 59 yX3_greatest ∈ wsAll := wA24_in _ (List.mem_of_getElem? (i := 11) rfl)
theorem wm_480 : Cond.instanceMethod yX3_greatest ∈ wsAll := wA24_in _ (List.mem_of_getElem? (i := 12) rfl)
theorem wm_481 : Cond.code yX3_greatest prog_5_method_8_code 4 (some .int) ∈ wsAll := wA24_in _ (List.mem_of_getElem? (i := 13) rfl)
theorem wm_482 : Cond.methodLink RL 87 yX3_profile ∈ wsAll := wA24_in _ (List.mem_of_getElem? (i := 14) rfl)
theorem wm_483 : Cond.instanceMethod yX3_profile ∈ wsAll := wA24_in _ (List.mem_of_getElem? (i := 15) rfl)
theorem wm_484 : Cond.selects RX3 yX3_profile yX3_profile ∈ wsAll := wA24_in _ (List.mem_of_getElem? (i := 16) rfl)
theorem wm_485 : Cond.code yX3_profile prog_5_method_11_code 4 (some .int) ∈ wsAll := wA24_in _ (List.mem_of_getElem? (i := 17) rfl)
theorem wm_486 : Cond.methodLink RX3 63 yX3_profileOf ∈ wsAll := wA24_in _ (List.mem_of_getElem? (i := 18) rfl)
theorem wm_487 : Cond.instanceMethod yX3_profileOf ∈ wsAll := wA24_in _ (List.mem_of_getElem? (i := 19) rfl)
theorem wm_488 : Cond.code yX3_profileOf prog_5_method_10_code 7 (some .int) ∈ wsAll := wA25_in _ (List.mem_of_getElem? (i := 0) rfl)
theorem wm_489 : Cond.methodLink RL 84 yX3_lift ∈ wsAll := wA25_in _ (List.mem_of_getElem? (i := 1) rfl)
theorem wm_490 : Cond.instanceMethod yX3_lift ∈ wsAll := wA25_in _ (List.mem_of_getElem? (i := 2) rfl)
theorem wm_491 : Cond.selects RX3 yX3_lift yX3_lift ∈ wsAll := wA25_in _ (List.mem_of_getElem? (i := 3) rfl)
theorem wm_492 : Cond.code yX3_lift prog_5_method_13_code 4 (some .int) ∈ wsAll := wA25_in _ (List.mem_of_getElem? (i := 4) rfl)
theorem wm_493 : Cond.methodLink RX3 67 yX3_liftOf ∈ wsAll := wA25_in _ (List.mem_of_getElem? (i := 5) rfl)
theorem wm_494 : Cond.instanceMethod yX3_liftOf ∈ wsAll := wA25_in _ (List.mem_of_getElem? (i := 6) rfl)
theorem wm_495 : Cond.code yX3_liftOf prog_5_method_12_code 9 (some .int) ∈ wsAll := wA25_in _ (List.mem_of_getElem? (i := 7) rfl)
theorem wm_496 : Cond.methodLink RL 90 yX3_rough ∈ wsAll := wA25_in _ (List.mem_of_getElem? (i := 8) rfl)
theorem wm_497 : Cond.instanceMethod yX3_rough ∈ wsAll := wA25_in _ (List.mem_of_getElem? (i := 9) rfl)
theorem wm_498 : Cond.selects RX3 yX3_rough yX3_rough ∈ wsAll := wA25_in _ (List.mem_of_getElem? (i := 10) rfl)
theorem wm_499 : Cond.code yX3_rough prog_5_method_19_code 9 (some .int) ∈ wsAll := wA25_in _ (List.mem_of_getElem? (i := 11) rfl)
theorem wm_500 : Cond.methodLink RX3 89 yX3_begin ∈ wsAll := wA25_in _ (List.mem_of_getElem? (i := 12) rfl)
theorem wm_501 : Cond.instanceMethod yX3_begin ∈ wsAll := wA25_in _ (List.mem_of_getElem? (i := 13) rfl)
theorem wm_502 : Cond.code yX3_begin prog_5_method_15_code 1 none ∈ wsAll := wA25_in _ (List.mem_of_getElem? (i := 14) rfl)
theorem wm_503 : Cond.methodLink RX3 92 yX3_noTips ∈ wsAll := wA25_in _ (List.mem_of_getElem? (i := 15) rfl)
theorem wm_504 : Cond.instanceMethod yX3_noTips ∈ wsAll := wA25_in _ (List.mem_of_getElem? (i := 16) rfl)
theorem wm_505 : Cond.code yX3_noTips prog_5_method_17_code 2 none ∈ wsAll := wA25_in _ (List.mem_of_getElem? (i := 17) rfl)
theorem wm_506 : Cond.methodLink RX3 95 yX3_move3 ∈ wsAll := wA25_in _ (List.mem_of_getElem? (i := 18) rfl)
theorem wm_507 : Cond.instanceMethod yX3_move3 ∈ wsAll := wA25_in _ (List.mem_of_getElem? (i := 19) rfl)
theorem wm_508 : Cond.code yX3_move3 prog_5_method_16_code 4 none ∈ wsAll := wA26_in _ (List.mem_of_getElem? (i := 0) rfl)
theorem wm_509 : Cond.methodLink RX3 80 yX3_size ∈ wsAll := wA26_in _ (List.mem_of_getElem? (i := 1) rfl)
theorem wm_510 : Cond.static yX3_size ∈ wsAll := wA26_in _ (List.mem_of_getElem? (i := 2) rfl)
theorem wm_511 : Cond.code yX3_size prog_5_method_14_code 1 (some .int) ∈ wsAll := wA26_in _ (List.mem_of_getElem? (i := 3) rfl)
theorem wm_512 : Cond.methodLink RX3 99 yX3_carve ∈ wsAll := wA26_in _ (List.mem_of_getElem? (i := 4) rfl)
theorem wm_513 : Cond.instanceMethod yX3_carve ∈ wsAll := wA26_in _ (List.mem_of_getElem? (i := 5) rfl)
theorem wm_514 : Cond.code yX3_carve prog_5_method_18_code 9 none ∈ wsAll := wA26_in _ (List.mem_of_getElem? (i := 6) rfl)
theorem wm_515 : Cond.methodLink RL 94 yX3_fine ∈ wsAll := wA26_in _ (List.mem_of_getElem? (i := 7) rfl)
theorem wm_516 : Cond.instanceMethod yX3_fine ∈ wsAll := wA26_in _ (List.mem_of_getElem? (i := 8) rfl)
theorem wm_517 : Cond.selects RX3 yX3_fine yX3_fine ∈ wsAll := wA26_in _ (List.mem_of_getElem? (i := 9) rfl)
theorem wm_518 : Cond.code yX3_fine prog_5_method_20_code 7 (some .int) ∈ wsAll := wA26_in _ (List.mem_of_getElem? (i := 10) rfl)
theorem wm_519 : Cond.methodLink RL 97 yX3_made ∈ wsAll := wA26_in _ (List.mem_of_getElem? (i := 11) rfl)
theorem wm_520 : Cond.instanceMethod yX3_made ∈ wsAll := wA26_in _ (List.mem_of_getElem? (i := 12) rfl)
theorem wm_521 : Cond.selects RX3 yX3_made yX3_made ∈ wsAll := wA26_in _ (List.mem_of_getElem? (i := 13) rfl)
theorem wm_522 : Cond.code yX3_made prog_5_method_21_code 3 (some .int) ∈ wsAll := wA26_in _ (List.mem_of_getElem? (i := 14) rfl)
theorem wm_523 : Cond.methodLink RL 102 yX3_below ∈ wsAll := wA26_in _ (List.mem_of_getElem? (i := 15) rfl)
theorem wm_524 : Cond.instanceMethod yX3_below ∈ wsAll := wA26_in _ (List.mem_of_getElem? (i := 16) rfl)
theorem wm_525 : Cond.selects RX3 yX3_below yX3_below ∈ wsAll := wA26_in _ (List.mem_of_getElem? (i := 17) rfl)
theorem wm_526 : Cond.code yX3_below prog_5_method_23_code 4 (some .boolean) ∈ wsAll := wA26_in _ (List.mem_of_getElem? (i := 18) rfl)
theorem wm_527 : Cond.methodLink RX3 103 yX3_leftAt ∈ wsAll := wA26_in _ (List.mem_of_getElem? (i := 19) rfl)
theorem wm_528 : Cond.instanceMethod yX3_leftAt ∈ wsAll := wA27_in _ (List.mem_of_getElem? (i := 0) rfl)
theorem wm_529 : Cond.code yX3_leftAt prog_5_method_22_code 2 (some .int) ∈ wsAll := wA27_in _ (List.mem_of_getElem? (i := 1) rfl)
theorem wm_530 : Cond.methodLink RL 105 yX3_rest ∈ wsAll := wA27_in _ (List.mem_of_getElem? (i := 2) rfl)
theorem wm_531 : Cond.instanceMethod yX3_rest ∈ wsAll := wA27_in _ (List.mem_of_getElem? (i := 3) rfl)
theorem wm_532 : Cond.selects RX3 yX3_rest yX3_rest ∈ wsAll := wA27_in _ (List.mem_of_getElem? (i := 4) rfl)
theorem wm_533 : Cond.code yX3_rest prog_5_method_24_code 6 (some .int) ∈ wsAll := wA27_in _ (List.mem_of_getElem? (i := 5) rfl)
theorem wm_534 : Cond.methodLink RL 110 yX3_sum ∈ wsAll := wA27_in _ (List.mem_of_getElem? (i := 6) rfl)
theorem wm_535 : Cond.instanceMethod yX3_sum ∈ wsAll := wA27_in _ (List.mem_of_getElem? (i := 7) rfl)
theorem wm_536 : Cond.selects RX3 yX3_sum yX3_sum ∈ wsAll := wA27_in _ (List.mem_of_getElem? (i := 8) rfl)
theorem wm_537 : Cond.code yX3_sum prog_5_method_25_code 6 (some .long) ∈ wsAll := wA27_in _ (List.mem_of_getElem? (i := 9) rfl)
theorem wm_538 : Cond.methodLink RL 114 yX3_moves ∈ wsAll := wA27_in _ (List.mem_of_getElem? (i := 10) rfl)
theorem wm_539 : Cond.instanceMethod yX3_moves ∈ wsAll := wA27_in _ (List.mem_of_getElem? (i := 11) rfl)
theorem wm_540 : Cond.selects RX3 yX3_moves yX3_moves ∈ wsAll := wA27_in _ (List.mem_of_getElem? (i := 12) rfl)
theorem wm_541 : Cond.code yX3_moves prog_5_method_26_code 1 (some .int) ∈ wsAll := wA27_in _ (List.mem_of_getElem? (i := 13) rfl)
theorem wm_542 : Cond.methodLink RL 117 yX3_move ∈ wsAll := wA27_in _ (List.mem_of_getElem? (i := 14) rfl)
theorem wm_543 : Cond.instanceMethod yX3_move ∈ wsAll := wA27_in _ (List.mem_of_getElem? (i := 15) rfl)
theorem wm_544 : Cond.selects RX3 yX3_move yX3_move ∈ wsAll := wA27_in _ (List.mem_of_getElem? (i := 16) rfl)
theorem wm_545 : Cond.code yX3_move prog_5_method_27_code 3 (some .int) ∈ wsAll := wA27_in _ (List.mem_of_getElem? (i := 17) rfl)
theorem wm_546 : Cond.methodLink RL 121 yX3_way ∈ wsAll := wA27_in _ (List.mem_of_getElem? (i := 18) rfl)
theorem wm_547 : Cond.instanceMethod yX3_way ∈ wsAll := wA27_in _ (List.mem_of_getElem? (i := 19) rfl)
theorem wm_548 : Cond.selects RX3 yX3_way yX3_way ∈ wsAll := wA28_in _ (List.mem_of_getElem? (i := 0) rfl)
theorem wm_549 : Cond.code yX3_way prog_5_method_28_code 1 (some .long) ∈ wsAll := wA28_in _ (List.mem_of_getElem? (i := 1) rfl)
theorem wm_550 : Cond.methodLink RL 124 yX3_repeat ∈ wsAll := wA28_in _ (List.mem_of_getElem? (i := 2) rfl)
theorem wm_551 : Cond.instanceMethod yX3_repeat ∈ wsAll := wA28_in _ (List.mem_of_getElem? (i := 3) rfl)
theorem wm_552 : Cond.selects RX3 yX3_repeat yX3_repeat ∈ wsAll := wA28_in _ (List.mem_of_getElem? (i := 4) rfl)
theorem wm_553 : Cond.code yX3_repeat prog_5_method_29_code 7 (some .int) ∈ wsAll := wA28_in _ (List.mem_of_getElem? (i := 5) rfl)
theorem wm_554 : Cond.methodLink RL 127 yX3_merge ∈ wsAll := wA28_in _ (List.mem_of_getElem? (i := 6) rfl)
theorem wm_555 : Cond.instanceMethod yX3_merge ∈ wsAll := wA28_in _ (List.mem_of_getElem? (i := 7) rfl)
theorem wm_556 : Cond.selects RX3 yX3_merge yX3_merge ∈ wsAll := wA28_in _ (List.mem_of_getElem? (i := 8) rfl)
theorem wm_557 : Cond.code yX3_merge prog_5_method_30_code 8 (some .int) ∈ wsAll := wA28_in _ (List.mem_of_getElem? (i := 9) rfl)
theorem wm_558 : Cond.arrayClass .long ∈ wsAll := wA28_in _ (List.mem_of_getElem? (i := 10) rfl)
theorem wm_559 : Cond.selects RX2 yX2_leftAt yX2_leftAt ∈ wsAll := wA28_in _ (List.mem_of_getElem? (i := 11) rfl)
theorem wm_560 : Cond.selects RX2 yX2_needPlace yX2_needPlace ∈ wsAll := wA28_in _ (List.mem_of_getElem? (i := 12) rfl)
theorem wm_561 : Cond.selects RX2 yX2_placeAt yX2_placeAt ∈ wsAll := wA28_in _ (List.mem_of_getElem? (i := 13) rfl)
theorem wm_562 : Cond.selects RX2 yX2_setWanted yX2_setWanted ∈ wsAll := wA28_in _ (List.mem_of_getElem? (i := 14) rfl)
theorem wm_563 : Cond.selects RX0 yX0_depthAtSquare yX0_depthAtSquare ∈ wsAll := wA28_in _ (List.mem_of_getElem? (i := 15) rfl)
theorem wm_564 : Cond.selects RX2 yX2_greatestWanted yX2_greatestWanted ∈ wsAll := wA28_in _ (List.mem_of_getElem? (i := 16) rfl)
theorem wm_565 : Cond.selects RX2 yX2_liftOver yX2_liftOver ∈ wsAll := wA28_in _ (List.mem_of_getElem? (i := 17) rfl)
theorem wm_566 : Cond.selects RX2 yX2_findLifts yX2_findLifts ∈ wsAll := wA28_in _ (List.mem_of_getElem? (i := 18) rfl)
theorem wm_567 : Cond.selects RX2 yX2_goAlongLevel yX2_goAlongLevel ∈ wsAll := wA28_in _ (List.mem_of_getElem? (i := 19) rfl)
theorem wm_568 : Cond.selects RX2 yX2_carve yX2_carve ∈ wsAll := wA29_in _ (List.mem_of_getElem? (i := 0) rfl)
theorem wm_569 : Cond.selects RX2 yX2_goAlongRow yX2_goAlongRow ∈ wsAll := wA29_in _ (List.mem_of_getElem? (i := 1) rfl)
theorem wm_570 : Cond.selects RX3 yX3_isPlace yX3_isPlace ∈ wsAll := wA29_in _ (List.mem_of_getElem? (i := 2) rfl)
theorem wm_571 : Cond.selects RX3 yX3_greatest yX3_greatest ∈ wsAll := wA29_in _ (List.mem_of_getElem? (i := 3) rfl)
theorem wm_572 : Cond.selects RX3 yX3_profileOf yX3_profileOf ∈ wsAll := wA29_in _ (List.mem_of_getElem? (i := 4) rfl)
theorem wm_573 : Cond.selects RX3 yX3_liftOf yX3_liftOf ∈ wsAll := wA29_in _ (List.mem_of_getElem? (i := 5) rfl)
theorem wm_574 : Cond.selects RX3 yX3_begin yX3_begin ∈ wsAll := wA29_in _ (List.mem_of_getElem? (i := 6) rfl)
theorem wm_575 : Cond.selects RX3 yX3_noTips yX3_noTips ∈ wsAll := wA29_in _ (List.mem_of_getElem? (i := 7) rfl)
theorem wm_576 : Cond.selects RX3 yX3_move3 yX3_move3 ∈ wsAll := wA29_in _ (List.mem_of_getElem? (i := 8) rfl)
theorem wm_577 : Cond.selects RX3 yX3_carve yX3_carve ∈ wsAll := wA29_in _ (List.mem_of_getElem? (i := 9) rfl)
theorem wm_578 : Cond.selects RX3 yX3_leftAt yX3_leftAt ∈ wsAll := wA29_in _ (List.mem_of_getElem? (i := 10) rfl)
theorem wA0_g : ∀ w ∈ wA0, goodWord w = true := by decide +kernel
theorem wA1_g : ∀ w ∈ wA1, goodWord w = true := by decide +kernel
theorem wA2_g : ∀ w ∈ wA2, goodWord w = true := by decide +kernel
theorem wA3_g : ∀ w ∈ wA3, goodWord w = true := by decide +kernel
theorem wA4_g : ∀ w ∈ wA4, goodWord w = true := by decide +kernel
theorem wA5_g : ∀ w ∈ wA5, goodWord w = true := by decide +kernel
theorem wA6_g : ∀ w ∈ wA6, goodWord w = true := by decide +kernel
theorem wA7_g : ∀ w ∈ wA7, goodWord w = true := by decide +kernel
theorem wA8_g : ∀ w ∈ wA8, goodWord w = true := by decide +kernel
theorem wA9_g : ∀ w ∈ wA9, goodWord w = true := by decide +kernel
theorem wA10_g : ∀ w ∈ wA10, goodWord w = true := by decide +kernel
theorem wA11_g : ∀ w ∈ wA11, goodWord w = true := by decide +kernel
theorem wA12_g : ∀ w ∈ wA12, goodWord w = true := by decide +kernel
theorem wA13_g : ∀ w ∈ wA13, goodWord w = true := by decide +kernel
theorem wA14_g : ∀ w ∈ wA14, goodWord w = true := by decide +kernel
theorem wA15_g : ∀ w ∈ wA15, goodWord w = true := by decide +kernel
theorem wA16_g : ∀ w ∈ wA16, goodWord w = true := by decide +kernel
theorem wA17_g : ∀ w ∈ wA17, goodWord w = true := by decide +kernel
theorem wA18_g : ∀ w ∈ wA18, goodWord w = true := by decide +kernel
theorem wA19_g : ∀ w ∈ wA19, goodWord w = true := by decide +kernel
theorem wA20_g : ∀ w ∈ wA20, goodWord w = true := by decide +kernel
theorem wA21_g : ∀ w ∈ wA21, goodWord w = true := by decide +kernel
theorem wA22_g : ∀ w ∈ wA22, goodWord w = true := by decide +kernel
theorem wA23_g : ∀ w ∈ wA23, goodWord w = true := by decide +kernel
theorem wA24_g : ∀ w ∈ wA24, goodWord w = true := by decide +kernel
theorem wA25_g : ∀ w ∈ wA25, goodWord w = true := by decide +kernel
theorem wA26_g : ∀ w ∈ wA26, goodWord w = true := by decide +kernel
theorem wA27_g : ∀ w ∈ wA27, goodWord w = true := by decide +kernel
theorem wA28_g : ∀ w ∈ wA28, goodWord w = true := by decide +kernel
theorem wA29_g : ∀ w ∈ wA29, goodWord w = true := by decide +kernel
theorem wsE_g : ∀ w ∈ wsE, goodWord w = true := (fun w h => (List.mem_append.mp h).elim (wA0_g w) ((fun w h => (List.mem_append.mp h).elim (wA1_g w) ((fun w h => (List.mem_append.mp h).elim (wA2_g w) ((fun w h => (List.mem_append.mp h).elim (wA3_g w) ((fun w h => (List.mem_append.mp h).elim (wA4_g w) (wA5_g w)) w)) w)) w)) w))
theorem wsAll_g : ∀ w ∈ wsAll, goodWord w = true := fun w h => (List.mem_append.mp h).elim (wsE_g w) ((fun w h => (List.mem_append.mp h).elim (wA6_g w) ((fun w h => (List.mem_append.mp h).elim (wA7_g w) ((fun w h => (List.mem_append.mp h).elim (wA8_g w) ((fun w h => (List.mem_append.mp h).elim (wA9_g w) ((fun w h => (List.mem_append.mp h).elim (wA10_g w) ((fun w h => (List.mem_append.mp h).elim (wA11_g w) ((fun w h => (List.mem_append.mp h).elim (wA12_g w) ((fun w h => (List.mem_append.mp h).elim (wA13_g w) ((fun w h => (List.mem_append.mp h).elim (wA14_g w) ((fun w h => (List.mem_append.mp h).elim (wA15_g w) ((fun w h => (List.mem_append.mp h).elim (wA16_g w) ((fun w h => (List.mem_append.mp h).elim (wA17_g w) ((fun w h => (List.mem_append.mp h).elim (wA18_g w) ((fun w h => (List.mem_append.mp h).elim (wA19_g w) ((fun w h => (List.mem_append.mp h).elim (wA20_g w) ((fun w h => (List.mem_append.mp h).elim (wA21_g w) ((fun w h => (List.mem_append.mp h).elim (wA22_g w) ((fun w h => (List.mem_append.mp h).elim (wA23_g w) ((fun w h => (List.mem_append.mp h).elim (wA24_g w) ((fun w h => (List.mem_append.mp h).elim (wA25_g w) ((fun w h => (List.mem_append.mp h).elim (wA26_g w) ((fun w h => (List.mem_append.mp h).elim (wA27_g w) ((fun w h => (List.mem_append.mp h).elim (wA28_g w) (wA29_g w)) w)) w)) w)) w)) w)) w)) w)) w)) w)) w)) w)) w)) w)) w)) w)) w)) w)) w)) w)) w)) w)) w)) w)
theorem z_good {ws : List Cond} (h : ∀ w ∈ ws, w ∈ wsAll) : GoodIn wsAll ws := fun w hw => ⟨h w hw, good_of_word (wsAll_g w (h w hw))⟩
theorem wA0_t : ∀ w ∈ wA0, w ∈ lw_tbl := List.forall_mem_cons.mpr ⟨(List.mem_append_right (k2_sels lw_privs) (show _ ∈ tables_1_1 ++ (tables_1_2 ++ tables_1_3) from (List.mem_append_left _ (List.mem_of_getElem? (l := tables_1_1) (i := 7) rfl)))), List.forall_mem_cons.mpr ⟨(List.mem_append_right (k2_sels lw_privs) (show _ ∈ tables_1_1 ++ (tables_1_2 ++ tables_1_3) from (List.mem_append_left _ (List.mem_of_getElem? (l := tables_1_1) (i := 8) rfl)))), List.forall_mem_cons.mpr ⟨(List.mem_append_right (k2_sels lw_privs) (show _ ∈ tables_1_1 ++ (tables_1_2 ++ tables_1_3) from (List.mem_append_left _ (List.mem_of_getElem? (l := tables_1_1) (i := 9) rfl)))), List.forall_mem_cons.mpr ⟨(List.mem_append_right (k2_sels lw_privs) (show _ ∈ tables_1_1 ++ (tables_1_2 ++ tables_1_3) from (List.mem_append_left _ (List.mem_of_getElem? (l := tables_1_1) (i := 10) rfl)))), List.forall_mem_cons.mpr ⟨(List.mem_append_right (k2_sels lw_privs) (show _ ∈ tables_1_1 ++ (tables_1_2 ++ tables_1_3) from (List.mem_append_left _ (List.mem_of_getElem? (l := tables_1_1) (i := 11) rfl)))), List.forall_mem_cons.mpr ⟨(List.mem_append_right (k2_sels lw_privs) (show _ ∈ tables_1_1 ++ (tables_1_2 ++ tables_1_3) from (List.mem_append_left _ (List.mem_of_getElem? (l := tables_1_1) (i := 12) rfl)))), List.forall_mem_cons.mpr ⟨(List.mem_append_right (k2_sels lw_privs) (show _ ∈ tables_1_1 ++ (tables_1_2 ++ tables_1_3) from (List.mem_append_left _ (List.mem_of_getElem? (l := tables_1_1) (i := 19) rfl)))), List.forall_mem_cons.mpr ⟨(List.mem_append_right (k2_sels lw_privs) (show _ ∈ tables_1_1 ++ (tables_1_2 ++ tables_1_3) from (List.mem_append_left _ (List.mem_of_getElem? (l := tables_1_1) (i := 20) rfl)))), List.forall_mem_cons.mpr ⟨(List.mem_append_right (k2_sels lw_privs) (show _ ∈ tables_1_1 ++ (tables_1_2 ++ tables_1_3) from (List.mem_append_left _ (List.mem_of_getElem? (l := tables_1_1) (i := 21) rfl)))), List.forall_mem_cons.mpr ⟨(List.mem_append_right (k2_sels lw_privs) (show _ ∈ tables_1_1 ++ (tables_1_2 ++ tables_1_3) from (List.mem_append_left _ (List.mem_of_getElem? (l := tables_1_1) (i := 37) rfl)))), List.forall_mem_cons.mpr ⟨(List.mem_append_right (k2_sels lw_privs) (show _ ∈ tables_1_1 ++ (tables_1_2 ++ tables_1_3) from (List.mem_append_left _ (List.mem_of_getElem? (l := tables_1_1) (i := 48) rfl)))), List.forall_mem_cons.mpr ⟨(List.mem_append_right (k2_sels lw_privs) (show _ ∈ tables_1_1 ++ (tables_1_2 ++ tables_1_3) from (List.mem_append_left _ (List.mem_of_getElem? (l := tables_1_1) (i := 55) rfl)))), List.forall_mem_cons.mpr ⟨(List.mem_append_right (k2_sels lw_privs) (show _ ∈ tables_1_1 ++ (tables_1_2 ++ tables_1_3) from (List.mem_append_left _ (List.mem_of_getElem? (l := tables_1_1) (i := 76) rfl)))), List.forall_mem_cons.mpr ⟨(List.mem_append_right (k2_sels lw_privs) (show _ ∈ tables_1_1 ++ (tables_1_2 ++ tables_1_3) from (List.mem_append_left _ (List.mem_of_getElem? (l := tables_1_1) (i := 110) rfl)))), List.forall_mem_cons.mpr ⟨(List.mem_append_right (k2_sels lw_privs) (show _ ∈ tables_1_1 ++ (tables_1_2 ++ tables_1_3) from (List.mem_append_left _ (List.mem_of_getElem? (l := tables_1_1) (i := 137) rfl)))), List.forall_mem_cons.mpr ⟨(List.mem_append_right (k2_sels lw_privs) (show _ ∈ tables_1_1 ++ (tables_1_2 ++ tables_1_3) from (List.mem_append_left _ (List.mem_of_getElem? (l := tables_1_1) (i := 138) rfl)))), List.forall_mem_cons.mpr ⟨(List.mem_append_right (k2_sels lw_privs) (show _ ∈ tables_1_1 ++ (tables_1_2 ++ tables_1_3) from (List.mem_append_left _ (List.mem_of_getElem? (l := tables_1_1) (i := 150) rfl)))), List.forall_mem_cons.mpr ⟨(List.mem_append_right (k2_sels lw_privs) (show _ ∈ tables_1_1 ++ (tables_1_2 ++ tables_1_3) from (List.mem_append_left _ (List.mem_of_getElem? (l := tables_1_1) (i := 151) rfl)))), List.forall_mem_cons.mpr ⟨(List.mem_append_right (k2_sels lw_privs) (show _ ∈ tables_1_1 ++ (tables_1_2 ++ tables_1_3) from (List.mem_append_left _ (List.mem_of_getElem? (l := tables_1_1) (i := 159) rfl)))), List.forall_mem_cons.mpr ⟨(List.mem_append_right (k2_sels lw_privs) (show _ ∈ tables_1_1 ++ (tables_1_2 ++ tables_1_3) from (List.mem_append_left _ (List.mem_of_getElem? (l := tables_1_1) (i := 160) rfl)))), fun _ h => absurd h List.not_mem_nil⟩⟩⟩⟩⟩⟩⟩⟩⟩⟩⟩⟩⟩⟩⟩⟩⟩⟩⟩⟩
theorem wA1_t : ∀ w ∈ wA1, w ∈ lw_tbl := List.forall_mem_cons.mpr ⟨(List.mem_append_right (k2_sels lw_privs) (show _ ∈ tables_1_1 ++ (tables_1_2 ++ tables_1_3) from (List.mem_append_left _ (List.mem_of_getElem? (l := tables_1_1) (i := 161) rfl)))), List.forall_mem_cons.mpr ⟨(List.mem_append_right (k2_sels lw_privs) (show _ ∈ tables_1_1 ++ (tables_1_2 ++ tables_1_3) from (List.mem_append_left _ (List.mem_of_getElem? (l := tables_1_1) (i := 162) rfl)))), List.forall_mem_cons.mpr ⟨(List.mem_append_right (k2_sels lw_privs) (show _ ∈ tables_1_1 ++ (tables_1_2 ++ tables_1_3) from (List.mem_append_left _ (List.mem_of_getElem? (l := tables_1_1) (i := 163) rfl)))), List.forall_mem_cons.mpr ⟨(List.mem_append_right (k2_sels lw_privs) (show _ ∈ tables_1_1 ++ (tables_1_2 ++ tables_1_3) from (List.mem_append_left _ (List.mem_of_getElem? (l := tables_1_1) (i := 164) rfl)))), List.forall_mem_cons.mpr ⟨(List.mem_append_right (k2_sels lw_privs) (show _ ∈ tables_1_1 ++ (tables_1_2 ++ tables_1_3) from (List.mem_append_left _ (List.mem_of_getElem? (l := tables_1_1) (i := 165) rfl)))), List.forall_mem_cons.mpr ⟨(List.mem_append_right (k2_sels lw_privs) (show _ ∈ tables_1_1 ++ (tables_1_2 ++ tables_1_3) from (List.mem_append_left _ (List.mem_of_getElem? (l := tables_1_1) (i := 166) rfl)))), List.forall_mem_cons.mpr ⟨(List.mem_append_right (k2_sels lw_privs) (show _ ∈ tables_1_1 ++ (tables_1_2 ++ tables_1_3) from (List.mem_append_left _ (List.mem_of_getElem? (l := tables_1_1) (i := 167) rfl)))), List.forall_mem_cons.mpr ⟨(List.mem_append_right (k2_sels lw_privs) (show _ ∈ tables_1_1 ++ (tables_1_2 ++ tables_1_3) from (List.mem_append_left _ (List.mem_of_getElem? (l := tables_1_1) (i := 168) rfl)))), List.forall_mem_cons.mpr ⟨(List.mem_append_right (k2_sels lw_privs) (show _ ∈ tables_1_1 ++ (tables_1_2 ++ tables_1_3) from (List.mem_append_left _ (List.mem_of_getElem? (l := tables_1_1) (i := 169) rfl)))), List.forall_mem_cons.mpr ⟨(List.mem_append_right (k2_sels lw_privs) (show _ ∈ tables_1_1 ++ (tables_1_2 ++ tables_1_3) from (List.mem_append_left _ (List.mem_of_getElem? (l := tables_1_1) (i := 170) rfl)))), List.forall_mem_cons.mpr ⟨(List.mem_append_right (k2_sels lw_privs) (show _ ∈ tables_1_1 ++ (tables_1_2 ++ tables_1_3) from (List.mem_append_left _ (List.mem_of_getElem? (l := tables_1_1) (i := 171) rfl)))), List.forall_mem_cons.mpr ⟨(List.mem_append_right (k2_sels lw_privs) (show _ ∈ tables_1_1 ++ (tables_1_2 ++ tables_1_3) from (List.mem_append_left _ (List.mem_of_getElem? (l := tables_1_1) (i := 172) rfl)))), List.forall_mem_cons.mpr ⟨(List.mem_append_right (k2_sels lw_privs) (show _ ∈ tables_1_1 ++ (tables_1_2 ++ tables_1_3) from (List.mem_append_left _ (List.mem_of_getElem? (l := tables_1_1) (i := 173) rfl)))), List.forall_mem_cons.mpr ⟨(List.mem_append_right (k2_sels lw_privs) (show _ ∈ tables_1_1 ++ (tables_1_2 ++ tables_1_3) from (List.mem_append_left _ (List.mem_of_getElem? (l := tables_1_1) (i := 174) rfl)))), List.forall_mem_cons.mpr ⟨(List.mem_append_right (k2_sels lw_privs) (show _ ∈ tables_1_1 ++ (tables_1_2 ++ tables_1_3) from (List.mem_append_left _ (List.mem_of_getElem? (l := tables_1_1) (i := 175) rfl)))), List.forall_mem_cons.mpr ⟨(List.mem_append_right (k2_sels lw_privs) (show _ ∈ tables_1_1 ++ (tables_1_2 ++ tables_1_3) from (List.mem_append_left _ (List.mem_of_getElem? (l := tables_1_1) (i := 176) rfl)))), List.forall_mem_cons.mpr ⟨(List.mem_append_right (k2_sels lw_privs) (show _ ∈ tables_1_1 ++ (tables_1_2 ++ tables_1_3) from (List.mem_append_left _ (List.mem_of_getElem? (l := tables_1_1) (i := 178) rfl)))), List.forall_mem_cons.mpr ⟨(List.mem_append_right (k2_sels lw_privs) (show _ ∈ tables_1_1 ++ (tables_1_2 ++ tables_1_3) from (List.mem_append_left _ (List.mem_of_getElem? (l := tables_1_1) (i := 180) rfl)))), List.forall_mem_cons.mpr ⟨(List.mem_append_right (k2_sels lw_privs) (show _ ∈ tables_1_1 ++ (tables_1_2 ++ tables_1_3) from (List.mem_append_left _ (List.mem_of_getElem? (l := tables_1_1) (i := 181) rfl)))), List.forall_mem_cons.mpr ⟨(List.mem_append_right (k2_sels lw_privs) (show _ ∈ tables_1_1 ++ (tables_1_2 ++ tables_1_3) from (List.mem_append_left _ (List.mem_of_getElem? (l := tables_1_1) (i := 182) rfl)))), fun _ h => absurd h List.not_mem_nil⟩⟩⟩⟩⟩⟩⟩⟩⟩⟩⟩⟩⟩⟩⟩⟩⟩⟩⟩⟩
theorem wA2_t : ∀ w ∈ wA2, w ∈ lw_tbl := List.forall_mem_cons.mpr ⟨(List.mem_append_right (k2_sels lw_privs) (show _ ∈ tables_1_1 ++ (tables_1_2 ++ tables_1_3) from (List.mem_append_left _ (List.mem_of_getElem? (l := tables_1_1) (i := 183) rfl)))), List.forall_mem_cons.mpr ⟨(List.mem_append_right (k2_sels lw_privs) (show _ ∈ tables_1_1 ++ (tables_1_2 ++ tables_1_3) from (List.mem_append_left _ (List.mem_of_getElem? (l := tables_1_1) (i := 184) rfl)))), List.forall_mem_cons.mpr ⟨(List.mem_append_right (k2_sels lw_privs) (show _ ∈ tables_1_1 ++ (tables_1_2 ++ tables_1_3) from (List.mem_append_left _ (List.mem_of_getElem? (l := tables_1_1) (i := 185) rfl)))), List.forall_mem_cons.mpr ⟨(List.mem_append_right (k2_sels lw_privs) (show _ ∈ tables_1_1 ++ (tables_1_2 ++ tables_1_3) from (List.mem_append_left _ (List.mem_of_getElem? (l := tables_1_1) (i := 186) rfl)))), List.forall_mem_cons.mpr ⟨(List.mem_append_right (k2_sels lw_privs) (show _ ∈ tables_1_1 ++ (tables_1_2 ++ tables_1_3) from (List.mem_append_left _ (List.mem_of_getElem? (l := tables_1_1) (i := 188) rfl)))), List.forall_mem_cons.mpr ⟨(List.mem_append_right (k2_sels lw_privs) (show _ ∈ tables_1_1 ++ (tables_1_2 ++ tables_1_3) from (List.mem_append_left _ (List.mem_of_getElem? (l := tables_1_1) (i := 189) rfl)))), List.forall_mem_cons.mpr ⟨(List.mem_append_right (k2_sels lw_privs) (show _ ∈ tables_1_1 ++ (tables_1_2 ++ tables_1_3) from (List.mem_append_left _ (List.mem_of_getElem? (l := tables_1_1) (i := 190) rfl)))), List.forall_mem_cons.mpr ⟨(List.mem_append_right (k2_sels lw_privs) (show _ ∈ tables_1_1 ++ (tables_1_2 ++ tables_1_3) from (List.mem_append_left _ (List.mem_of_getElem? (l := tables_1_1) (i := 192) rfl)))), List.forall_mem_cons.mpr ⟨(List.mem_append_right (k2_sels lw_privs) (show _ ∈ tables_1_1 ++ (tables_1_2 ++ tables_1_3) from (List.mem_append_left _ (List.mem_of_getElem? (l := tables_1_1) (i := 193) rfl)))), List.forall_mem_cons.mpr ⟨(List.mem_append_right (k2_sels lw_privs) (show _ ∈ tables_1_1 ++ (tables_1_2 ++ tables_1_3) from (List.mem_append_left _ (List.mem_of_getElem? (l := tables_1_1) (i := 194) rfl)))), List.forall_mem_cons.mpr ⟨(List.mem_append_right (k2_sels lw_privs) (show _ ∈ tables_1_1 ++ (tables_1_2 ++ tables_1_3) from (List.mem_append_left _ (List.mem_of_getElem? (l := tables_1_1) (i := 195) rfl)))), List.forall_mem_cons.mpr ⟨(List.mem_append_right (k2_sels lw_privs) (show _ ∈ tables_1_1 ++ (tables_1_2 ++ tables_1_3) from (List.mem_append_left _ (List.mem_of_getElem? (l := tables_1_1) (i := 196) rfl)))), List.forall_mem_cons.mpr ⟨(List.mem_append_right (k2_sels lw_privs) (show _ ∈ tables_1_1 ++ (tables_1_2 ++ tables_1_3) from (List.mem_append_left _ (List.mem_of_getElem? (l := tables_1_1) (i := 197) rfl)))), List.forall_mem_cons.mpr ⟨(List.mem_append_right (k2_sels lw_privs) (show _ ∈ tables_1_1 ++ (tables_1_2 ++ tables_1_3) from (List.mem_append_left _ (List.mem_of_getElem? (l := tables_1_1) (i := 198) rfl)))), List.forall_mem_cons.mpr ⟨(List.mem_append_right (k2_sels lw_privs) (show _ ∈ tables_1_1 ++ (tables_1_2 ++ tables_1_3) from (List.mem_append_left _ (List.mem_of_getElem? (l := tables_1_1) (i := 199) rfl)))), List.forall_mem_cons.mpr ⟨(List.mem_append_right (k2_sels lw_privs) (show _ ∈ tables_1_1 ++ (tables_1_2 ++ tables_1_3) from (List.mem_append_left _ (List.mem_of_getElem? (l := tables_1_1) (i := 200) rfl)))), List.forall_mem_cons.mpr ⟨(List.mem_append_right (k2_sels lw_privs) (show _ ∈ tables_1_1 ++ (tables_1_2 ++ tables_1_3) from (List.mem_append_left _ (List.mem_of_getElem? (l := tables_1_1) (i := 201) rfl)))), List.forall_mem_cons.mpr ⟨(List.mem_append_right (k2_sels lw_privs) (show _ ∈ tables_1_1 ++ (tables_1_2 ++ tables_1_3) from (List.mem_append_left _ (List.mem_of_getElem? (l := tables_1_1) (i := 202) rfl)))), List.forall_mem_cons.mpr ⟨(List.mem_append_right (k2_sels lw_privs) (show _ ∈ tables_1_1 ++ (tables_1_2 ++ tables_1_3) from (List.mem_append_left _ (List.mem_of_getElem? (l := tables_1_1) (i := 203) rfl)))), List.forall_mem_cons.mpr ⟨(List.mem_append_right (k2_sels lw_privs) (show _ ∈ tables_1_1 ++ (tables_1_2 ++ tables_1_3) from (List.mem_append_left _ (List.mem_of_getElem? (l := tables_1_1) (i := 204) rfl)))), fun _ h => absurd h List.not_mem_nil⟩⟩⟩⟩⟩⟩⟩⟩⟩⟩⟩⟩⟩⟩⟩⟩⟩⟩⟩⟩
theorem wA3_t : ∀ w ∈ wA3, w ∈ lw_tbl := List.forall_mem_cons.mpr ⟨(List.mem_append_right (k2_sels lw_privs) (show _ ∈ tables_1_1 ++ (tables_1_2 ++ tables_1_3) from (List.mem_append_left _ (List.mem_of_getElem? (l := tables_1_1) (i := 205) rfl)))), List.forall_mem_cons.mpr ⟨(List.mem_append_right (k2_sels lw_privs) (show _ ∈ tables_1_1 ++ (tables_1_2 ++ tables_1_3) from (List.mem_append_left _ (List.mem_of_getElem? (l := tables_1_1) (i := 206) rfl)))), List.forall_mem_cons.mpr ⟨(List.mem_append_right (k2_sels lw_privs) (show _ ∈ tables_1_1 ++ (tables_1_2 ++ tables_1_3) from (List.mem_append_left _ (List.mem_of_getElem? (l := tables_1_1) (i := 207) rfl)))), List.forall_mem_cons.mpr ⟨(List.mem_append_right (k2_sels lw_privs) (show _ ∈ tables_1_1 ++ (tables_1_2 ++ tables_1_3) from (List.mem_append_left _ (List.mem_of_getElem? (l := tables_1_1) (i := 208) rfl)))), List.forall_mem_cons.mpr ⟨(List.mem_append_right (k2_sels lw_privs) (show _ ∈ tables_1_1 ++ (tables_1_2 ++ tables_1_3) from (List.mem_append_left _ (List.mem_of_getElem? (l := tables_1_1) (i := 209) rfl)))), List.forall_mem_cons.mpr ⟨(List.mem_append_right (k2_sels lw_privs) (show _ ∈ tables_1_1 ++ (tables_1_2 ++ tables_1_3) from (List.mem_append_left _ (List.mem_of_getElem? (l := tables_1_1) (i := 210) rfl)))), List.forall_mem_cons.mpr ⟨(List.mem_append_right (k2_sels lw_privs) (show _ ∈ tables_1_1 ++ (tables_1_2 ++ tables_1_3) from (List.mem_append_left _ (List.mem_of_getElem? (l := tables_1_1) (i := 211) rfl)))), List.forall_mem_cons.mpr ⟨(List.mem_append_right (k2_sels lw_privs) (show _ ∈ tables_1_1 ++ (tables_1_2 ++ tables_1_3) from (List.mem_append_left _ (List.mem_of_getElem? (l := tables_1_1) (i := 212) rfl)))), List.forall_mem_cons.mpr ⟨(List.mem_append_right (k2_sels lw_privs) (show _ ∈ tables_1_1 ++ (tables_1_2 ++ tables_1_3) from (List.mem_append_left _ (List.mem_of_getElem? (l := tables_1_1) (i := 213) rfl)))), List.forall_mem_cons.mpr ⟨(List.mem_append_right (k2_sels lw_privs) (show _ ∈ tables_1_1 ++ (tables_1_2 ++ tables_1_3) from (List.mem_append_left _ (List.mem_of_getElem? (l := tables_1_1) (i := 214) rfl)))), List.forall_mem_cons.mpr ⟨(List.mem_append_right (k2_sels lw_privs) (show _ ∈ tables_1_1 ++ (tables_1_2 ++ tables_1_3) from (List.mem_append_left _ (List.mem_of_getElem? (l := tables_1_1) (i := 215) rfl)))), List.forall_mem_cons.mpr ⟨(List.mem_append_right (k2_sels lw_privs) (show _ ∈ tables_1_1 ++ (tables_1_2 ++ tables_1_3) from (List.mem_append_left _ (List.mem_of_getElem? (l := tables_1_1) (i := 216) rfl)))), List.forall_mem_cons.mpr ⟨(List.mem_append_right (k2_sels lw_privs) (show _ ∈ tables_1_1 ++ (tables_1_2 ++ tables_1_3) from (List.mem_append_left _ (List.mem_of_getElem? (l := tables_1_1) (i := 221) rfl)))), List.forall_mem_cons.mpr ⟨(List.mem_append_right (k2_sels lw_privs) (show _ ∈ tables_1_1 ++ (tables_1_2 ++ tables_1_3) from (List.mem_append_left _ (List.mem_of_getElem? (l := tables_1_1) (i := 222) rfl)))), List.forall_mem_cons.mpr ⟨(List.mem_append_right (k2_sels lw_privs) (show _ ∈ tables_1_1 ++ (tables_1_2 ++ tables_1_3) from (List.mem_append_left _ (List.mem_of_getElem? (l := tables_1_1) (i := 224) rfl)))), List.forall_mem_cons.mpr ⟨(List.mem_append_right (k2_sels lw_privs) (show _ ∈ tables_1_1 ++ (tables_1_2 ++ tables_1_3) from (List.mem_append_left _ (List.mem_of_getElem? (l := tables_1_1) (i := 225) rfl)))), List.forall_mem_cons.mpr ⟨(List.mem_append_right (k2_sels lw_privs) (show _ ∈ tables_1_1 ++ (tables_1_2 ++ tables_1_3) from (List.mem_append_left _ (List.mem_of_getElem? (l := tables_1_1) (i := 226) rfl)))), List.forall_mem_cons.mpr ⟨(List.mem_append_right (k2_sels lw_privs) (show _ ∈ tables_1_1 ++ (tables_1_2 ++ tables_1_3) from (List.mem_append_left _ (List.mem_of_getElem? (l := tables_1_1) (i := 227) rfl)))), List.forall_mem_cons.mpr ⟨(List.mem_append_right (k2_sels lw_privs) (show _ ∈ tables_1_1 ++ (tables_1_2 ++ tables_1_3) from (List.mem_append_left _ (List.mem_of_getElem? (l := tables_1_1) (i := 228) rfl)))), List.forall_mem_cons.mpr ⟨(List.mem_append_right (k2_sels lw_privs) (show _ ∈ tables_1_1 ++ (tables_1_2 ++ tables_1_3) from (List.mem_append_left _ (List.mem_of_getElem? (l := tables_1_1) (i := 229) rfl)))), fun _ h => absurd h List.not_mem_nil⟩⟩⟩⟩⟩⟩⟩⟩⟩⟩⟩⟩⟩⟩⟩⟩⟩⟩⟩⟩
theorem wA4_t : ∀ w ∈ wA4, w ∈ lw_tbl := List.forall_mem_cons.mpr ⟨(List.mem_append_right (k2_sels lw_privs) (show _ ∈ tables_1_1 ++ (tables_1_2 ++ tables_1_3) from (List.mem_append_left _ (List.mem_of_getElem? (l := tables_1_1) (i := 231) rfl)))), List.forall_mem_cons.mpr ⟨(List.mem_append_right (k2_sels lw_privs) (show _ ∈ tables_1_1 ++ (tables_1_2 ++ tables_1_3) from (List.mem_append_left _ (List.mem_of_getElem? (l := tables_1_1) (i := 232) rfl)))), List.forall_mem_cons.mpr ⟨(List.mem_append_right (k2_sels lw_privs) (show _ ∈ tables_1_1 ++ (tables_1_2 ++ tables_1_3) from (List.mem_append_left _ (List.mem_of_getElem? (l := tables_1_1) (i := 233) rfl)))), List.forall_mem_cons.mpr ⟨(List.mem_append_right (k2_sels lw_privs) (show _ ∈ tables_1_1 ++ (tables_1_2 ++ tables_1_3) from (List.mem_append_left _ (List.mem_of_getElem? (l := tables_1_1) (i := 234) rfl)))), List.forall_mem_cons.mpr ⟨(List.mem_append_right (k2_sels lw_privs) (show _ ∈ tables_1_1 ++ (tables_1_2 ++ tables_1_3) from (List.mem_append_left _ (List.mem_of_getElem? (l := tables_1_1) (i := 235) rfl)))), List.forall_mem_cons.mpr ⟨(List.mem_append_right (k2_sels lw_privs) (show _ ∈ tables_1_1 ++ (tables_1_2 ++ tables_1_3) from (List.mem_append_left _ (List.mem_of_getElem? (l := tables_1_1) (i := 236) rfl)))), List.forall_mem_cons.mpr ⟨(List.mem_append_right (k2_sels lw_privs) (show _ ∈ tables_1_1 ++ (tables_1_2 ++ tables_1_3) from (List.mem_append_right _ (List.mem_append_left _ (List.mem_of_getElem? (l := tables_1_2) (i := 36) rfl))))), List.forall_mem_cons.mpr ⟨(List.mem_append_right (k2_sels lw_privs) (show _ ∈ tables_1_1 ++ (tables_1_2 ++ tables_1_3) from (List.mem_append_right _ (List.mem_append_left _ (List.mem_of_getElem? (l := tables_1_2) (i := 45) rfl))))), List.forall_mem_cons.mpr ⟨(List.mem_append_right (k2_sels lw_privs) (show _ ∈ tables_1_1 ++ (tables_1_2 ++ tables_1_3) from (List.mem_append_right _ (List.mem_append_left _ (List.mem_of_getElem? (l := tables_1_2) (i := 46) rfl))))), List.forall_mem_cons.mpr ⟨(List.mem_append_right (k2_sels lw_privs) (show _ ∈ tables_1_1 ++ (tables_1_2 ++ tables_1_3) from (List.mem_append_right _ (List.mem_append_left _ (List.mem_of_getElem? (l := tables_1_2) (i := 48) rfl))))), List.forall_mem_cons.mpr ⟨(List.mem_append_right (k2_sels lw_privs) (show _ ∈ tables_1_1 ++ (tables_1_2 ++ tables_1_3) from (List.mem_append_right _ (List.mem_append_left _ (List.mem_of_getElem? (l := tables_1_2) (i := 49) rfl))))), List.forall_mem_cons.mpr ⟨(List.mem_append_right (k2_sels lw_privs) (show _ ∈ tables_1_1 ++ (tables_1_2 ++ tables_1_3) from (List.mem_append_right _ (List.mem_append_left _ (List.mem_of_getElem? (l := tables_1_2) (i := 50) rfl))))), List.forall_mem_cons.mpr ⟨(List.mem_append_right (k2_sels lw_privs) (show _ ∈ tables_1_1 ++ (tables_1_2 ++ tables_1_3) from (List.mem_append_right _ (List.mem_append_left _ (List.mem_of_getElem? (l := tables_1_2) (i := 51) rfl))))), List.forall_mem_cons.mpr ⟨(List.mem_append_right (k2_sels lw_privs) (show _ ∈ tables_1_1 ++ (tables_1_2 ++ tables_1_3) from (List.mem_append_right _ (List.mem_append_left _ (List.mem_of_getElem? (l := tables_1_2) (i := 52) rfl))))), List.forall_mem_cons.mpr ⟨(List.mem_append_right (k2_sels lw_privs) (show _ ∈ tables_1_1 ++ (tables_1_2 ++ tables_1_3) from (List.mem_append_right _ (List.mem_append_left _ (List.mem_of_getElem? (l := tables_1_2) (i := 53) rfl))))), List.forall_mem_cons.mpr ⟨(List.mem_append_right (k2_sels lw_privs) (show _ ∈ tables_1_1 ++ (tables_1_2 ++ tables_1_3) from (List.mem_append_right _ (List.mem_append_left _ (List.mem_of_getElem? (l := tables_1_2) (i := 55) rfl))))), List.forall_mem_cons.mpr ⟨(List.mem_append_right (k2_sels lw_privs) (show _ ∈ tables_1_1 ++ (tables_1_2 ++ tables_1_3) from (List.mem_append_right _ (List.mem_append_left _ (List.mem_of_getElem? (l := tables_1_2) (i := 56) rfl))))), List.forall_mem_cons.mpr ⟨(List.mem_append_right (k2_sels lw_privs) (show _ ∈ tables_1_1 ++ (tables_1_2 ++ tables_1_3) from (List.mem_append_right _ (List.mem_append_left _ (List.mem_of_getElem? (l := tables_1_2) (i := 57) rfl))))), List.forall_mem_cons.mpr ⟨(List.mem_append_right (k2_sels lw_privs) (show _ ∈ tables_1_1 ++ (tables_1_2 ++ tables_1_3) from (List.mem_append_right _ (List.mem_append_left _ (List.mem_of_getElem? (l := tables_1_2) (i := 58) rfl))))), List.forall_mem_cons.mpr ⟨(List.mem_append_right (k2_sels lw_privs) (show _ ∈ tables_1_1 ++ (tables_1_2 ++ tables_1_3) from (List.mem_append_right _ (List.mem_append_left _ (List.mem_of_getElem? (l := tables_1_2) (i := 59) rfl))))), fun _ h => absurd h List.not_mem_nil⟩⟩⟩⟩⟩⟩⟩⟩⟩⟩⟩⟩⟩⟩⟩⟩⟩⟩⟩⟩
theorem wA5_t : ∀ w ∈ wA5, w ∈ lw_tbl := List.forall_mem_cons.mpr ⟨(List.mem_append_right (k2_sels lw_privs) (show _ ∈ tables_1_1 ++ (tables_1_2 ++ tables_1_3) from (List.mem_append_right _ (List.mem_append_left _ (List.mem_of_getElem? (l := tables_1_2) (i := 60) rfl))))), List.forall_mem_cons.mpr ⟨(List.mem_append_right (k2_sels lw_privs) (show _ ∈ tables_1_1 ++ (tables_1_2 ++ tables_1_3) from (List.mem_append_right _ (List.mem_append_left _ (List.mem_of_getElem? (l := tables_1_2) (i := 178) rfl))))), List.forall_mem_cons.mpr ⟨(List.mem_append_right (k2_sels lw_privs) (show _ ∈ tables_1_1 ++ (tables_1_2 ++ tables_1_3) from (List.mem_append_right _ (List.mem_append_left _ (List.mem_of_getElem? (l := tables_1_2) (i := 179) rfl))))), List.forall_mem_cons.mpr ⟨(List.mem_append_right (k2_sels lw_privs) (show _ ∈ tables_1_1 ++ (tables_1_2 ++ tables_1_3) from (List.mem_append_right _ (List.mem_append_left _ (List.mem_of_getElem? (l := tables_1_2) (i := 180) rfl))))), List.forall_mem_cons.mpr ⟨(List.mem_append_right (k2_sels lw_privs) (show _ ∈ tables_1_1 ++ (tables_1_2 ++ tables_1_3) from (List.mem_append_right _ (List.mem_append_left _ (List.mem_of_getElem? (l := tables_1_2) (i := 190) rfl))))), List.forall_mem_cons.mpr ⟨(List.mem_append_right (k2_sels lw_privs) (show _ ∈ tables_1_1 ++ (tables_1_2 ++ tables_1_3) from (List.mem_append_right _ (List.mem_append_right _ (List.mem_of_getElem? (l := tables_1_3) (i := 8) rfl))))), List.forall_mem_cons.mpr ⟨(List.mem_append_right (k2_sels lw_privs) (show _ ∈ tables_1_1 ++ (tables_1_2 ++ tables_1_3) from (List.mem_append_right _ (List.mem_append_right _ (List.mem_of_getElem? (l := tables_1_3) (i := 120) rfl))))), List.forall_mem_cons.mpr ⟨(List.mem_append_left tables_1 (List.mem_of_getElem? (l := k2_sels lw_privs) (i := 2) rfl)), fun _ h => absurd h List.not_mem_nil⟩⟩⟩⟩⟩⟩⟩⟩
theorem wA6_t : ∀ w ∈ wA6, w ∈ lw_tbl := List.forall_mem_cons.mpr ⟨(List.mem_append_right (k2_sels lw_privs) (show _ ∈ tables_1_1 ++ (tables_1_2 ++ tables_1_3) from (List.mem_append_left _ (List.mem_of_getElem? (l := tables_1_1) (i := 0) rfl)))), List.forall_mem_cons.mpr ⟨(List.mem_append_right (k2_sels lw_privs) (show _ ∈ tables_1_1 ++ (tables_1_2 ++ tables_1_3) from (List.mem_append_left _ (List.mem_of_getElem? (l := tables_1_1) (i := 1) rfl)))), List.forall_mem_cons.mpr ⟨(List.mem_append_right (k2_sels lw_privs) (show _ ∈ tables_1_1 ++ (tables_1_2 ++ tables_1_3) from (List.mem_append_left _ (List.mem_of_getElem? (l := tables_1_1) (i := 2) rfl)))), List.forall_mem_cons.mpr ⟨(List.mem_append_right (k2_sels lw_privs) (show _ ∈ tables_1_1 ++ (tables_1_2 ++ tables_1_3) from (List.mem_append_left _ (List.mem_of_getElem? (l := tables_1_1) (i := 3) rfl)))), List.forall_mem_cons.mpr ⟨(List.mem_append_right (k2_sels lw_privs) (show _ ∈ tables_1_1 ++ (tables_1_2 ++ tables_1_3) from (List.mem_append_left _ (List.mem_of_getElem? (l := tables_1_1) (i := 4) rfl)))), List.forall_mem_cons.mpr ⟨(List.mem_append_right (k2_sels lw_privs) (show _ ∈ tables_1_1 ++ (tables_1_2 ++ tables_1_3) from (List.mem_append_left _ (List.mem_of_getElem? (l := tables_1_1) (i := 5) rfl)))), List.forall_mem_cons.mpr ⟨(List.mem_append_right (k2_sels lw_privs) (show _ ∈ tables_1_1 ++ (tables_1_2 ++ tables_1_3) from (List.mem_append_left _ (List.mem_of_getElem? (l := tables_1_1) (i := 6) rfl)))), List.forall_mem_cons.mpr ⟨(List.mem_append_right (k2_sels lw_privs) (show _ ∈ tables_1_1 ++ (tables_1_2 ++ tables_1_3) from (List.mem_append_left _ (List.mem_of_getElem? (l := tables_1_1) (i := 13) rfl)))), List.forall_mem_cons.mpr ⟨(List.mem_append_right (k2_sels lw_privs) (show _ ∈ tables_1_1 ++ (tables_1_2 ++ tables_1_3) from (List.mem_append_left _ (List.mem_of_getElem? (l := tables_1_1) (i := 14) rfl)))), List.forall_mem_cons.mpr ⟨(List.mem_append_right (k2_sels lw_privs) (show _ ∈ tables_1_1 ++ (tables_1_2 ++ tables_1_3) from (List.mem_append_left _ (List.mem_of_getElem? (l := tables_1_1) (i := 15) rfl)))), List.forall_mem_cons.mpr ⟨(List.mem_append_right (k2_sels lw_privs) (show _ ∈ tables_1_1 ++ (tables_1_2 ++ tables_1_3) from (List.mem_append_left _ (List.mem_of_getElem? (l := tables_1_1) (i := 16) rfl)))), List.forall_mem_cons.mpr ⟨(List.mem_append_right (k2_sels lw_privs) (show _ ∈ tables_1_1 ++ (tables_1_2 ++ tables_1_3) from (List.mem_append_left _ (List.mem_of_getElem? (l := tables_1_1) (i := 17) rfl)))), List.forall_mem_cons.mpr ⟨(List.mem_append_right (k2_sels lw_privs) (show _ ∈ tables_1_1 ++ (tables_1_2 ++ tables_1_3) from (List.mem_append_left _ (List.mem_of_getElem? (l := tables_1_1) (i := 18) rfl)))), List.forall_mem_cons.mpr ⟨(List.mem_append_right (k2_sels lw_privs) (show _ ∈ tables_1_1 ++ (tables_1_2 ++ tables_1_3) from (List.mem_append_left _ (List.mem_of_getElem? (l := tables_1_1) (i := 22) rfl)))), List.forall_mem_cons.mpr ⟨(List.mem_append_right (k2_sels lw_privs) (show _ ∈ tables_1_1 ++ (tables_1_2 ++ tables_1_3) from (List.mem_append_left _ (List.mem_of_getElem? (l := tables_1_1) (i := 23) rfl)))), List.forall_mem_cons.mpr ⟨(List.mem_append_right (k2_sels lw_privs) (show _ ∈ tables_1_1 ++ (tables_1_2 ++ tables_1_3) from (List.mem_append_left _ (List.mem_of_getElem? (l := tables_1_1) (i := 24) rfl)))), List.forall_mem_cons.mpr ⟨(List.mem_append_right (k2_sels lw_privs) (show _ ∈ tables_1_1 ++ (tables_1_2 ++ tables_1_3) from (List.mem_append_left _ (List.mem_of_getElem? (l := tables_1_1) (i := 25) rfl)))), List.forall_mem_cons.mpr ⟨(List.mem_append_right (k2_sels lw_privs) (show _ ∈ tables_1_1 ++ (tables_1_2 ++ tables_1_3) from (List.mem_append_left _ (List.mem_of_getElem? (l := tables_1_1) (i := 26) rfl)))), List.forall_mem_cons.mpr ⟨(List.mem_append_right (k2_sels lw_privs) (show _ ∈ tables_1_1 ++ (tables_1_2 ++ tables_1_3) from (List.mem_append_left _ (List.mem_of_getElem? (l := tables_1_1) (i := 27) rfl)))), List.forall_mem_cons.mpr ⟨(List.mem_append_right (k2_sels lw_privs) (show _ ∈ tables_1_1 ++ (tables_1_2 ++ tables_1_3) from (List.mem_append_left _ (List.mem_of_getElem? (l := tables_1_1) (i := 28) rfl)))), fun _ h => absurd h List.not_mem_nil⟩⟩⟩⟩⟩⟩⟩⟩⟩⟩⟩⟩⟩⟩⟩⟩⟩⟩⟩⟩
theorem wA7_t : ∀ w ∈ wA7, w ∈ lw_tbl := List.forall_mem_cons.mpr ⟨(List.mem_append_right (k2_sels lw_privs) (show _ ∈ tables_1_1 ++ (tables_1_2 ++ tables_1_3) from (List.mem_append_left _ (List.mem_of_getElem? (l := tables_1_1) (i := 29) rfl)))), List.forall_mem_cons.mpr ⟨(List.mem_append_right (k2_sels lw_privs) (show _ ∈ tables_1_1 ++ (tables_1_2 ++ tables_1_3) from (List.mem_append_left _ (List.mem_of_getElem? (l := tables_1_1) (i := 30) rfl)))), List.forall_mem_cons.mpr ⟨(List.mem_append_right (k2_sels lw_privs) (show _ ∈ tables_1_1 ++ (tables_1_2 ++ tables_1_3) from (List.mem_append_left _ (List.mem_of_getElem? (l := tables_1_1) (i := 31) rfl)))), List.forall_mem_cons.mpr ⟨(List.mem_append_right (k2_sels lw_privs) (show _ ∈ tables_1_1 ++ (tables_1_2 ++ tables_1_3) from (List.mem_append_left _ (List.mem_of_getElem? (l := tables_1_1) (i := 33) rfl)))), List.forall_mem_cons.mpr ⟨(List.mem_append_right (k2_sels lw_privs) (show _ ∈ tables_1_1 ++ (tables_1_2 ++ tables_1_3) from (List.mem_append_left _ (List.mem_of_getElem? (l := tables_1_1) (i := 34) rfl)))), List.forall_mem_cons.mpr ⟨(List.mem_append_right (k2_sels lw_privs) (show _ ∈ tables_1_1 ++ (tables_1_2 ++ tables_1_3) from (List.mem_append_left _ (List.mem_of_getElem? (l := tables_1_1) (i := 35) rfl)))), List.forall_mem_cons.mpr ⟨(List.mem_append_right (k2_sels lw_privs) (show _ ∈ tables_1_1 ++ (tables_1_2 ++ tables_1_3) from (List.mem_append_left _ (List.mem_of_getElem? (l := tables_1_1) (i := 36) rfl)))), List.forall_mem_cons.mpr ⟨(List.mem_append_right (k2_sels lw_privs) (show _ ∈ tables_1_1 ++ (tables_1_2 ++ tables_1_3) from (List.mem_append_left _ (List.mem_of_getElem? (l := tables_1_1) (i := 38) rfl)))), List.forall_mem_cons.mpr ⟨(List.mem_append_right (k2_sels lw_privs) (show _ ∈ tables_1_1 ++ (tables_1_2 ++ tables_1_3) from (List.mem_append_left _ (List.mem_of_getElem? (l := tables_1_1) (i := 39) rfl)))), List.forall_mem_cons.mpr ⟨(List.mem_append_right (k2_sels lw_privs) (show _ ∈ tables_1_1 ++ (tables_1_2 ++ tables_1_3) from (List.mem_append_left _ (List.mem_of_getElem? (l := tables_1_1) (i := 41) rfl)))), List.forall_mem_cons.mpr ⟨(List.mem_append_right (k2_sels lw_privs) (show _ ∈ tables_1_1 ++ (tables_1_2 ++ tables_1_3) from (List.mem_append_left _ (List.mem_of_getElem? (l := tables_1_1) (i := 42) rfl)))), List.forall_mem_cons.mpr ⟨(List.mem_append_right (k2_sels lw_privs) (show _ ∈ tables_1_1 ++ (tables_1_2 ++ tables_1_3) from (List.mem_append_left _ (List.mem_of_getElem? (l := tables_1_1) (i := 43) rfl)))), List.forall_mem_cons.mpr ⟨(List.mem_append_right (k2_sels lw_privs) (show _ ∈ tables_1_1 ++ (tables_1_2 ++ tables_1_3) from (List.mem_append_left _ (List.mem_of_getElem? (l := tables_1_1) (i := 44) rfl)))), List.forall_mem_cons.mpr ⟨(List.mem_append_right (k2_sels lw_privs) (show _ ∈ tables_1_1 ++ (tables_1_2 ++ tables_1_3) from (List.mem_append_left _ (List.mem_of_getElem? (l := tables_1_1) (i := 45) rfl)))), List.forall_mem_cons.mpr ⟨(List.mem_append_right (k2_sels lw_privs) (show _ ∈ tables_1_1 ++ (tables_1_2 ++ tables_1_3) from (List.mem_append_left _ (List.mem_of_getElem? (l := tables_1_1) (i := 46) rfl)))), List.forall_mem_cons.mpr ⟨(List.mem_append_right (k2_sels lw_privs) (show _ ∈ tables_1_1 ++ (tables_1_2 ++ tables_1_3) from (List.mem_append_left _ (List.mem_of_getElem? (l := tables_1_1) (i := 47) rfl)))), List.forall_mem_cons.mpr ⟨(List.mem_append_right (k2_sels lw_privs) (show _ ∈ tables_1_1 ++ (tables_1_2 ++ tables_1_3) from (List.mem_append_left _ (List.mem_of_getElem? (l := tables_1_1) (i := 49) rfl)))), List.forall_mem_cons.mpr ⟨(List.mem_append_right (k2_sels lw_privs) (show _ ∈ tables_1_1 ++ (tables_1_2 ++ tables_1_3) from (List.mem_append_left _ (List.mem_of_getElem? (l := tables_1_1) (i := 50) rfl)))), List.forall_mem_cons.mpr ⟨(List.mem_append_right (k2_sels lw_privs) (show _ ∈ tables_1_1 ++ (tables_1_2 ++ tables_1_3) from (List.mem_append_left _ (List.mem_of_getElem? (l := tables_1_1) (i := 51) rfl)))), List.forall_mem_cons.mpr ⟨(List.mem_append_right (k2_sels lw_privs) (show _ ∈ tables_1_1 ++ (tables_1_2 ++ tables_1_3) from (List.mem_append_left _ (List.mem_of_getElem? (l := tables_1_1) (i := 52) rfl)))), fun _ h => absurd h List.not_mem_nil⟩⟩⟩⟩⟩⟩⟩⟩⟩⟩⟩⟩⟩⟩⟩⟩⟩⟩⟩⟩
theorem wA8_t : ∀ w ∈ wA8, w ∈ lw_tbl := List.forall_mem_cons.mpr ⟨(List.mem_append_right (k2_sels lw_privs) (show _ ∈ tables_1_1 ++ (tables_1_2 ++ tables_1_3) from (List.mem_append_left _ (List.mem_of_getElem? (l := tables_1_1) (i := 53) rfl)))), List.forall_mem_cons.mpr ⟨(List.mem_append_right (k2_sels lw_privs) (show _ ∈ tables_1_1 ++ (tables_1_2 ++ tables_1_3) from (List.mem_append_left _ (List.mem_of_getElem? (l := tables_1_1) (i := 54) rfl)))), List.forall_mem_cons.mpr ⟨(List.mem_append_right (k2_sels lw_privs) (show _ ∈ tables_1_1 ++ (tables_1_2 ++ tables_1_3) from (List.mem_append_left _ (List.mem_of_getElem? (l := tables_1_1) (i := 56) rfl)))), List.forall_mem_cons.mpr ⟨(List.mem_append_right (k2_sels lw_privs) (show _ ∈ tables_1_1 ++ (tables_1_2 ++ tables_1_3) from (List.mem_append_left _ (List.mem_of_getElem? (l := tables_1_1) (i := 57) rfl)))), List.forall_mem_cons.mpr ⟨(List.mem_append_right (k2_sels lw_privs) (show _ ∈ tables_1_1 ++ (tables_1_2 ++ tables_1_3) from (List.mem_append_left _ (List.mem_of_getElem? (l := tables_1_1) (i := 59) rfl)))), List.forall_mem_cons.mpr ⟨(List.mem_append_right (k2_sels lw_privs) (show _ ∈ tables_1_1 ++ (tables_1_2 ++ tables_1_3) from (List.mem_append_left _ (List.mem_of_getElem? (l := tables_1_1) (i := 61) rfl)))), List.forall_mem_cons.mpr ⟨(List.mem_append_right (k2_sels lw_privs) (show _ ∈ tables_1_1 ++ (tables_1_2 ++ tables_1_3) from (List.mem_append_left _ (List.mem_of_getElem? (l := tables_1_1) (i := 62) rfl)))), List.forall_mem_cons.mpr ⟨(List.mem_append_right (k2_sels lw_privs) (show _ ∈ tables_1_1 ++ (tables_1_2 ++ tables_1_3) from (List.mem_append_left _ (List.mem_of_getElem? (l := tables_1_1) (i := 63) rfl)))), List.forall_mem_cons.mpr ⟨(List.mem_append_right (k2_sels lw_privs) (show _ ∈ tables_1_1 ++ (tables_1_2 ++ tables_1_3) from (List.mem_append_left _ (List.mem_of_getElem? (l := tables_1_1) (i := 64) rfl)))), List.forall_mem_cons.mpr ⟨(List.mem_append_right (k2_sels lw_privs) (show _ ∈ tables_1_1 ++ (tables_1_2 ++ tables_1_3) from (List.mem_append_left _ (List.mem_of_getElem? (l := tables_1_1) (i := 65) rfl)))), List.forall_mem_cons.mpr ⟨(List.mem_append_right (k2_sels lw_privs) (show _ ∈ tables_1_1 ++ (tables_1_2 ++ tables_1_3) from (List.mem_append_left _ (List.mem_of_getElem? (l := tables_1_1) (i := 66) rfl)))), List.forall_mem_cons.mpr ⟨(List.mem_append_right (k2_sels lw_privs) (show _ ∈ tables_1_1 ++ (tables_1_2 ++ tables_1_3) from (List.mem_append_left _ (List.mem_of_getElem? (l := tables_1_1) (i := 67) rfl)))), List.forall_mem_cons.mpr ⟨(List.mem_append_right (k2_sels lw_privs) (show _ ∈ tables_1_1 ++ (tables_1_2 ++ tables_1_3) from (List.mem_append_left _ (List.mem_of_getElem? (l := tables_1_1) (i := 68) rfl)))), List.forall_mem_cons.mpr ⟨(List.mem_append_right (k2_sels lw_privs) (show _ ∈ tables_1_1 ++ (tables_1_2 ++ tables_1_3) from (List.mem_append_left _ (List.mem_of_getElem? (l := tables_1_1) (i := 69) rfl)))), List.forall_mem_cons.mpr ⟨(List.mem_append_right (k2_sels lw_privs) (show _ ∈ tables_1_1 ++ (tables_1_2 ++ tables_1_3) from (List.mem_append_left _ (List.mem_of_getElem? (l := tables_1_1) (i := 70) rfl)))), List.forall_mem_cons.mpr ⟨(List.mem_append_right (k2_sels lw_privs) (show _ ∈ tables_1_1 ++ (tables_1_2 ++ tables_1_3) from (List.mem_append_left _ (List.mem_of_getElem? (l := tables_1_1) (i := 71) rfl)))), List.forall_mem_cons.mpr ⟨(List.mem_append_right (k2_sels lw_privs) (show _ ∈ tables_1_1 ++ (tables_1_2 ++ tables_1_3) from (List.mem_append_left _ (List.mem_of_getElem? (l := tables_1_1) (i := 72) rfl)))), List.forall_mem_cons.mpr ⟨(List.mem_append_right (k2_sels lw_privs) (show _ ∈ tables_1_1 ++ (tables_1_2 ++ tables_1_3) from (List.mem_append_left _ (List.mem_of_getElem? (l := tables_1_1) (i := 73) rfl)))), List.forall_mem_cons.mpr ⟨(List.mem_append_right (k2_sels lw_privs) (show _ ∈ tables_1_1 ++ (tables_1_2 ++ tables_1_3) from (List.mem_append_left _ (List.mem_of_getElem? (l := tables_1_1) (i := 74) rfl)))), List.forall_mem_cons.mpr ⟨(List.mem_append_right (k2_sels lw_privs) (show _ ∈ tables_1_1 ++ (tables_1_2 ++ tables_1_3) from (List.mem_append_left _ (List.mem_of_getElem? (l := tables_1_1) (i := 75) rfl)))), fun _ h => absurd h List.not_mem_nil⟩⟩⟩⟩⟩⟩⟩⟩⟩⟩⟩⟩⟩⟩⟩⟩⟩⟩⟩⟩
theorem wA9_t : ∀ w ∈ wA9, w ∈ lw_tbl := List.forall_mem_cons.mpr ⟨(List.mem_append_right (k2_sels lw_privs) (show _ ∈ tables_1_1 ++ (tables_1_2 ++ tables_1_3) from (List.mem_append_left _ (List.mem_of_getElem? (l := tables_1_1) (i := 77) rfl)))), List.forall_mem_cons.mpr ⟨(List.mem_append_right (k2_sels lw_privs) (show _ ∈ tables_1_1 ++ (tables_1_2 ++ tables_1_3) from (List.mem_append_left _ (List.mem_of_getElem? (l := tables_1_1) (i := 78) rfl)))), List.forall_mem_cons.mpr ⟨(List.mem_append_right (k2_sels lw_privs) (show _ ∈ tables_1_1 ++ (tables_1_2 ++ tables_1_3) from (List.mem_append_left _ (List.mem_of_getElem? (l := tables_1_1) (i := 79) rfl)))), List.forall_mem_cons.mpr ⟨(List.mem_append_right (k2_sels lw_privs) (show _ ∈ tables_1_1 ++ (tables_1_2 ++ tables_1_3) from (List.mem_append_left _ (List.mem_of_getElem? (l := tables_1_1) (i := 80) rfl)))), List.forall_mem_cons.mpr ⟨(List.mem_append_right (k2_sels lw_privs) (show _ ∈ tables_1_1 ++ (tables_1_2 ++ tables_1_3) from (List.mem_append_left _ (List.mem_of_getElem? (l := tables_1_1) (i := 81) rfl)))), List.forall_mem_cons.mpr ⟨(List.mem_append_right (k2_sels lw_privs) (show _ ∈ tables_1_1 ++ (tables_1_2 ++ tables_1_3) from (List.mem_append_left _ (List.mem_of_getElem? (l := tables_1_1) (i := 82) rfl)))), List.forall_mem_cons.mpr ⟨(List.mem_append_right (k2_sels lw_privs) (show _ ∈ tables_1_1 ++ (tables_1_2 ++ tables_1_3) from (List.mem_append_left _ (List.mem_of_getElem? (l := tables_1_1) (i := 83) rfl)))), List.forall_mem_cons.mpr ⟨(List.mem_append_right (k2_sels lw_privs) (show _ ∈ tables_1_1 ++ (tables_1_2 ++ tables_1_3) from (List.mem_append_left _ (List.mem_of_getElem? (l := tables_1_1) (i := 84) rfl)))), List.forall_mem_cons.mpr ⟨(List.mem_append_right (k2_sels lw_privs) (show _ ∈ tables_1_1 ++ (tables_1_2 ++ tables_1_3) from (List.mem_append_left _ (List.mem_of_getElem? (l := tables_1_1) (i := 85) rfl)))), List.forall_mem_cons.mpr ⟨(List.mem_append_right (k2_sels lw_privs) (show _ ∈ tables_1_1 ++ (tables_1_2 ++ tables_1_3) from (List.mem_append_left _ (List.mem_of_getElem? (l := tables_1_1) (i := 86) rfl)))), List.forall_mem_cons.mpr ⟨(List.mem_append_right (k2_sels lw_privs) (show _ ∈ tables_1_1 ++ (tables_1_2 ++ tables_1_3) from (List.mem_append_left _ (List.mem_of_getElem? (l := tables_1_1) (i := 87) rfl)))), List.forall_mem_cons.mpr ⟨(List.mem_append_right (k2_sels lw_privs) (show _ ∈ tables_1_1 ++ (tables_1_2 ++ tables_1_3) from (List.mem_append_left _ (List.mem_of_getElem? (l := tables_1_1) (i := 88) rfl)))), List.forall_mem_cons.mpr ⟨(List.mem_append_right (k2_sels lw_privs) (show _ ∈ tables_1_1 ++ (tables_1_2 ++ tables_1_3) from (List.mem_append_left _ (List.mem_of_getElem? (l := tables_1_1) (i := 89) rfl)))), List.forall_mem_cons.mpr ⟨(List.mem_append_right (k2_sels lw_privs) (show _ ∈ tables_1_1 ++ (tables_1_2 ++ tables_1_3) from (List.mem_append_left _ (List.mem_of_getElem? (l := tables_1_1) (i := 90) rfl)))), List.forall_mem_cons.mpr ⟨(List.mem_append_right (k2_sels lw_privs) (show _ ∈ tables_1_1 ++ (tables_1_2 ++ tables_1_3) from (List.mem_append_left _ (List.mem_of_getElem? (l := tables_1_1) (i := 91) rfl)))), List.forall_mem_cons.mpr ⟨(List.mem_append_right (k2_sels lw_privs) (show _ ∈ tables_1_1 ++ (tables_1_2 ++ tables_1_3) from (List.mem_append_left _ (List.mem_of_getElem? (l := tables_1_1) (i := 92) rfl)))), List.forall_mem_cons.mpr ⟨(List.mem_append_right (k2_sels lw_privs) (show _ ∈ tables_1_1 ++ (tables_1_2 ++ tables_1_3) from (List.mem_append_left _ (List.mem_of_getElem? (l := tables_1_1) (i := 93) rfl)))), List.forall_mem_cons.mpr ⟨(List.mem_append_right (k2_sels lw_privs) (show _ ∈ tables_1_1 ++ (tables_1_2 ++ tables_1_3) from (List.mem_append_left _ (List.mem_of_getElem? (l := tables_1_1) (i := 94) rfl)))), List.forall_mem_cons.mpr ⟨(List.mem_append_right (k2_sels lw_privs) (show _ ∈ tables_1_1 ++ (tables_1_2 ++ tables_1_3) from (List.mem_append_left _ (List.mem_of_getElem? (l := tables_1_1) (i := 95) rfl)))), List.forall_mem_cons.mpr ⟨(List.mem_append_right (k2_sels lw_privs) (show _ ∈ tables_1_1 ++ (tables_1_2 ++ tables_1_3) from (List.mem_append_left _ (List.mem_of_getElem? (l := tables_1_1) (i := 96) rfl)))), fun _ h => absurd h List.not_mem_nil⟩⟩⟩⟩⟩⟩⟩⟩⟩⟩⟩⟩⟩⟩⟩⟩⟩⟩⟩⟩
theorem wA10_t : ∀ w ∈ wA10, w ∈ lw_tbl := List.forall_mem_cons.mpr ⟨(List.mem_append_right (k2_sels lw_privs) (show _ ∈ tables_1_1 ++ (tables_1_2 ++ tables_1_3) from (List.mem_append_left _ (List.mem_of_getElem? (l := tables_1_1) (i := 97) rfl)))), List.forall_mem_cons.mpr ⟨(List.mem_append_right (k2_sels lw_privs) (show _ ∈ tables_1_1 ++ (tables_1_2 ++ tables_1_3) from (List.mem_append_left _ (List.mem_of_getElem? (l := tables_1_1) (i := 98) rfl)))), List.forall_mem_cons.mpr ⟨(List.mem_append_right (k2_sels lw_privs) (show _ ∈ tables_1_1 ++ (tables_1_2 ++ tables_1_3) from (List.mem_append_left _ (List.mem_of_getElem? (l := tables_1_1) (i := 99) rfl)))), List.forall_mem_cons.mpr ⟨(List.mem_append_right (k2_sels lw_privs) (show _ ∈ tables_1_1 ++ (tables_1_2 ++ tables_1_3) from (List.mem_append_left _ (List.mem_of_getElem? (l := tables_1_1) (i := 100) rfl)))), List.forall_mem_cons.mpr ⟨(List.mem_append_right (k2_sels lw_privs) (show _ ∈ tables_1_1 ++ (tables_1_2 ++ tables_1_3) from (List.mem_append_left _ (List.mem_of_getElem? (l := tables_1_1) (i := 101) rfl)))), List.forall_mem_cons.mpr ⟨(List.mem_append_right (k2_sels lw_privs) (show _ ∈ tables_1_1 ++ (tables_1_2 ++ tables_1_3) from (List.mem_append_left _ (List.mem_of_getElem? (l := tables_1_1) (i := 102) rfl)))), List.forall_mem_cons.mpr ⟨(List.mem_append_right (k2_sels lw_privs) (show _ ∈ tables_1_1 ++ (tables_1_2 ++ tables_1_3) from (List.mem_append_left _ (List.mem_of_getElem? (l := tables_1_1) (i := 103) rfl)))), List.forall_mem_cons.mpr ⟨(List.mem_append_right (k2_sels lw_privs) (show _ ∈ tables_1_1 ++ (tables_1_2 ++ tables_1_3) from (List.mem_append_left _ (List.mem_of_getElem? (l := tables_1_1) (i := 104) rfl)))), List.forall_mem_cons.mpr ⟨(List.mem_append_right (k2_sels lw_privs) (show _ ∈ tables_1_1 ++ (tables_1_2 ++ tables_1_3) from (List.mem_append_left _ (List.mem_of_getElem? (l := tables_1_1) (i := 105) rfl)))), List.forall_mem_cons.mpr ⟨(List.mem_append_right (k2_sels lw_privs) (show _ ∈ tables_1_1 ++ (tables_1_2 ++ tables_1_3) from (List.mem_append_left _ (List.mem_of_getElem? (l := tables_1_1) (i := 106) rfl)))), List.forall_mem_cons.mpr ⟨(List.mem_append_right (k2_sels lw_privs) (show _ ∈ tables_1_1 ++ (tables_1_2 ++ tables_1_3) from (List.mem_append_left _ (List.mem_of_getElem? (l := tables_1_1) (i := 107) rfl)))), List.forall_mem_cons.mpr ⟨(List.mem_append_right (k2_sels lw_privs) (show _ ∈ tables_1_1 ++ (tables_1_2 ++ tables_1_3) from (List.mem_append_left _ (List.mem_of_getElem? (l := tables_1_1) (i := 108) rfl)))), List.forall_mem_cons.mpr ⟨(List.mem_append_right (k2_sels lw_privs) (show _ ∈ tables_1_1 ++ (tables_1_2 ++ tables_1_3) from (List.mem_append_left _ (List.mem_of_getElem? (l := tables_1_1) (i := 109) rfl)))), List.forall_mem_cons.mpr ⟨(List.mem_append_right (k2_sels lw_privs) (show _ ∈ tables_1_1 ++ (tables_1_2 ++ tables_1_3) from (List.mem_append_left _ (List.mem_of_getElem? (l := tables_1_1) (i := 111) rfl)))), List.forall_mem_cons.mpr ⟨(List.mem_append_right (k2_sels lw_privs) (show _ ∈ tables_1_1 ++ (tables_1_2 ++ tables_1_3) from (List.mem_append_left _ (List.mem_of_getElem? (l := tables_1_1) (i := 112) rfl)))), List.forall_mem_cons.mpr ⟨(List.mem_append_right (k2_sels lw_privs) (show _ ∈ tables_1_1 ++ (tables_1_2 ++ tables_1_3) from (List.mem_append_left _ (List.mem_of_getElem? (l := tables_1_1) (i := 113) rfl)))), List.forall_mem_cons.mpr ⟨(List.mem_append_right (k2_sels lw_privs) (show _ ∈ tables_1_1 ++ (tables_1_2 ++ tables_1_3) from (List.mem_append_left _ (List.mem_of_getElem? (l := tables_1_1) (i := 114) rfl)))), List.forall_mem_cons.mpr ⟨(List.mem_append_right (k2_sels lw_privs) (show _ ∈ tables_1_1 ++ (tables_1_2 ++ tables_1_3) from (List.mem_append_left _ (List.mem_of_getElem? (l := tables_1_1) (i := 115) rfl)))), List.forall_mem_cons.mpr ⟨(List.mem_append_right (k2_sels lw_privs) (show _ ∈ tables_1_1 ++ (tables_1_2 ++ tables_1_3) from (List.mem_append_left _ (List.mem_of_getElem? (l := tables_1_1) (i := 117) rfl)))), List.forall_mem_cons.mpr ⟨(List.mem_append_right (k2_sels lw_privs) (show _ ∈ tables_1_1 ++ (tables_1_2 ++ tables_1_3) from (List.mem_append_left _ (List.mem_of_getElem? (l := tables_1_1) (i := 118) rfl)))), fun _ h => absurd h List.not_mem_nil⟩⟩⟩⟩⟩⟩⟩⟩⟩⟩⟩⟩⟩⟩⟩⟩⟩⟩⟩⟩
theorem wA11_t : ∀ w ∈ wA11, w ∈ lw_tbl := List.forall_mem_cons.mpr ⟨(List.mem_append_right (k2_sels lw_privs) (show _ ∈ tables_1_1 ++ (tables_1_2 ++ tables_1_3) from (List.mem_append_left _ (List.mem_of_getElem? (l := tables_1_1) (i := 119) rfl)))), List.forall_mem_cons.mpr ⟨(List.mem_append_right (k2_sels lw_privs) (show _ ∈ tables_1_1 ++ (tables_1_2 ++ tables_1_3) from (List.mem_append_left _ (List.mem_of_getElem? (l := tables_1_1) (i := 120) rfl)))), List.forall_mem_cons.mpr ⟨(List.mem_append_right (k2_sels lw_privs) (show _ ∈ tables_1_1 ++ (tables_1_2 ++ tables_1_3) from (List.mem_append_left _ (List.mem_of_getElem? (l := tables_1_1) (i := 121) rfl)))), List.forall_mem_cons.mpr ⟨(List.mem_append_right (k2_sels lw_privs) (show _ ∈ tables_1_1 ++ (tables_1_2 ++ tables_1_3) from (List.mem_append_left _ (List.mem_of_getElem? (l := tables_1_1) (i := 122) rfl)))), List.forall_mem_cons.mpr ⟨(List.mem_append_right (k2_sels lw_privs) (show _ ∈ tables_1_1 ++ (tables_1_2 ++ tables_1_3) from (List.mem_append_left _ (List.mem_of_getElem? (l := tables_1_1) (i := 123) rfl)))), List.forall_mem_cons.mpr ⟨(List.mem_append_right (k2_sels lw_privs) (show _ ∈ tables_1_1 ++ (tables_1_2 ++ tables_1_3) from (List.mem_append_left _ (List.mem_of_getElem? (l := tables_1_1) (i := 124) rfl)))), List.forall_mem_cons.mpr ⟨(List.mem_append_right (k2_sels lw_privs) (show _ ∈ tables_1_1 ++ (tables_1_2 ++ tables_1_3) from (List.mem_append_left _ (List.mem_of_getElem? (l := tables_1_1) (i := 125) rfl)))), List.forall_mem_cons.mpr ⟨(List.mem_append_right (k2_sels lw_privs) (show _ ∈ tables_1_1 ++ (tables_1_2 ++ tables_1_3) from (List.mem_append_left _ (List.mem_of_getElem? (l := tables_1_1) (i := 126) rfl)))), List.forall_mem_cons.mpr ⟨(List.mem_append_right (k2_sels lw_privs) (show _ ∈ tables_1_1 ++ (tables_1_2 ++ tables_1_3) from (List.mem_append_left _ (List.mem_of_getElem? (l := tables_1_1) (i := 127) rfl)))), List.forall_mem_cons.mpr ⟨(List.mem_append_right (k2_sels lw_privs) (show _ ∈ tables_1_1 ++ (tables_1_2 ++ tables_1_3) from (List.mem_append_left _ (List.mem_of_getElem? (l := tables_1_1) (i := 128) rfl)))), List.forall_mem_cons.mpr ⟨(List.mem_append_right (k2_sels lw_privs) (show _ ∈ tables_1_1 ++ (tables_1_2 ++ tables_1_3) from (List.mem_append_left _ (List.mem_of_getElem? (l := tables_1_1) (i := 129) rfl)))), List.forall_mem_cons.mpr ⟨(List.mem_append_right (k2_sels lw_privs) (show _ ∈ tables_1_1 ++ (tables_1_2 ++ tables_1_3) from (List.mem_append_left _ (List.mem_of_getElem? (l := tables_1_1) (i := 130) rfl)))), List.forall_mem_cons.mpr ⟨(List.mem_append_right (k2_sels lw_privs) (show _ ∈ tables_1_1 ++ (tables_1_2 ++ tables_1_3) from (List.mem_append_left _ (List.mem_of_getElem? (l := tables_1_1) (i := 131) rfl)))), List.forall_mem_cons.mpr ⟨(List.mem_append_right (k2_sels lw_privs) (show _ ∈ tables_1_1 ++ (tables_1_2 ++ tables_1_3) from (List.mem_append_left _ (List.mem_of_getElem? (l := tables_1_1) (i := 132) rfl)))), List.forall_mem_cons.mpr ⟨(List.mem_append_right (k2_sels lw_privs) (show _ ∈ tables_1_1 ++ (tables_1_2 ++ tables_1_3) from (List.mem_append_left _ (List.mem_of_getElem? (l := tables_1_1) (i := 133) rfl)))), List.forall_mem_cons.mpr ⟨(List.mem_append_right (k2_sels lw_privs) (show _ ∈ tables_1_1 ++ (tables_1_2 ++ tables_1_3) from (List.mem_append_left _ (List.mem_of_getElem? (l := tables_1_1) (i := 134) rfl)))), List.forall_mem_cons.mpr ⟨(List.mem_append_right (k2_sels lw_privs) (show _ ∈ tables_1_1 ++ (tables_1_2 ++ tables_1_3) from (List.mem_append_left _ (List.mem_of_getElem? (l := tables_1_1) (i := 135) rfl)))), List.forall_mem_cons.mpr ⟨(List.mem_append_right (k2_sels lw_privs) (show _ ∈ tables_1_1 ++ (tables_1_2 ++ tables_1_3) from (List.mem_append_left _ (List.mem_of_getElem? (l := tables_1_1) (i := 136) rfl)))), List.forall_mem_cons.mpr ⟨(List.mem_append_right (k2_sels lw_privs) (show _ ∈ tables_1_1 ++ (tables_1_2 ++ tables_1_3) from (List.mem_append_left _ (List.mem_of_getElem? (l := tables_1_1) (i := 139) rfl)))), List.forall_mem_cons.mpr ⟨(List.mem_append_right (k2_sels lw_privs) (show _ ∈ tables_1_1 ++ (tables_1_2 ++ tables_1_3) from (List.mem_append_left _ (List.mem_of_getElem? (l := tables_1_1) (i := 140) rfl)))), fun _ h => absurd h List.not_mem_nil⟩⟩⟩⟩⟩⟩⟩⟩⟩⟩⟩⟩⟩⟩⟩⟩⟩⟩⟩⟩
theorem wA12_t : ∀ w ∈ wA12, w ∈ lw_tbl := List.forall_mem_cons.mpr ⟨(List.mem_append_right (k2_sels lw_privs) (show _ ∈ tables_1_1 ++ (tables_1_2 ++ tables_1_3) from (List.mem_append_left _ (List.mem_of_getElem? (l := tables_1_1) (i := 141) rfl)))), List.forall_mem_cons.mpr ⟨(List.mem_append_right (k2_sels lw_privs) (show _ ∈ tables_1_1 ++ (tables_1_2 ++ tables_1_3) from (List.mem_append_left _ (List.mem_of_getElem? (l := tables_1_1) (i := 142) rfl)))), List.forall_mem_cons.mpr ⟨(List.mem_append_right (k2_sels lw_privs) (show _ ∈ tables_1_1 ++ (tables_1_2 ++ tables_1_3) from (List.mem_append_left _ (List.mem_of_getElem? (l := tables_1_1) (i := 143) rfl)))), List.forall_mem_cons.mpr ⟨(List.mem_append_right (k2_sels lw_privs) (show _ ∈ tables_1_1 ++ (tables_1_2 ++ tables_1_3) from (List.mem_append_left _ (List.mem_of_getElem? (l := tables_1_1) (i := 145) rfl)))), List.forall_mem_cons.mpr ⟨(List.mem_append_right (k2_sels lw_privs) (show _ ∈ tables_1_1 ++ (tables_1_2 ++ tables_1_3) from (List.mem_append_left _ (List.mem_of_getElem? (l := tables_1_1) (i := 146) rfl)))), List.forall_mem_cons.mpr ⟨(List.mem_append_right (k2_sels lw_privs) (show _ ∈ tables_1_1 ++ (tables_1_2 ++ tables_1_3) from (List.mem_append_left _ (List.mem_of_getElem? (l := tables_1_1) (i := 147) rfl)))), List.forall_mem_cons.mpr ⟨(List.mem_append_right (k2_sels lw_privs) (show _ ∈ tables_1_1 ++ (tables_1_2 ++ tables_1_3) from (List.mem_append_left _ (List.mem_of_getElem? (l := tables_1_1) (i := 148) rfl)))), List.forall_mem_cons.mpr ⟨(List.mem_append_right (k2_sels lw_privs) (show _ ∈ tables_1_1 ++ (tables_1_2 ++ tables_1_3) from (List.mem_append_left _ (List.mem_of_getElem? (l := tables_1_1) (i := 149) rfl)))), List.forall_mem_cons.mpr ⟨(List.mem_append_right (k2_sels lw_privs) (show _ ∈ tables_1_1 ++ (tables_1_2 ++ tables_1_3) from (List.mem_append_left _ (List.mem_of_getElem? (l := tables_1_1) (i := 217) rfl)))), List.forall_mem_cons.mpr ⟨(List.mem_append_right (k2_sels lw_privs) (show _ ∈ tables_1_1 ++ (tables_1_2 ++ tables_1_3) from (List.mem_append_left _ (List.mem_of_getElem? (l := tables_1_1) (i := 218) rfl)))), List.forall_mem_cons.mpr ⟨(List.mem_append_right (k2_sels lw_privs) (show _ ∈ tables_1_1 ++ (tables_1_2 ++ tables_1_3) from (List.mem_append_left _ (List.mem_of_getElem? (l := tables_1_1) (i := 219) rfl)))), List.forall_mem_cons.mpr ⟨(List.mem_append_right (k2_sels lw_privs) (show _ ∈ tables_1_1 ++ (tables_1_2 ++ tables_1_3) from (List.mem_append_left _ (List.mem_of_getElem? (l := tables_1_1) (i := 220) rfl)))), List.forall_mem_cons.mpr ⟨(List.mem_append_right (k2_sels lw_privs) (show _ ∈ tables_1_1 ++ (tables_1_2 ++ tables_1_3) from (List.mem_append_left _ (List.mem_of_getElem? (l := tables_1_1) (i := 237) rfl)))), List.forall_mem_cons.mpr ⟨(List.mem_append_right (k2_sels lw_privs) (show _ ∈ tables_1_1 ++ (tables_1_2 ++ tables_1_3) from (List.mem_append_left _ (List.mem_of_getElem? (l := tables_1_1) (i := 239) rfl)))), List.forall_mem_cons.mpr ⟨(List.mem_append_right (k2_sels lw_privs) (show _ ∈ tables_1_1 ++ (tables_1_2 ++ tables_1_3) from (List.mem_append_right _ (List.mem_append_left _ (List.mem_of_getElem? (l := tables_1_2) (i := 0) rfl))))), List.forall_mem_cons.mpr ⟨(List.mem_append_right (k2_sels lw_privs) (show _ ∈ tables_1_1 ++ (tables_1_2 ++ tables_1_3) from (List.mem_append_right _ (List.mem_append_left _ (List.mem_of_getElem? (l := tables_1_2) (i := 1) rfl))))), List.forall_mem_cons.mpr ⟨(List.mem_append_right (k2_sels lw_privs) (show _ ∈ tables_1_1 ++ (tables_1_2 ++ tables_1_3) from (List.mem_append_right _ (List.mem_append_left _ (List.mem_of_getElem? (l := tables_1_2) (i := 3) rfl))))), List.forall_mem_cons.mpr ⟨(List.mem_append_right (k2_sels lw_privs) (show _ ∈ tables_1_1 ++ (tables_1_2 ++ tables_1_3) from (List.mem_append_right _ (List.mem_append_left _ (List.mem_of_getElem? (l := tables_1_2) (i := 4) rfl))))), List.forall_mem_cons.mpr ⟨(List.mem_append_right (k2_sels lw_privs) (show _ ∈ tables_1_1 ++ (tables_1_2 ++ tables_1_3) from (List.mem_append_right _ (List.mem_append_left _ (List.mem_of_getElem? (l := tables_1_2) (i := 5) rfl))))), List.forall_mem_cons.mpr ⟨(List.mem_append_right (k2_sels lw_privs) (show _ ∈ tables_1_1 ++ (tables_1_2 ++ tables_1_3) from (List.mem_append_right _ (List.mem_append_left _ (List.mem_of_getElem? (l := tables_1_2) (i := 6) rfl))))), fun _ h => absurd h List.not_mem_nil⟩⟩⟩⟩⟩⟩⟩⟩⟩⟩⟩⟩⟩⟩⟩⟩⟩⟩⟩⟩
theorem wA13_t : ∀ w ∈ wA13, w ∈ lw_tbl := List.forall_mem_cons.mpr ⟨(List.mem_append_right (k2_sels lw_privs) (show _ ∈ tables_1_1 ++ (tables_1_2 ++ tables_1_3) from (List.mem_append_right _ (List.mem_append_left _ (List.mem_of_getElem? (l := tables_1_2) (i := 7) rfl))))), List.forall_mem_cons.mpr ⟨(List.mem_append_right (k2_sels lw_privs) (show _ ∈ tables_1_1 ++ (tables_1_2 ++ tables_1_3) from (List.mem_append_right _ (List.mem_append_left _ (List.mem_of_getElem? (l := tables_1_2) (i := 8) rfl))))), List.forall_mem_cons.mpr ⟨(List.mem_append_right (k2_sels lw_privs) (show _ ∈ tables_1_1 ++ (tables_1_2 ++ tables_1_3) from (List.mem_append_right _ (List.mem_append_left _ (List.mem_of_getElem? (l := tables_1_2) (i := 9) rfl))))), List.forall_mem_cons.mpr ⟨(List.mem_append_right (k2_sels lw_privs) (show _ ∈ tables_1_1 ++ (tables_1_2 ++ tables_1_3) from (List.mem_append_right _ (List.mem_append_left _ (List.mem_of_getElem? (l := tables_1_2) (i := 10) rfl))))), List.forall_mem_cons.mpr ⟨(List.mem_append_right (k2_sels lw_privs) (show _ ∈ tables_1_1 ++ (tables_1_2 ++ tables_1_3) from (List.mem_append_right _ (List.mem_append_left _ (List.mem_of_getElem? (l := tables_1_2) (i := 11) rfl))))), List.forall_mem_cons.mpr ⟨(List.mem_append_right (k2_sels lw_privs) (show _ ∈ tables_1_1 ++ (tables_1_2 ++ tables_1_3) from (List.mem_append_right _ (List.mem_append_left _ (List.mem_of_getElem? (l := tables_1_2) (i := 12) rfl))))), List.forall_mem_cons.mpr ⟨(List.mem_append_right (k2_sels lw_privs) (show _ ∈ tables_1_1 ++ (tables_1_2 ++ tables_1_3) from (List.mem_append_right _ (List.mem_append_left _ (List.mem_of_getElem? (l := tables_1_2) (i := 13) rfl))))), List.forall_mem_cons.mpr ⟨(List.mem_append_right (k2_sels lw_privs) (show _ ∈ tables_1_1 ++ (tables_1_2 ++ tables_1_3) from (List.mem_append_right _ (List.mem_append_left _ (List.mem_of_getElem? (l := tables_1_2) (i := 14) rfl))))), List.forall_mem_cons.mpr ⟨(List.mem_append_right (k2_sels lw_privs) (show _ ∈ tables_1_1 ++ (tables_1_2 ++ tables_1_3) from (List.mem_append_right _ (List.mem_append_left _ (List.mem_of_getElem? (l := tables_1_2) (i := 16) rfl))))), List.forall_mem_cons.mpr ⟨(List.mem_append_right (k2_sels lw_privs) (show _ ∈ tables_1_1 ++ (tables_1_2 ++ tables_1_3) from (List.mem_append_right _ (List.mem_append_left _ (List.mem_of_getElem? (l := tables_1_2) (i := 17) rfl))))), List.forall_mem_cons.mpr ⟨(List.mem_append_right (k2_sels lw_privs) (show _ ∈ tables_1_1 ++ (tables_1_2 ++ tables_1_3) from (List.mem_append_right _ (List.mem_append_left _ (List.mem_of_getElem? (l := tables_1_2) (i := 18) rfl))))), List.forall_mem_cons.mpr ⟨(List.mem_append_right (k2_sels lw_privs) (show _ ∈ tables_1_1 ++ (tables_1_2 ++ tables_1_3) from (List.mem_append_right _ (List.mem_append_left _ (List.mem_of_getElem? (l := tables_1_2) (i := 19) rfl))))), List.forall_mem_cons.mpr ⟨(List.mem_append_right (k2_sels lw_privs) (show _ ∈ tables_1_1 ++ (tables_1_2 ++ tables_1_3) from (List.mem_append_right _ (List.mem_append_left _ (List.mem_of_getElem? (l := tables_1_2) (i := 20) rfl))))), List.forall_mem_cons.mpr ⟨(List.mem_append_right (k2_sels lw_privs) (show _ ∈ tables_1_1 ++ (tables_1_2 ++ tables_1_3) from (List.mem_append_right _ (List.mem_append_left _ (List.mem_of_getElem? (l := tables_1_2) (i := 21) rfl))))), List.forall_mem_cons.mpr ⟨(List.mem_append_right (k2_sels lw_privs) (show _ ∈ tables_1_1 ++ (tables_1_2 ++ tables_1_3) from (List.mem_append_right _ (List.mem_append_left _ (List.mem_of_getElem? (l := tables_1_2) (i := 22) rfl))))), List.forall_mem_cons.mpr ⟨(List.mem_append_right (k2_sels lw_privs) (show _ ∈ tables_1_1 ++ (tables_1_2 ++ tables_1_3) from (List.mem_append_right _ (List.mem_append_left _ (List.mem_of_getElem? (l := tables_1_2) (i := 23) rfl))))), List.forall_mem_cons.mpr ⟨(List.mem_append_right (k2_sels lw_privs) (show _ ∈ tables_1_1 ++ (tables_1_2 ++ tables_1_3) from (List.mem_append_right _ (List.mem_append_left _ (List.mem_of_getElem? (l := tables_1_2) (i := 25) rfl))))), List.forall_mem_cons.mpr ⟨(List.mem_append_right (k2_sels lw_privs) (show _ ∈ tables_1_1 ++ (tables_1_2 ++ tables_1_3) from (List.mem_append_right _ (List.mem_append_left _ (List.mem_of_getElem? (l := tables_1_2) (i := 26) rfl))))), List.forall_mem_cons.mpr ⟨(List.mem_append_right (k2_sels lw_privs) (show _ ∈ tables_1_1 ++ (tables_1_2 ++ tables_1_3) from (List.mem_append_right _ (List.mem_append_left _ (List.mem_of_getElem? (l := tables_1_2) (i := 27) rfl))))), List.forall_mem_cons.mpr ⟨(List.mem_append_right (k2_sels lw_privs) (show _ ∈ tables_1_1 ++ (tables_1_2 ++ tables_1_3) from (List.mem_append_right _ (List.mem_append_left _ (List.mem_of_getElem? (l := tables_1_2) (i := 28) rfl))))), fun _ h => absurd h List.not_mem_nil⟩⟩⟩⟩⟩⟩⟩⟩⟩⟩⟩⟩⟩⟩⟩⟩⟩⟩⟩⟩
theorem wA14_t : ∀ w ∈ wA14, w ∈ lw_tbl := List.forall_mem_cons.mpr ⟨(List.mem_append_right (k2_sels lw_privs) (show _ ∈ tables_1_1 ++ (tables_1_2 ++ tables_1_3) from (List.mem_append_right _ (List.mem_append_left _ (List.mem_of_getElem? (l := tables_1_2) (i := 29) rfl))))), List.forall_mem_cons.mpr ⟨(List.mem_append_right (k2_sels lw_privs) (show _ ∈ tables_1_1 ++ (tables_1_2 ++ tables_1_3) from (List.mem_append_right _ (List.mem_append_left _ (List.mem_of_getElem? (l := tables_1_2) (i := 30) rfl))))), List.forall_mem_cons.mpr ⟨(List.mem_append_right (k2_sels lw_privs) (show _ ∈ tables_1_1 ++ (tables_1_2 ++ tables_1_3) from (List.mem_append_right _ (List.mem_append_left _ (List.mem_of_getElem? (l := tables_1_2) (i := 31) rfl))))), List.forall_mem_cons.mpr ⟨(List.mem_append_right (k2_sels lw_privs) (show _ ∈ tables_1_1 ++ (tables_1_2 ++ tables_1_3) from (List.mem_append_right _ (List.mem_append_left _ (List.mem_of_getElem? (l := tables_1_2) (i := 32) rfl))))), List.forall_mem_cons.mpr ⟨(List.mem_append_right (k2_sels lw_privs) (show _ ∈ tables_1_1 ++ (tables_1_2 ++ tables_1_3) from (List.mem_append_right _ (List.mem_append_left _ (List.mem_of_getElem? (l := tables_1_2) (i := 33) rfl))))), List.forall_mem_cons.mpr ⟨(List.mem_append_right (k2_sels lw_privs) (show _ ∈ tables_1_1 ++ (tables_1_2 ++ tables_1_3) from (List.mem_append_right _ (List.mem_append_left _ (List.mem_of_getElem? (l := tables_1_2) (i := 34) rfl))))), List.forall_mem_cons.mpr ⟨(List.mem_append_right (k2_sels lw_privs) (show _ ∈ tables_1_1 ++ (tables_1_2 ++ tables_1_3) from (List.mem_append_right _ (List.mem_append_left _ (List.mem_of_getElem? (l := tables_1_2) (i := 35) rfl))))), List.forall_mem_cons.mpr ⟨(List.mem_append_right (k2_sels lw_privs) (show _ ∈ tables_1_1 ++ (tables_1_2 ++ tables_1_3) from (List.mem_append_right _ (List.mem_append_left _ (List.mem_of_getElem? (l := tables_1_2) (i := 37) rfl))))), List.forall_mem_cons.mpr ⟨(List.mem_append_right (k2_sels lw_privs) (show _ ∈ tables_1_1 ++ (tables_1_2 ++ tables_1_3) from (List.mem_append_right _ (List.mem_append_left _ (List.mem_of_getElem? (l := tables_1_2) (i := 38) rfl))))), List.forall_mem_cons.mpr ⟨(List.mem_append_right (k2_sels lw_privs) (show _ ∈ tables_1_1 ++ (tables_1_2 ++ tables_1_3) from (List.mem_append_right _ (List.mem_append_left _ (List.mem_of_getElem? (l := tables_1_2) (i := 39) rfl))))), List.forall_mem_cons.mpr ⟨(List.mem_append_right (k2_sels lw_privs) (show _ ∈ tables_1_1 ++ (tables_1_2 ++ tables_1_3) from (List.mem_append_right _ (List.mem_append_left _ (List.mem_of_getElem? (l := tables_1_2) (i := 40) rfl))))), List.forall_mem_cons.mpr ⟨(List.mem_append_right (k2_sels lw_privs) (show _ ∈ tables_1_1 ++ (tables_1_2 ++ tables_1_3) from (List.mem_append_right _ (List.mem_append_left _ (List.mem_of_getElem? (l := tables_1_2) (i := 41) rfl))))), List.forall_mem_cons.mpr ⟨(List.mem_append_right (k2_sels lw_privs) (show _ ∈ tables_1_1 ++ (tables_1_2 ++ tables_1_3) from (List.mem_append_right _ (List.mem_append_left _ (List.mem_of_getElem? (l := tables_1_2) (i := 43) rfl))))), List.forall_mem_cons.mpr ⟨(List.mem_append_right (k2_sels lw_privs) (show _ ∈ tables_1_1 ++ (tables_1_2 ++ tables_1_3) from (List.mem_append_right _ (List.mem_append_left _ (List.mem_of_getElem? (l := tables_1_2) (i := 44) rfl))))), List.forall_mem_cons.mpr ⟨(List.mem_append_right (k2_sels lw_privs) (show _ ∈ tables_1_1 ++ (tables_1_2 ++ tables_1_3) from (List.mem_append_right _ (List.mem_append_left _ (List.mem_of_getElem? (l := tables_1_2) (i := 61) rfl))))), List.forall_mem_cons.mpr ⟨(List.mem_append_right (k2_sels lw_privs) (show _ ∈ tables_1_1 ++ (tables_1_2 ++ tables_1_3) from (List.mem_append_right _ (List.mem_append_left _ (List.mem_of_getElem? (l := tables_1_2) (i := 62) rfl))))), List.forall_mem_cons.mpr ⟨(List.mem_append_right (k2_sels lw_privs) (show _ ∈ tables_1_1 ++ (tables_1_2 ++ tables_1_3) from (List.mem_append_right _ (List.mem_append_left _ (List.mem_of_getElem? (l := tables_1_2) (i := 63) rfl))))), List.forall_mem_cons.mpr ⟨(List.mem_append_right (k2_sels lw_privs) (show _ ∈ tables_1_1 ++ (tables_1_2 ++ tables_1_3) from (List.mem_append_right _ (List.mem_append_left _ (List.mem_of_getElem? (l := tables_1_2) (i := 64) rfl))))), List.forall_mem_cons.mpr ⟨(List.mem_append_right (k2_sels lw_privs) (show _ ∈ tables_1_1 ++ (tables_1_2 ++ tables_1_3) from (List.mem_append_right _ (List.mem_append_left _ (List.mem_of_getElem? (l := tables_1_2) (i := 65) rfl))))), List.forall_mem_cons.mpr ⟨(List.mem_append_right (k2_sels lw_privs) (show _ ∈ tables_1_1 ++ (tables_1_2 ++ tables_1_3) from (List.mem_append_right _ (List.mem_append_left _ (List.mem_of_getElem? (l := tables_1_2) (i := 66) rfl))))), fun _ h => absurd h List.not_mem_nil⟩⟩⟩⟩⟩⟩⟩⟩⟩⟩⟩⟩⟩⟩⟩⟩⟩⟩⟩⟩
theorem wA15_t : ∀ w ∈ wA15, w ∈ lw_tbl := List.forall_mem_cons.mpr ⟨(List.mem_append_right (k2_sels lw_privs) (show _ ∈ tables_1_1 ++ (tables_1_2 ++ tables_1_3) from (List.mem_append_right _ (List.mem_append_left _ (List.mem_of_getElem? (l := tables_1_2) (i := 67) rfl))))), List.forall_mem_cons.mpr ⟨(List.mem_append_right (k2_sels lw_privs) (show _ ∈ tables_1_1 ++ (tables_1_2 ++ tables_1_3) from (List.mem_append_right _ (List.mem_append_left _ (List.mem_of_getElem? (l := tables_1_2) (i := 68) rfl))))), List.forall_mem_cons.mpr ⟨(List.mem_append_right (k2_sels lw_privs) (show _ ∈ tables_1_1 ++ (tables_1_2 ++ tables_1_3) from (List.mem_append_right _ (List.mem_append_left _ (List.mem_of_getElem? (l := tables_1_2) (i := 70) rfl))))), List.forall_mem_cons.mpr ⟨(List.mem_append_right (k2_sels lw_privs) (show _ ∈ tables_1_1 ++ (tables_1_2 ++ tables_1_3) from (List.mem_append_right _ (List.mem_append_left _ (List.mem_of_getElem? (l := tables_1_2) (i := 71) rfl))))), List.forall_mem_cons.mpr ⟨(List.mem_append_right (k2_sels lw_privs) (show _ ∈ tables_1_1 ++ (tables_1_2 ++ tables_1_3) from (List.mem_append_right _ (List.mem_append_left _ (List.mem_of_getElem? (l := tables_1_2) (i := 72) rfl))))), List.forall_mem_cons.mpr ⟨(List.mem_append_right (k2_sels lw_privs) (show _ ∈ tables_1_1 ++ (tables_1_2 ++ tables_1_3) from (List.mem_append_right _ (List.mem_append_left _ (List.mem_of_getElem? (l := tables_1_2) (i := 73) rfl))))), List.forall_mem_cons.mpr ⟨(List.mem_append_right (k2_sels lw_privs) (show _ ∈ tables_1_1 ++ (tables_1_2 ++ tables_1_3) from (List.mem_append_right _ (List.mem_append_left _ (List.mem_of_getElem? (l := tables_1_2) (i := 74) rfl))))), List.forall_mem_cons.mpr ⟨(List.mem_append_right (k2_sels lw_privs) (show _ ∈ tables_1_1 ++ (tables_1_2 ++ tables_1_3) from (List.mem_append_right _ (List.mem_append_left _ (List.mem_of_getElem? (l := tables_1_2) (i := 75) rfl))))), List.forall_mem_cons.mpr ⟨(List.mem_append_right (k2_sels lw_privs) (show _ ∈ tables_1_1 ++ (tables_1_2 ++ tables_1_3) from (List.mem_append_right _ (List.mem_append_left _ (List.mem_of_getElem? (l := tables_1_2) (i := 77) rfl))))), List.forall_mem_cons.mpr ⟨(List.mem_append_right (k2_sels lw_privs) (show _ ∈ tables_1_1 ++ (tables_1_2 ++ tables_1_3) from (List.mem_append_right _ (List.mem_append_left _ (List.mem_of_getElem? (l := tables_1_2) (i := 78) rfl))))), List.forall_mem_cons.mpr ⟨(List.mem_append_right (k2_sels lw_privs) (show _ ∈ tables_1_1 ++ (tables_1_2 ++ tables_1_3) from (List.mem_append_right _ (List.mem_append_left _ (List.mem_of_getElem? (l := tables_1_2) (i := 79) rfl))))), List.forall_mem_cons.mpr ⟨(List.mem_append_right (k2_sels lw_privs) (show _ ∈ tables_1_1 ++ (tables_1_2 ++ tables_1_3) from (List.mem_append_right _ (List.mem_append_left _ (List.mem_of_getElem? (l := tables_1_2) (i := 80) rfl))))), List.forall_mem_cons.mpr ⟨(List.mem_append_right (k2_sels lw_privs) (show _ ∈ tables_1_1 ++ (tables_1_2 ++ tables_1_3) from (List.mem_append_right _ (List.mem_append_left _ (List.mem_of_getElem? (l := tables_1_2) (i := 81) rfl))))), List.forall_mem_cons.mpr ⟨(List.mem_append_right (k2_sels lw_privs) (show _ ∈ tables_1_1 ++ (tables_1_2 ++ tables_1_3) from (List.mem_append_right _ (List.mem_append_left _ (List.mem_of_getElem? (l := tables_1_2) (i := 82) rfl))))), List.forall_mem_cons.mpr ⟨(List.mem_append_right (k2_sels lw_privs) (show _ ∈ tables_1_1 ++ (tables_1_2 ++ tables_1_3) from (List.mem_append_right _ (List.mem_append_left _ (List.mem_of_getElem? (l := tables_1_2) (i := 83) rfl))))), List.forall_mem_cons.mpr ⟨(List.mem_append_right (k2_sels lw_privs) (show _ ∈ tables_1_1 ++ (tables_1_2 ++ tables_1_3) from (List.mem_append_right _ (List.mem_append_left _ (List.mem_of_getElem? (l := tables_1_2) (i := 84) rfl))))), List.forall_mem_cons.mpr ⟨(List.mem_append_right (k2_sels lw_privs) (show _ ∈ tables_1_1 ++ (tables_1_2 ++ tables_1_3) from (List.mem_append_right _ (List.mem_append_left _ (List.mem_of_getElem? (l := tables_1_2) (i := 85) rfl))))), List.forall_mem_cons.mpr ⟨(List.mem_append_right (k2_sels lw_privs) (show _ ∈ tables_1_1 ++ (tables_1_2 ++ tables_1_3) from (List.mem_append_right _ (List.mem_append_left _ (List.mem_of_getElem? (l := tables_1_2) (i := 86) rfl))))), List.forall_mem_cons.mpr ⟨(List.mem_append_right (k2_sels lw_privs) (show _ ∈ tables_1_1 ++ (tables_1_2 ++ tables_1_3) from (List.mem_append_right _ (List.mem_append_left _ (List.mem_of_getElem? (l := tables_1_2) (i := 87) rfl))))), List.forall_mem_cons.mpr ⟨(List.mem_append_right (k2_sels lw_privs) (show _ ∈ tables_1_1 ++ (tables_1_2 ++ tables_1_3) from (List.mem_append_right _ (List.mem_append_left _ (List.mem_of_getElem? (l := tables_1_2) (i := 88) rfl))))), fun _ h => absurd h List.not_mem_nil⟩⟩⟩⟩⟩⟩⟩⟩⟩⟩⟩⟩⟩⟩⟩⟩⟩⟩⟩⟩
theorem wA16_t : ∀ w ∈ wA16, w ∈ lw_tbl := List.forall_mem_cons.mpr ⟨(List.mem_append_right (k2_sels lw_privs) (show _ ∈ tables_1_1 ++ (tables_1_2 ++ tables_1_3) from (List.mem_append_right _ (List.mem_append_left _ (List.mem_of_getElem? (l := tables_1_2) (i := 89) rfl))))), List.forall_mem_cons.mpr ⟨(List.mem_append_right (k2_sels lw_privs) (show _ ∈ tables_1_1 ++ (tables_1_2 ++ tables_1_3) from (List.mem_append_right _ (List.mem_append_left _ (List.mem_of_getElem? (l := tables_1_2) (i := 90) rfl))))), List.forall_mem_cons.mpr ⟨(List.mem_append_right (k2_sels lw_privs) (show _ ∈ tables_1_1 ++ (tables_1_2 ++ tables_1_3) from (List.mem_append_right _ (List.mem_append_left _ (List.mem_of_getElem? (l := tables_1_2) (i := 91) rfl))))), List.forall_mem_cons.mpr ⟨(List.mem_append_right (k2_sels lw_privs) (show _ ∈ tables_1_1 ++ (tables_1_2 ++ tables_1_3) from (List.mem_append_right _ (List.mem_append_left _ (List.mem_of_getElem? (l := tables_1_2) (i := 92) rfl))))), List.forall_mem_cons.mpr ⟨(List.mem_append_right (k2_sels lw_privs) (show _ ∈ tables_1_1 ++ (tables_1_2 ++ tables_1_3) from (List.mem_append_right _ (List.mem_append_left _ (List.mem_of_getElem? (l := tables_1_2) (i := 93) rfl))))), List.forall_mem_cons.mpr ⟨(List.mem_append_right (k2_sels lw_privs) (show _ ∈ tables_1_1 ++ (tables_1_2 ++ tables_1_3) from (List.mem_append_right _ (List.mem_append_left _ (List.mem_of_getElem? (l := tables_1_2) (i := 94) rfl))))), List.forall_mem_cons.mpr ⟨(List.mem_append_right (k2_sels lw_privs) (show _ ∈ tables_1_1 ++ (tables_1_2 ++ tables_1_3) from (List.mem_append_right _ (List.mem_append_left _ (List.mem_of_getElem? (l := tables_1_2) (i := 95) rfl))))), List.forall_mem_cons.mpr ⟨(List.mem_append_right (k2_sels lw_privs) (show _ ∈ tables_1_1 ++ (tables_1_2 ++ tables_1_3) from (List.mem_append_right _ (List.mem_append_left _ (List.mem_of_getElem? (l := tables_1_2) (i := 97) rfl))))), List.forall_mem_cons.mpr ⟨(List.mem_append_right (k2_sels lw_privs) (show _ ∈ tables_1_1 ++ (tables_1_2 ++ tables_1_3) from (List.mem_append_right _ (List.mem_append_left _ (List.mem_of_getElem? (l := tables_1_2) (i := 98) rfl))))), List.forall_mem_cons.mpr ⟨(List.mem_append_right (k2_sels lw_privs) (show _ ∈ tables_1_1 ++ (tables_1_2 ++ tables_1_3) from (List.mem_append_right _ (List.mem_append_left _ (List.mem_of_getElem? (l := tables_1_2) (i := 99) rfl))))), List.forall_mem_cons.mpr ⟨(List.mem_append_right (k2_sels lw_privs) (show _ ∈ tables_1_1 ++ (tables_1_2 ++ tables_1_3) from (List.mem_append_right _ (List.mem_append_left _ (List.mem_of_getElem? (l := tables_1_2) (i := 101) rfl))))), List.forall_mem_cons.mpr ⟨(List.mem_append_right (k2_sels lw_privs) (show _ ∈ tables_1_1 ++ (tables_1_2 ++ tables_1_3) from (List.mem_append_right _ (List.mem_append_left _ (List.mem_of_getElem? (l := tables_1_2) (i := 102) rfl))))), List.forall_mem_cons.mpr ⟨(List.mem_append_right (k2_sels lw_privs) (show _ ∈ tables_1_1 ++ (tables_1_2 ++ tables_1_3) from (List.mem_append_right _ (List.mem_append_left _ (List.mem_of_getElem? (l := tables_1_2) (i := 103) rfl))))), List.forall_mem_cons.mpr ⟨(List.mem_append_right (k2_sels lw_privs) (show _ ∈ tables_1_1 ++ (tables_1_2 ++ tables_1_3) from (List.mem_append_right _ (List.mem_append_left _ (List.mem_of_getElem? (l := tables_1_2) (i := 104) rfl))))), List.forall_mem_cons.mpr ⟨(List.mem_append_right (k2_sels lw_privs) (show _ ∈ tables_1_1 ++ (tables_1_2 ++ tables_1_3) from (List.mem_append_right _ (List.mem_append_left _ (List.mem_of_getElem? (l := tables_1_2) (i := 105) rfl))))), List.forall_mem_cons.mpr ⟨(List.mem_append_right (k2_sels lw_privs) (show _ ∈ tables_1_1 ++ (tables_1_2 ++ tables_1_3) from (List.mem_append_right _ (List.mem_append_left _ (List.mem_of_getElem? (l := tables_1_2) (i := 106) rfl))))), List.forall_mem_cons.mpr ⟨(List.mem_append_right (k2_sels lw_privs) (show _ ∈ tables_1_1 ++ (tables_1_2 ++ tables_1_3) from (List.mem_append_right _ (List.mem_append_left _ (List.mem_of_getElem? (l := tables_1_2) (i := 107) rfl))))), List.forall_mem_cons.mpr ⟨(List.mem_append_right (k2_sels lw_privs) (show _ ∈ tables_1_1 ++ (tables_1_2 ++ tables_1_3) from (List.mem_append_right _ (List.mem_append_left _ (List.mem_of_getElem? (l := tables_1_2) (i := 108) rfl))))), List.forall_mem_cons.mpr ⟨(List.mem_append_right (k2_sels lw_privs) (show _ ∈ tables_1_1 ++ (tables_1_2 ++ tables_1_3) from (List.mem_append_right _ (List.mem_append_left _ (List.mem_of_getElem? (l := tables_1_2) (i := 109) rfl))))), List.forall_mem_cons.mpr ⟨(List.mem_append_right (k2_sels lw_privs) (show _ ∈ tables_1_1 ++ (tables_1_2 ++ tables_1_3) from (List.mem_append_right _ (List.mem_append_left _ (List.mem_of_getElem? (l := tables_1_2) (i := 110) rfl))))), fun _ h => absurd h List.not_mem_nil⟩⟩⟩⟩⟩⟩⟩⟩⟩⟩⟩⟩⟩⟩⟩⟩⟩⟩⟩⟩
theorem wA17_t : ∀ w ∈ wA17, w ∈ lw_tbl := List.forall_mem_cons.mpr ⟨(List.mem_append_right (k2_sels lw_privs) (show _ ∈ tables_1_1 ++ (tables_1_2 ++ tables_1_3) from (List.mem_append_right _ (List.mem_append_left _ (List.mem_of_getElem? (l := tables_1_2) (i := 112) rfl))))), List.forall_mem_cons.mpr ⟨(List.mem_append_right (k2_sels lw_privs) (show _ ∈ tables_1_1 ++ (tables_1_2 ++ tables_1_3) from (List.mem_append_right _ (List.mem_append_left _ (List.mem_of_getElem? (l := tables_1_2) (i := 113) rfl))))), List.forall_mem_cons.mpr ⟨(List.mem_append_right (k2_sels lw_privs) (show _ ∈ tables_1_1 ++ (tables_1_2 ++ tables_1_3) from (List.mem_append_right _ (List.mem_append_left _ (List.mem_of_getElem? (l := tables_1_2) (i := 114) rfl))))), List.forall_mem_cons.mpr ⟨(List.mem_append_right (k2_sels lw_privs) (show _ ∈ tables_1_1 ++ (tables_1_2 ++ tables_1_3) from (List.mem_append_right _ (List.mem_append_left _ (List.mem_of_getElem? (l := tables_1_2) (i := 115) rfl))))), List.forall_mem_cons.mpr ⟨(List.mem_append_right (k2_sels lw_privs) (show _ ∈ tables_1_1 ++ (tables_1_2 ++ tables_1_3) from (List.mem_append_right _ (List.mem_append_left _ (List.mem_of_getElem? (l := tables_1_2) (i := 116) rfl))))), List.forall_mem_cons.mpr ⟨(List.mem_append_right (k2_sels lw_privs) (show _ ∈ tables_1_1 ++ (tables_1_2 ++ tables_1_3) from (List.mem_append_right _ (List.mem_append_left _ (List.mem_of_getElem? (l := tables_1_2) (i := 117) rfl))))), List.forall_mem_cons.mpr ⟨(List.mem_append_right (k2_sels lw_privs) (show _ ∈ tables_1_1 ++ (tables_1_2 ++ tables_1_3) from (List.mem_append_right _ (List.mem_append_left _ (List.mem_of_getElem? (l := tables_1_2) (i := 118) rfl))))), List.forall_mem_cons.mpr ⟨(List.mem_append_right (k2_sels lw_privs) (show _ ∈ tables_1_1 ++ (tables_1_2 ++ tables_1_3) from (List.mem_append_right _ (List.mem_append_left _ (List.mem_of_getElem? (l := tables_1_2) (i := 119) rfl))))), List.forall_mem_cons.mpr ⟨(List.mem_append_right (k2_sels lw_privs) (show _ ∈ tables_1_1 ++ (tables_1_2 ++ tables_1_3) from (List.mem_append_right _ (List.mem_append_left _ (List.mem_of_getElem? (l := tables_1_2) (i := 120) rfl))))), List.forall_mem_cons.mpr ⟨(List.mem_append_right (k2_sels lw_privs) (show _ ∈ tables_1_1 ++ (tables_1_2 ++ tables_1_3) from (List.mem_append_right _ (List.mem_append_left _ (List.mem_of_getElem? (l := tables_1_2) (i := 121) rfl))))), List.forall_mem_cons.mpr ⟨(List.mem_append_right (k2_sels lw_privs) (show _ ∈ tables_1_1 ++ (tables_1_2 ++ tables_1_3) from (List.mem_append_right _ (List.mem_append_left _ (List.mem_of_getElem? (l := tables_1_2) (i := 123) rfl))))), List.forall_mem_cons.mpr ⟨(List.mem_append_right (k2_sels lw_privs) (show _ ∈ tables_1_1 ++ (tables_1_2 ++ tables_1_3) from (List.mem_append_right _ (List.mem_append_left _ (List.mem_of_getElem? (l := tables_1_2) (i := 124) rfl))))), List.forall_mem_cons.mpr ⟨(List.mem_append_right (k2_sels lw_privs) (show _ ∈ tables_1_1 ++ (tables_1_2 ++ tables_1_3) from (List.mem_append_right _ (List.mem_append_left _ (List.mem_of_getElem? (l := tables_1_2) (i := 125) rfl))))), List.forall_mem_cons.mpr ⟨(List.mem_append_right (k2_sels lw_privs) (show _ ∈ tables_1_1 ++ (tables_1_2 ++ tables_1_3) from (List.mem_append_right _ (List.mem_append_left _ (List.mem_of_getElem? (l := tables_1_2) (i := 126) rfl))))), List.forall_mem_cons.mpr ⟨(List.mem_append_right (k2_sels lw_privs) (show _ ∈ tables_1_1 ++ (tables_1_2 ++ tables_1_3) from (List.mem_append_right _ (List.mem_append_left _ (List.mem_of_getElem? (l := tables_1_2) (i := 127) rfl))))), List.forall_mem_cons.mpr ⟨(List.mem_append_right (k2_sels lw_privs) (show _ ∈ tables_1_1 ++ (tables_1_2 ++ tables_1_3) from (List.mem_append_right _ (List.mem_append_left _ (List.mem_of_getElem? (l := tables_1_2) (i := 128) rfl))))), List.forall_mem_cons.mpr ⟨(List.mem_append_right (k2_sels lw_privs) (show _ ∈ tables_1_1 ++ (tables_1_2 ++ tables_1_3) from (List.mem_append_right _ (List.mem_append_left _ (List.mem_of_getElem? (l := tables_1_2) (i := 129) rfl))))), List.forall_mem_cons.mpr ⟨(List.mem_append_right (k2_sels lw_privs) (show _ ∈ tables_1_1 ++ (tables_1_2 ++ tables_1_3) from (List.mem_append_right _ (List.mem_append_left _ (List.mem_of_getElem? (l := tables_1_2) (i := 130) rfl))))), List.forall_mem_cons.mpr ⟨(List.mem_append_right (k2_sels lw_privs) (show _ ∈ tables_1_1 ++ (tables_1_2 ++ tables_1_3) from (List.mem_append_right _ (List.mem_append_left _ (List.mem_of_getElem? (l := tables_1_2) (i := 131) rfl))))), List.forall_mem_cons.mpr ⟨(List.mem_append_right (k2_sels lw_privs) (show _ ∈ tables_1_1 ++ (tables_1_2 ++ tables_1_3) from (List.mem_append_right _ (List.mem_append_left _ (List.mem_of_getElem? (l := tables_1_2) (i := 132) rfl))))), fun _ h => absurd h List.not_mem_nil⟩⟩⟩⟩⟩⟩⟩⟩⟩⟩⟩⟩⟩⟩⟩⟩⟩⟩⟩⟩
theorem wA18_t : ∀ w ∈ wA18, w ∈ lw_tbl := List.forall_mem_cons.mpr ⟨(List.mem_append_right (k2_sels lw_privs) (show _ ∈ tables_1_1 ++ (tables_1_2 ++ tables_1_3) from (List.mem_append_right _ (List.mem_append_left _ (List.mem_of_getElem? (l := tables_1_2) (i := 133) rfl))))), List.forall_mem_cons.mpr ⟨(List.mem_append_right (k2_sels lw_privs) (show _ ∈ tables_1_1 ++ (tables_1_2 ++ tables_1_3) from (List.mem_append_right _ (List.mem_append_left _ (List.mem_of_getElem? (l := tables_1_2) (i := 134) rfl))))), List.forall_mem_cons.mpr ⟨(List.mem_append_right (k2_sels lw_privs) (show _ ∈ tables_1_1 ++ (tables_1_2 ++ tables_1_3) from (List.mem_append_right _ (List.mem_append_left _ (List.mem_of_getElem? (l := tables_1_2) (i := 135) rfl))))), List.forall_mem_cons.mpr ⟨(List.mem_append_right (k2_sels lw_privs) (show _ ∈ tables_1_1 ++ (tables_1_2 ++ tables_1_3) from (List.mem_append_right _ (List.mem_append_left _ (List.mem_of_getElem? (l := tables_1_2) (i := 136) rfl))))), List.forall_mem_cons.mpr ⟨(List.mem_append_right (k2_sels lw_privs) (show _ ∈ tables_1_1 ++ (tables_1_2 ++ tables_1_3) from (List.mem_append_right _ (List.mem_append_left _ (List.mem_of_getElem? (l := tables_1_2) (i := 137) rfl))))), List.forall_mem_cons.mpr ⟨(List.mem_append_right (k2_sels lw_privs) (show _ ∈ tables_1_1 ++ (tables_1_2 ++ tables_1_3) from (List.mem_append_right _ (List.mem_append_left _ (List.mem_of_getElem? (l := tables_1_2) (i := 138) rfl))))), List.forall_mem_cons.mpr ⟨(List.mem_append_right (k2_sels lw_privs) (show _ ∈ tables_1_1 ++ (tables_1_2 ++ tables_1_3) from (List.mem_append_right _ (List.mem_append_left _ (List.mem_of_getElem? (l := tables_1_2) (i := 139) rfl))))), List.forall_mem_cons.mpr ⟨(List.mem_append_right (k2_sels lw_privs) (show _ ∈ tables_1_1 ++ (tables_1_2 ++ tables_1_3) from (List.mem_append_right _ (List.mem_append_left _ (List.mem_of_getElem? (l := tables_1_2) (i := 140) rfl))))), List.forall_mem_cons.mpr ⟨(List.mem_append_right (k2_sels lw_privs) (show _ ∈ tables_1_1 ++ (tables_1_2 ++ tables_1_3) from (List.mem_append_right _ (List.mem_append_left _ (List.mem_of_getElem? (l := tables_1_2) (i := 141) rfl))))), List.forall_mem_cons.mpr ⟨(List.mem_append_right (k2_sels lw_privs) (show _ ∈ tables_1_1 ++ (tables_1_2 ++ tables_1_3) from (List.mem_append_right _ (List.mem_append_left _ (List.mem_of_getElem? (l := tables_1_2) (i := 142) rfl))))), List.forall_mem_cons.mpr ⟨(List.mem_append_right (k2_sels lw_privs) (show _ ∈ tables_1_1 ++ (tables_1_2 ++ tables_1_3) from (List.mem_append_right _ (List.mem_append_left _ (List.mem_of_getElem? (l := tables_1_2) (i := 143) rfl))))), List.forall_mem_cons.mpr ⟨(List.mem_append_right (k2_sels lw_privs) (show _ ∈ tables_1_1 ++ (tables_1_2 ++ tables_1_3) from (List.mem_append_right _ (List.mem_append_left _ (List.mem_of_getElem? (l := tables_1_2) (i := 144) rfl))))), List.forall_mem_cons.mpr ⟨(List.mem_append_right (k2_sels lw_privs) (show _ ∈ tables_1_1 ++ (tables_1_2 ++ tables_1_3) from (List.mem_append_right _ (List.mem_append_left _ (List.mem_of_getElem? (l := tables_1_2) (i := 145) rfl))))), List.forall_mem_cons.mpr ⟨(List.mem_append_right (k2_sels lw_privs) (show _ ∈ tables_1_1 ++ (tables_1_2 ++ tables_1_3) from (List.mem_append_right _ (List.mem_append_left _ (List.mem_of_getElem? (l := tables_1_2) (i := 146) rfl))))), List.forall_mem_cons.mpr ⟨(List.mem_append_right (k2_sels lw_privs) (show _ ∈ tables_1_1 ++ (tables_1_2 ++ tables_1_3) from (List.mem_append_right _ (List.mem_append_left _ (List.mem_of_getElem? (l := tables_1_2) (i := 147) rfl))))), List.forall_mem_cons.mpr ⟨(List.mem_append_right (k2_sels lw_privs) (show _ ∈ tables_1_1 ++ (tables_1_2 ++ tables_1_3) from (List.mem_append_right _ (List.mem_append_left _ (List.mem_of_getElem? (l := tables_1_2) (i := 148) rfl))))), List.forall_mem_cons.mpr ⟨(List.mem_append_right (k2_sels lw_privs) (show _ ∈ tables_1_1 ++ (tables_1_2 ++ tables_1_3) from (List.mem_append_right _ (List.mem_append_left _ (List.mem_of_getElem? (l := tables_1_2) (i := 149) rfl))))), List.forall_mem_cons.mpr ⟨(List.mem_append_right (k2_sels lw_privs) (show _ ∈ tables_1_1 ++ (tables_1_2 ++ tables_1_3) from (List.mem_append_right _ (List.mem_append_left _ (List.mem_of_getElem? (l := tables_1_2) (i := 150) rfl))))), List.forall_mem_cons.mpr ⟨(List.mem_append_right (k2_sels lw_privs) (show _ ∈ tables_1_1 ++ (tables_1_2 ++ tables_1_3) from (List.mem_append_right _ (List.mem_append_left _ (List.mem_of_getElem? (l := tables_1_2) (i := 152) rfl))))), List.forall_mem_cons.mpr ⟨(List.mem_append_right (k2_sels lw_privs) (show _ ∈ tables_1_1 ++ (tables_1_2 ++ tables_1_3) from (List.mem_append_right _ (List.mem_append_left _ (List.mem_of_getElem? (l := tables_1_2) (i := 153) rfl))))), fun _ h => absurd h List.not_mem_nil⟩⟩⟩⟩⟩⟩⟩⟩⟩⟩⟩⟩⟩⟩⟩⟩⟩⟩⟩⟩
theorem wA19_t : ∀ w ∈ wA19, w ∈ lw_tbl := List.forall_mem_cons.mpr ⟨(List.mem_append_right (k2_sels lw_privs) (show _ ∈ tables_1_1 ++ (tables_1_2 ++ tables_1_3) from (List.mem_append_right _ (List.mem_append_left _ (List.mem_of_getElem? (l := tables_1_2) (i := 154) rfl))))), List.forall_mem_cons.mpr ⟨(List.mem_append_right (k2_sels lw_privs) (show _ ∈ tables_1_1 ++ (tables_1_2 ++ tables_1_3) from (List.mem_append_right _ (List.mem_append_left _ (List.mem_of_getElem? (l := tables_1_2) (i := 155) rfl))))), List.forall_mem_cons.mpr ⟨(List.mem_append_right (k2_sels lw_privs) (show _ ∈ tables_1_1 ++ (tables_1_2 ++ tables_1_3) from (List.mem_append_right _ (List.mem_append_left _ (List.mem_of_getElem? (l := tables_1_2) (i := 156) rfl))))), List.forall_mem_cons.mpr ⟨(List.mem_append_right (k2_sels lw_privs) (show _ ∈ tables_1_1 ++ (tables_1_2 ++ tables_1_3) from (List.mem_append_right _ (List.mem_append_left _ (List.mem_of_getElem? (l := tables_1_2) (i := 157) rfl))))), List.forall_mem_cons.mpr ⟨(List.mem_append_right (k2_sels lw_privs) (show _ ∈ tables_1_1 ++ (tables_1_2 ++ tables_1_3) from (List.mem_append_right _ (List.mem_append_left _ (List.mem_of_getElem? (l := tables_1_2) (i := 158) rfl))))), List.forall_mem_cons.mpr ⟨(List.mem_append_right (k2_sels lw_privs) (show _ ∈ tables_1_1 ++ (tables_1_2 ++ tables_1_3) from (List.mem_append_right _ (List.mem_append_left _ (List.mem_of_getElem? (l := tables_1_2) (i := 159) rfl))))), List.forall_mem_cons.mpr ⟨(List.mem_append_right (k2_sels lw_privs) (show _ ∈ tables_1_1 ++ (tables_1_2 ++ tables_1_3) from (List.mem_append_right _ (List.mem_append_left _ (List.mem_of_getElem? (l := tables_1_2) (i := 160) rfl))))), List.forall_mem_cons.mpr ⟨(List.mem_append_right (k2_sels lw_privs) (show _ ∈ tables_1_1 ++ (tables_1_2 ++ tables_1_3) from (List.mem_append_right _ (List.mem_append_left _ (List.mem_of_getElem? (l := tables_1_2) (i := 161) rfl))))), List.forall_mem_cons.mpr ⟨(List.mem_append_right (k2_sels lw_privs) (show _ ∈ tables_1_1 ++ (tables_1_2 ++ tables_1_3) from (List.mem_append_right _ (List.mem_append_left _ (List.mem_of_getElem? (l := tables_1_2) (i := 162) rfl))))), List.forall_mem_cons.mpr ⟨(List.mem_append_right (k2_sels lw_privs) (show _ ∈ tables_1_1 ++ (tables_1_2 ++ tables_1_3) from (List.mem_append_right _ (List.mem_append_left _ (List.mem_of_getElem? (l := tables_1_2) (i := 163) rfl))))), List.forall_mem_cons.mpr ⟨(List.mem_append_right (k2_sels lw_privs) (show _ ∈ tables_1_1 ++ (tables_1_2 ++ tables_1_3) from (List.mem_append_right _ (List.mem_append_left _ (List.mem_of_getElem? (l := tables_1_2) (i := 164) rfl))))), List.forall_mem_cons.mpr ⟨(List.mem_append_right (k2_sels lw_privs) (show _ ∈ tables_1_1 ++ (tables_1_2 ++ tables_1_3) from (List.mem_append_right _ (List.mem_append_left _ (List.mem_of_getElem? (l := tables_1_2) (i := 165) rfl))))), List.forall_mem_cons.mpr ⟨(List.mem_append_right (k2_sels lw_privs) (show _ ∈ tables_1_1 ++ (tables_1_2 ++ tables_1_3) from (List.mem_append_right _ (List.mem_append_left _ (List.mem_of_getElem? (l := tables_1_2) (i := 166) rfl))))), List.forall_mem_cons.mpr ⟨(List.mem_append_right (k2_sels lw_privs) (show _ ∈ tables_1_1 ++ (tables_1_2 ++ tables_1_3) from (List.mem_append_right _ (List.mem_append_left _ (List.mem_of_getElem? (l := tables_1_2) (i := 167) rfl))))), List.forall_mem_cons.mpr ⟨(List.mem_append_right (k2_sels lw_privs) (show _ ∈ tables_1_1 ++ (tables_1_2 ++ tables_1_3) from (List.mem_append_right _ (List.mem_append_left _ (List.mem_of_getElem? (l := tables_1_2) (i := 168) rfl))))), List.forall_mem_cons.mpr ⟨(List.mem_append_right (k2_sels lw_privs) (show _ ∈ tables_1_1 ++ (tables_1_2 ++ tables_1_3) from (List.mem_append_right _ (List.mem_append_left _ (List.mem_of_getElem? (l := tables_1_2) (i := 169) rfl))))), List.forall_mem_cons.mpr ⟨(List.mem_append_right (k2_sels lw_privs) (show _ ∈ tables_1_1 ++ (tables_1_2 ++ tables_1_3) from (List.mem_append_right _ (List.mem_append_left _ (List.mem_of_getElem? (l := tables_1_2) (i := 170) rfl))))), List.forall_mem_cons.mpr ⟨(List.mem_append_right (k2_sels lw_privs) (show _ ∈ tables_1_1 ++ (tables_1_2 ++ tables_1_3) from (List.mem_append_right _ (List.mem_append_left _ (List.mem_of_getElem? (l := tables_1_2) (i := 171) rfl))))), List.forall_mem_cons.mpr ⟨(List.mem_append_right (k2_sels lw_privs) (show _ ∈ tables_1_1 ++ (tables_1_2 ++ tables_1_3) from (List.mem_append_right _ (List.mem_append_left _ (List.mem_of_getElem? (l := tables_1_2) (i := 172) rfl))))), List.forall_mem_cons.mpr ⟨(List.mem_append_right (k2_sels lw_privs) (show _ ∈ tables_1_1 ++ (tables_1_2 ++ tables_1_3) from (List.mem_append_right _ (List.mem_append_left _ (List.mem_of_getElem? (l := tables_1_2) (i := 173) rfl))))), fun _ h => absurd h List.not_mem_nil⟩⟩⟩⟩⟩⟩⟩⟩⟩⟩⟩⟩⟩⟩⟩⟩⟩⟩⟩⟩
theorem wA20_t : ∀ w ∈ wA20, w ∈ lw_tbl := List.forall_mem_cons.mpr ⟨(List.mem_append_right (k2_sels lw_privs) (show _ ∈ tables_1_1 ++ (tables_1_2 ++ tables_1_3) from (List.mem_append_right _ (List.mem_append_left _ (List.mem_of_getElem? (l := tables_1_2) (i := 174) rfl))))), List.forall_mem_cons.mpr ⟨(List.mem_append_right (k2_sels lw_privs) (show _ ∈ tables_1_1 ++ (tables_1_2 ++ tables_1_3) from (List.mem_append_right _ (List.mem_append_left _ (List.mem_of_getElem? (l := tables_1_2) (i := 175) rfl))))), List.forall_mem_cons.mpr ⟨(List.mem_append_right (k2_sels lw_privs) (show _ ∈ tables_1_1 ++ (tables_1_2 ++ tables_1_3) from (List.mem_append_right _ (List.mem_append_left _ (List.mem_of_getElem? (l := tables_1_2) (i := 176) rfl))))), List.forall_mem_cons.mpr ⟨(List.mem_append_right (k2_sels lw_privs) (show _ ∈ tables_1_1 ++ (tables_1_2 ++ tables_1_3) from (List.mem_append_right _ (List.mem_append_left _ (List.mem_of_getElem? (l := tables_1_2) (i := 177) rfl))))), List.forall_mem_cons.mpr ⟨(List.mem_append_right (k2_sels lw_privs) (show _ ∈ tables_1_1 ++ (tables_1_2 ++ tables_1_3) from (List.mem_append_right _ (List.mem_append_left _ (List.mem_of_getElem? (l := tables_1_2) (i := 182) rfl))))), List.forall_mem_cons.mpr ⟨(List.mem_append_right (k2_sels lw_privs) (show _ ∈ tables_1_1 ++ (tables_1_2 ++ tables_1_3) from (List.mem_append_right _ (List.mem_append_left _ (List.mem_of_getElem? (l := tables_1_2) (i := 183) rfl))))), List.forall_mem_cons.mpr ⟨(List.mem_append_right (k2_sels lw_privs) (show _ ∈ tables_1_1 ++ (tables_1_2 ++ tables_1_3) from (List.mem_append_right _ (List.mem_append_left _ (List.mem_of_getElem? (l := tables_1_2) (i := 184) rfl))))), List.forall_mem_cons.mpr ⟨(List.mem_append_right (k2_sels lw_privs) (show _ ∈ tables_1_1 ++ (tables_1_2 ++ tables_1_3) from (List.mem_append_right _ (List.mem_append_left _ (List.mem_of_getElem? (l := tables_1_2) (i := 185) rfl))))), List.forall_mem_cons.mpr ⟨(List.mem_append_right (k2_sels lw_privs) (show _ ∈ tables_1_1 ++ (tables_1_2 ++ tables_1_3) from (List.mem_append_right _ (List.mem_append_left _ (List.mem_of_getElem? (l := tables_1_2) (i := 186) rfl))))), List.forall_mem_cons.mpr ⟨(List.mem_append_right (k2_sels lw_privs) (show _ ∈ tables_1_1 ++ (tables_1_2 ++ tables_1_3) from (List.mem_append_right _ (List.mem_append_left _ (List.mem_of_getElem? (l := tables_1_2) (i := 187) rfl))))), List.forall_mem_cons.mpr ⟨(List.mem_append_right (k2_sels lw_privs) (show _ ∈ tables_1_1 ++ (tables_1_2 ++ tables_1_3) from (List.mem_append_right _ (List.mem_append_left _ (List.mem_of_getElem? (l := tables_1_2) (i := 188) rfl))))), List.forall_mem_cons.mpr ⟨(List.mem_append_right (k2_sels lw_privs) (show _ ∈ tables_1_1 ++ (tables_1_2 ++ tables_1_3) from (List.mem_append_right _ (List.mem_append_left _ (List.mem_of_getElem? (l := tables_1_2) (i := 189) rfl))))), List.forall_mem_cons.mpr ⟨(List.mem_append_right (k2_sels lw_privs) (show _ ∈ tables_1_1 ++ (tables_1_2 ++ tables_1_3) from (List.mem_append_right _ (List.mem_append_left _ (List.mem_of_getElem? (l := tables_1_2) (i := 191) rfl))))), List.forall_mem_cons.mpr ⟨(List.mem_append_right (k2_sels lw_privs) (show _ ∈ tables_1_1 ++ (tables_1_2 ++ tables_1_3) from (List.mem_append_right _ (List.mem_append_left _ (List.mem_of_getElem? (l := tables_1_2) (i := 192) rfl))))), List.forall_mem_cons.mpr ⟨(List.mem_append_right (k2_sels lw_privs) (show _ ∈ tables_1_1 ++ (tables_1_2 ++ tables_1_3) from (List.mem_append_right _ (List.mem_append_left _ (List.mem_of_getElem? (l := tables_1_2) (i := 193) rfl))))), List.forall_mem_cons.mpr ⟨(List.mem_append_right (k2_sels lw_privs) (show _ ∈ tables_1_1 ++ (tables_1_2 ++ tables_1_3) from (List.mem_append_right _ (List.mem_append_left _ (List.mem_of_getElem? (l := tables_1_2) (i := 194) rfl))))), List.forall_mem_cons.mpr ⟨(List.mem_append_right (k2_sels lw_privs) (show _ ∈ tables_1_1 ++ (tables_1_2 ++ tables_1_3) from (List.mem_append_right _ (List.mem_append_left _ (List.mem_of_getElem? (l := tables_1_2) (i := 195) rfl))))), List.forall_mem_cons.mpr ⟨(List.mem_append_right (k2_sels lw_privs) (show _ ∈ tables_1_1 ++ (tables_1_2 ++ tables_1_3) from (List.mem_append_right _ (List.mem_append_left _ (List.mem_of_getElem? (l := tables_1_2) (i := 196) rfl))))), List.forall_mem_cons.mpr ⟨(List.mem_append_right (k2_sels lw_privs) (show _ ∈ tables_1_1 ++ (tables_1_2 ++ tables_1_3) from (List.mem_append_right _ (List.mem_append_left _ (List.mem_of_getElem? (l := tables_1_2) (i := 197) rfl))))), List.forall_mem_cons.mpr ⟨(List.mem_append_right (k2_sels lw_privs) (show _ ∈ tables_1_1 ++ (tables_1_2 ++ tables_1_3) from (List.mem_append_right _ (List.mem_append_left _ (List.mem_of_getElem? (l := tables_1_2) (i := 198) rfl))))), fun _ h => absurd h List.not_mem_nil⟩⟩⟩⟩⟩⟩⟩⟩⟩⟩⟩⟩⟩⟩⟩⟩⟩⟩⟩⟩
theorem wA21_t : ∀ w ∈ wA21, w ∈ lw_tbl := List.forall_mem_cons.mpr ⟨(List.mem_append_right (k2_sels lw_privs) (show _ ∈ tables_1_1 ++ (tables_1_2 ++ tables_1_3) from (List.mem_append_right _ (List.mem_append_left _ (List.mem_of_getElem? (l := tables_1_2) (i := 199) rfl))))), List.forall_mem_cons.mpr ⟨(List.mem_append_right (k2_sels lw_privs) (show _ ∈ tables_1_1 ++ (tables_1_2 ++ tables_1_3) from (List.mem_append_right _ (List.mem_append_left _ (List.mem_of_getElem? (l := tables_1_2) (i := 200) rfl))))), List.forall_mem_cons.mpr ⟨(List.mem_append_right (k2_sels lw_privs) (show _ ∈ tables_1_1 ++ (tables_1_2 ++ tables_1_3) from (List.mem_append_right _ (List.mem_append_left _ (List.mem_of_getElem? (l := tables_1_2) (i := 201) rfl))))), List.forall_mem_cons.mpr ⟨(List.mem_append_right (k2_sels lw_privs) (show _ ∈ tables_1_1 ++ (tables_1_2 ++ tables_1_3) from (List.mem_append_right _ (List.mem_append_left _ (List.mem_of_getElem? (l := tables_1_2) (i := 202) rfl))))), List.forall_mem_cons.mpr ⟨(List.mem_append_right (k2_sels lw_privs) (show _ ∈ tables_1_1 ++ (tables_1_2 ++ tables_1_3) from (List.mem_append_right _ (List.mem_append_left _ (List.mem_of_getElem? (l := tables_1_2) (i := 203) rfl))))), List.forall_mem_cons.mpr ⟨(List.mem_append_right (k2_sels lw_privs) (show _ ∈ tables_1_1 ++ (tables_1_2 ++ tables_1_3) from (List.mem_append_right _ (List.mem_append_left _ (List.mem_of_getElem? (l := tables_1_2) (i := 204) rfl))))), List.forall_mem_cons.mpr ⟨(List.mem_append_right (k2_sels lw_privs) (show _ ∈ tables_1_1 ++ (tables_1_2 ++ tables_1_3) from (List.mem_append_right _ (List.mem_append_left _ (List.mem_of_getElem? (l := tables_1_2) (i := 205) rfl))))), List.forall_mem_cons.mpr ⟨(List.mem_append_right (k2_sels lw_privs) (show _ ∈ tables_1_1 ++ (tables_1_2 ++ tables_1_3) from (List.mem_append_right _ (List.mem_append_left _ (List.mem_of_getElem? (l := tables_1_2) (i := 206) rfl))))), List.forall_mem_cons.mpr ⟨(List.mem_append_right (k2_sels lw_privs) (show _ ∈ tables_1_1 ++ (tables_1_2 ++ tables_1_3) from (List.mem_append_right _ (List.mem_append_left _ (List.mem_of_getElem? (l := tables_1_2) (i := 207) rfl))))), List.forall_mem_cons.mpr ⟨(List.mem_append_right (k2_sels lw_privs) (show _ ∈ tables_1_1 ++ (tables_1_2 ++ tables_1_3) from (List.mem_append_right _ (List.mem_append_left _ (List.mem_of_getElem? (l := tables_1_2) (i := 208) rfl))))), List.forall_mem_cons.mpr ⟨(List.mem_append_right (k2_sels lw_privs) (show _ ∈ tables_1_1 ++ (tables_1_2 ++ tables_1_3) from (List.mem_append_right _ (List.mem_append_left _ (List.mem_of_getElem? (l := tables_1_2) (i := 209) rfl))))), List.forall_mem_cons.mpr ⟨(List.mem_append_right (k2_sels lw_privs) (show _ ∈ tables_1_1 ++ (tables_1_2 ++ tables_1_3) from (List.mem_append_right _ (List.mem_append_left _ (List.mem_of_getElem? (l := tables_1_2) (i := 210) rfl))))), List.forall_mem_cons.mpr ⟨(List.mem_append_right (k2_sels lw_privs) (show _ ∈ tables_1_1 ++ (tables_1_2 ++ tables_1_3) from (List.mem_append_right _ (List.mem_append_left _ (List.mem_of_getElem? (l := tables_1_2) (i := 211) rfl))))), List.forall_mem_cons.mpr ⟨(List.mem_append_right (k2_sels lw_privs) (show _ ∈ tables_1_1 ++ (tables_1_2 ++ tables_1_3) from (List.mem_append_right _ (List.mem_append_left _ (List.mem_of_getElem? (l := tables_1_2) (i := 212) rfl))))), List.forall_mem_cons.mpr ⟨(List.mem_append_right (k2_sels lw_privs) (show _ ∈ tables_1_1 ++ (tables_1_2 ++ tables_1_3) from (List.mem_append_right _ (List.mem_append_left _ (List.mem_of_getElem? (l := tables_1_2) (i := 213) rfl))))), List.forall_mem_cons.mpr ⟨(List.mem_append_right (k2_sels lw_privs) (show _ ∈ tables_1_1 ++ (tables_1_2 ++ tables_1_3) from (List.mem_append_right _ (List.mem_append_left _ (List.mem_of_getElem? (l := tables_1_2) (i := 214) rfl))))), List.forall_mem_cons.mpr ⟨(List.mem_append_right (k2_sels lw_privs) (show _ ∈ tables_1_1 ++ (tables_1_2 ++ tables_1_3) from (List.mem_append_right _ (List.mem_append_left _ (List.mem_of_getElem? (l := tables_1_2) (i := 215) rfl))))), List.forall_mem_cons.mpr ⟨(List.mem_append_right (k2_sels lw_privs) (show _ ∈ tables_1_1 ++ (tables_1_2 ++ tables_1_3) from (List.mem_append_right _ (List.mem_append_left _ (List.mem_of_getElem? (l := tables_1_2) (i := 216) rfl))))), List.forall_mem_cons.mpr ⟨(List.mem_append_right (k2_sels lw_privs) (show _ ∈ tables_1_1 ++ (tables_1_2 ++ tables_1_3) from (List.mem_append_right _ (List.mem_append_left _ (List.mem_of_getElem? (l := tables_1_2) (i := 217) rfl))))), List.forall_mem_cons.mpr ⟨(List.mem_append_right (k2_sels lw_privs) (show _ ∈ tables_1_1 ++ (tables_1_2 ++ tables_1_3) from (List.mem_append_right _ (List.mem_append_left _ (List.mem_of_getElem? (l := tables_1_2) (i := 218) rfl))))), fun _ h => absurd h List.not_mem_nil⟩⟩⟩⟩⟩⟩⟩⟩⟩⟩⟩⟩⟩⟩⟩⟩⟩⟩⟩⟩
theorem wA22_t : ∀ w ∈ wA22, w ∈ lw_tbl := List.forall_mem_cons.mpr ⟨(List.mem_append_right (k2_sels lw_privs) (show _ ∈ tables_1_1 ++ (tables_1_2 ++ tables_1_3) from (List.mem_append_right _ (List.mem_append_left _ (List.mem_of_getElem? (l := tables_1_2) (i := 219) rfl))))), List.forall_mem_cons.mpr ⟨(List.mem_append_right (k2_sels lw_privs) (show _ ∈ tables_1_1 ++ (tables_1_2 ++ tables_1_3) from (List.mem_append_right _ (List.mem_append_left _ (List.mem_of_getElem? (l := tables_1_2) (i := 220) rfl))))), List.forall_mem_cons.mpr ⟨(List.mem_append_right (k2_sels lw_privs) (show _ ∈ tables_1_1 ++ (tables_1_2 ++ tables_1_3) from (List.mem_append_right _ (List.mem_append_left _ (List.mem_of_getElem? (l := tables_1_2) (i := 221) rfl))))), List.forall_mem_cons.mpr ⟨(List.mem_append_right (k2_sels lw_privs) (show _ ∈ tables_1_1 ++ (tables_1_2 ++ tables_1_3) from (List.mem_append_right _ (List.mem_append_left _ (List.mem_of_getElem? (l := tables_1_2) (i := 222) rfl))))), List.forall_mem_cons.mpr ⟨(List.mem_append_right (k2_sels lw_privs) (show _ ∈ tables_1_1 ++ (tables_1_2 ++ tables_1_3) from (List.mem_append_right _ (List.mem_append_left _ (List.mem_of_getElem? (l := tables_1_2) (i := 223) rfl))))), List.forall_mem_cons.mpr ⟨(List.mem_append_right (k2_sels lw_privs) (show _ ∈ tables_1_1 ++ (tables_1_2 ++ tables_1_3) from (List.mem_append_right _ (List.mem_append_left _ (List.mem_of_getElem? (l := tables_1_2) (i := 224) rfl))))), List.forall_mem_cons.mpr ⟨(List.mem_append_right (k2_sels lw_privs) (show _ ∈ tables_1_1 ++ (tables_1_2 ++ tables_1_3) from (List.mem_append_right _ (List.mem_append_left _ (List.mem_of_getElem? (l := tables_1_2) (i := 225) rfl))))), List.forall_mem_cons.mpr ⟨(List.mem_append_right (k2_sels lw_privs) (show _ ∈ tables_1_1 ++ (tables_1_2 ++ tables_1_3) from (List.mem_append_right _ (List.mem_append_left _ (List.mem_of_getElem? (l := tables_1_2) (i := 226) rfl))))), List.forall_mem_cons.mpr ⟨(List.mem_append_right (k2_sels lw_privs) (show _ ∈ tables_1_1 ++ (tables_1_2 ++ tables_1_3) from (List.mem_append_right _ (List.mem_append_left _ (List.mem_of_getElem? (l := tables_1_2) (i := 227) rfl))))), List.forall_mem_cons.mpr ⟨(List.mem_append_right (k2_sels lw_privs) (show _ ∈ tables_1_1 ++ (tables_1_2 ++ tables_1_3) from (List.mem_append_right _ (List.mem_append_left _ (List.mem_of_getElem? (l := tables_1_2) (i := 228) rfl))))), List.forall_mem_cons.mpr ⟨(List.mem_append_right (k2_sels lw_privs) (show _ ∈ tables_1_1 ++ (tables_1_2 ++ tables_1_3) from (List.mem_append_right _ (List.mem_append_left _ (List.mem_of_getElem? (l := tables_1_2) (i := 229) rfl))))), List.forall_mem_cons.mpr ⟨(List.mem_append_right (k2_sels lw_privs) (show _ ∈ tables_1_1 ++ (tables_1_2 ++ tables_1_3) from (List.mem_append_right _ (List.mem_append_left _ (List.mem_of_getElem? (l := tables_1_2) (i := 230) rfl))))), List.forall_mem_cons.mpr ⟨(List.mem_append_right (k2_sels lw_privs) (show _ ∈ tables_1_1 ++ (tables_1_2 ++ tables_1_3) from (List.mem_append_right _ (List.mem_append_left _ (List.mem_of_getElem? (l := tables_1_2) (i := 231) rfl))))), List.forall_mem_cons.mpr ⟨(List.mem_append_right (k2_sels lw_privs) (show _ ∈ tables_1_1 ++ (tables_1_2 ++ tables_1_3) from (List.mem_append_right _ (List.mem_append_left _ (List.mem_of_getElem? (l := tables_1_2) (i := 232) rfl))))), List.forall_mem_cons.mpr ⟨(List.mem_append_right (k2_sels lw_privs) (show _ ∈ tables_1_1 ++ (tables_1_2 ++ tables_1_3) from (List.mem_append_right _ (List.mem_append_left _ (List.mem_of_getElem? (l := tables_1_2) (i := 233) rfl))))), List.forall_mem_cons.mpr ⟨(List.mem_append_right (k2_sels lw_privs) (show _ ∈ tables_1_1 ++ (tables_1_2 ++ tables_1_3) from (List.mem_append_right _ (List.mem_append_left _ (List.mem_of_getElem? (l := tables_1_2) (i := 234) rfl))))), List.forall_mem_cons.mpr ⟨(List.mem_append_right (k2_sels lw_privs) (show _ ∈ tables_1_1 ++ (tables_1_2 ++ tables_1_3) from (List.mem_append_right _ (List.mem_append_left _ (List.mem_of_getElem? (l := tables_1_2) (i := 235) rfl))))), List.forall_mem_cons.mpr ⟨(List.mem_append_right (k2_sels lw_privs) (show _ ∈ tables_1_1 ++ (tables_1_2 ++ tables_1_3) from (List.mem_append_right _ (List.mem_append_left _ (List.mem_of_getElem? (l := tables_1_2) (i := 236) rfl))))), List.forall_mem_cons.mpr ⟨(List.mem_append_right (k2_sels lw_privs) (show _ ∈ tables_1_1 ++ (tables_1_2 ++ tables_1_3) from (List.mem_append_right _ (List.mem_append_left _ (List.mem_of_getElem? (l := tables_1_2) (i := 237) rfl))))), List.forall_mem_cons.mpr ⟨(List.mem_append_right (k2_sels lw_privs) (show _ ∈ tables_1_1 ++ (tables_1_2 ++ tables_1_3) from (List.mem_append_right _ (List.mem_append_left _ (List.mem_of_getElem? (l := tables_1_2) (i := 238) rfl))))), fun _ h => absurd h List.not_mem_nil⟩⟩⟩⟩⟩⟩⟩⟩⟩⟩⟩⟩⟩⟩⟩⟩⟩⟩⟩⟩
theorem wA23_t : ∀ w ∈ wA23, w ∈ lw_tbl := List.forall_mem_cons.mpr ⟨(List.mem_append_right (k2_sels lw_privs) (show _ ∈ tables_1_1 ++ (tables_1_2 ++ tables_1_3) from (List.mem_append_right _ (List.mem_append_left _ (List.mem_of_getElem? (l := tables_1_2) (i := 239) rfl))))), List.forall_mem_cons.mpr ⟨(List.mem_append_right (k2_sels lw_privs) (show _ ∈ tables_1_1 ++ (tables_1_2 ++ tables_1_3) from (List.mem_append_right _ (List.mem_append_right _ (List.mem_of_getElem? (l := tables_1_3) (i := 0) rfl))))), List.forall_mem_cons.mpr ⟨(List.mem_append_right (k2_sels lw_privs) (show _ ∈ tables_1_1 ++ (tables_1_2 ++ tables_1_3) from (List.mem_append_right _ (List.mem_append_right _ (List.mem_of_getElem? (l := tables_1_3) (i := 1) rfl))))), List.forall_mem_cons.mpr ⟨(List.mem_append_right (k2_sels lw_privs) (show _ ∈ tables_1_1 ++ (tables_1_2 ++ tables_1_3) from (List.mem_append_right _ (List.mem_append_right _ (List.mem_of_getElem? (l := tables_1_3) (i := 2) rfl))))), List.forall_mem_cons.mpr ⟨(List.mem_append_right (k2_sels lw_privs) (show _ ∈ tables_1_1 ++ (tables_1_2 ++ tables_1_3) from (List.mem_append_right _ (List.mem_append_right _ (List.mem_of_getElem? (l := tables_1_3) (i := 3) rfl))))), List.forall_mem_cons.mpr ⟨(List.mem_append_right (k2_sels lw_privs) (show _ ∈ tables_1_1 ++ (tables_1_2 ++ tables_1_3) from (List.mem_append_right _ (List.mem_append_right _ (List.mem_of_getElem? (l := tables_1_3) (i := 4) rfl))))), List.forall_mem_cons.mpr ⟨(List.mem_append_right (k2_sels lw_privs) (show _ ∈ tables_1_1 ++ (tables_1_2 ++ tables_1_3) from (List.mem_append_right _ (List.mem_append_right _ (List.mem_of_getElem? (l := tables_1_3) (i := 5) rfl))))), List.forall_mem_cons.mpr ⟨(List.mem_append_right (k2_sels lw_privs) (show _ ∈ tables_1_1 ++ (tables_1_2 ++ tables_1_3) from (List.mem_append_right _ (List.mem_append_right _ (List.mem_of_getElem? (l := tables_1_3) (i := 6) rfl))))), List.forall_mem_cons.mpr ⟨(List.mem_append_right (k2_sels lw_privs) (show _ ∈ tables_1_1 ++ (tables_1_2 ++ tables_1_3) from (List.mem_append_right _ (List.mem_append_right _ (List.mem_of_getElem? (l := tables_1_3) (i := 7) rfl))))), List.forall_mem_cons.mpr ⟨(List.mem_append_right (k2_sels lw_privs) (show _ ∈ tables_1_1 ++ (tables_1_2 ++ tables_1_3) from (List.mem_append_right _ (List.mem_append_right _ (List.mem_of_getElem? (l := tables_1_3) (i := 9) rfl))))), List.forall_mem_cons.mpr ⟨(List.mem_append_right (k2_sels lw_privs) (show _ ∈ tables_1_1 ++ (tables_1_2 ++ tables_1_3) from (List.mem_append_right _ (List.mem_append_right _ (List.mem_of_getElem? (l := tables_1_3) (i := 10) rfl))))), List.forall_mem_cons.mpr ⟨(List.mem_append_right (k2_sels lw_privs) (show _ ∈ tables_1_1 ++ (tables_1_2 ++ tables_1_3) from (List.mem_append_right _ (List.mem_append_right _ (List.mem_of_getElem? (l := tables_1_3) (i := 11) rfl))))), List.forall_mem_cons.mpr ⟨(List.mem_append_right (k2_sels lw_privs) (show _ ∈ tables_1_1 ++ (tables_1_2 ++ tables_1_3) from (List.mem_append_right _ (List.mem_append_right _ (List.mem_of_getElem? (l := tables_1_3) (i := 12) rfl))))), List.forall_mem_cons.mpr ⟨(List.mem_append_right (k2_sels lw_privs) (show _ ∈ tables_1_1 ++ (tables_1_2 ++ tables_1_3) from (List.mem_append_right _ (List.mem_append_right _ (List.mem_of_getElem? (l := tables_1_3) (i := 13) rfl))))), List.forall_mem_cons.mpr ⟨(List.mem_append_right (k2_sels lw_privs) (show _ ∈ tables_1_1 ++ (tables_1_2 ++ tables_1_3) from (List.mem_append_right _ (List.mem_append_right _ (List.mem_of_getElem? (l := tables_1_3) (i := 14) rfl))))), List.forall_mem_cons.mpr ⟨(List.mem_append_right (k2_sels lw_privs) (show _ ∈ tables_1_1 ++ (tables_1_2 ++ tables_1_3) from (List.mem_append_right _ (List.mem_append_right _ (List.mem_of_getElem? (l := tables_1_3) (i := 15) rfl))))), List.forall_mem_cons.mpr ⟨(List.mem_append_right (k2_sels lw_privs) (show _ ∈ tables_1_1 ++ (tables_1_2 ++ tables_1_3) from (List.mem_append_right _ (List.mem_append_right _ (List.mem_of_getElem? (l := tables_1_3) (i := 16) rfl))))), List.forall_mem_cons.mpr ⟨(List.mem_append_right (k2_sels lw_privs) (show _ ∈ tables_1_1 ++ (tables_1_2 ++ tables_1_3) from (List.mem_append_right _ (List.mem_append_right _ (List.mem_of_getElem? (l := tables_1_3) (i := 17) rfl))))), List.forall_mem_cons.mpr ⟨(List.mem_append_right (k2_sels lw_privs) (show _ ∈ tables_1_1 ++ (tables_1_2 ++ tables_1_3) from (List.mem_append_right _ (List.mem_append_right _ (List.mem_of_getElem? (l := tables_1_3) (i := 19) rfl))))), List.forall_mem_cons.mpr ⟨(List.mem_append_right (k2_sels lw_privs) (show _ ∈ tables_1_1 ++ (tables_1_2 ++ tables_1_3) from (List.mem_append_right _ (List.mem_append_right _ (List.mem_of_getElem? (l := tables_1_3) (i := 20) rfl))))), fun _ h => absurd h List.not_mem_nil⟩⟩⟩⟩⟩⟩⟩⟩⟩⟩⟩⟩⟩⟩⟩⟩⟩⟩⟩⟩
theorem wA24_t : ∀ w ∈ wA24, w ∈ lw_tbl := List.forall_mem_cons.mpr ⟨(List.mem_append_right (k2_sels lw_privs) (show _ ∈ tables_1_1 ++ (tables_1_2 ++ tables_1_3) from (List.mem_append_right _ (List.mem_append_right _ (List.mem_of_getElem? (l := tables_1_3) (i := 21) rfl))))), List.forall_mem_cons.mpr ⟨(List.mem_append_right (k2_sels lw_privs) (show _ ∈ tables_1_1 ++ (tables_1_2 ++ tables_1_3) from (List.mem_append_right _ (List.mem_append_right _ (List.mem_of_getElem? (l := tables_1_3) (i := 22) rfl))))), List.forall_mem_cons.mpr ⟨(List.mem_append_right (k2_sels lw_privs) (show _ ∈ tables_1_1 ++ (tables_1_2 ++ tables_1_3) from (List.mem_append_right _ (List.mem_append_right _ (List.mem_of_getElem? (l := tables_1_3) (i := 23) rfl))))), List.forall_mem_cons.mpr ⟨(List.mem_append_right (k2_sels lw_privs) (show _ ∈ tables_1_1 ++ (tables_1_2 ++ tables_1_3) from (List.mem_append_right _ (List.mem_append_right _ (List.mem_of_getElem? (l := tables_1_3) (i := 24) rfl))))), List.forall_mem_cons.mpr ⟨(List.mem_append_right (k2_sels lw_privs) (show _ ∈ tables_1_1 ++ (tables_1_2 ++ tables_1_3) from (List.mem_append_right _ (List.mem_append_right _ (List.mem_of_getElem? (l := tables_1_3) (i := 25) rfl))))), List.forall_mem_cons.mpr ⟨(List.mem_append_right (k2_sels lw_privs) (show _ ∈ tables_1_1 ++ (tables_1_2 ++ tables_1_3) from (List.mem_append_right _ (List.mem_append_right _ (List.mem_of_getElem? (l := tables_1_3) (i := 26) rfl))))), List.forall_mem_cons.mpr ⟨(List.mem_append_right (k2_sels lw_privs) (show _ ∈ tables_1_1 ++ (tables_1_2 ++ tables_1_3) from (List.mem_append_right _ (List.mem_append_right _ (List.mem_of_getElem? (l := tables_1_3) (i := 27) rfl))))), List.forall_mem_cons.mpr ⟨(List.mem_append_right (k2_sels lw_privs) (show _ ∈ tables_1_1 ++ (tables_1_2 ++ tables_1_3) from (List.mem_append_right _ (List.mem_append_right _ (List.mem_of_getElem? (l := tables_1_3) (i := 28) rfl))))), List.forall_mem_cons.mpr ⟨(List.mem_append_right (k2_sels lw_privs) (show _ ∈ tables_1_1 ++ (tables_1_2 ++ tables_1_3) from (List.mem_append_right _ (List.mem_append_right _ (List.mem_of_getElem? (l := tables_1_3) (i := 29) rfl))))), List.forall_mem_cons.mpr ⟨(List.mem_append_right (k2_sels lw_privs) (show _ ∈ tables_1_1 ++ (tables_1_2 ++ tables_1_3) from (List.mem_append_right _ (List.mem_append_right _ (List.mem_of_getElem? (l := tables_1_3) (i := 30) rfl))))), List.forall_mem_cons.mpr ⟨(List.mem_append_right (k2_sels lw_privs) (show _ ∈ tables_1_1 ++ (tables_1_2 ++ tables_1_3) from (List.mem_append_right _ (List.mem_append_right _ (List.mem_of_getElem? (l := tables_1_3) (i := 31) rfl))))), List.forall_mem_cons.mpr ⟨(List.mem_append_right (k2_sels lw_privs) (show _ ∈ tables_1_1 ++ (tables_1_2 ++ tables_1_3) from (List.mem_append_right _ (List.mem_append_right _ (List.mem_of_getElem? (l := tables_1_3) (i := 32) rfl))))), List.forall_mem_cons.mpr ⟨(List.mem_append_right (k2_sels lw_privs) (show _ ∈ tables_1_1 ++ (tables_1_2 ++ tables_1_3) from (List.mem_append_right _ (List.mem_append_right _ (List.mem_of_getElem? (l := tables_1_3) (i := 34) rfl))))), List.forall_mem_cons.mpr ⟨(List.mem_append_right (k2_sels lw_privs) (show _ ∈ tables_1_1 ++ (tables_1_2 ++ tables_1_3) from (List.mem_append_right _ (List.mem_append_right _ (List.mem_of_getElem? (l := tables_1_3) (i := 35) rfl))))), List.forall_mem_cons.mpr ⟨(List.mem_append_right (k2_sels lw_privs) (show _ ∈ tables_1_1 ++ (tables_1_2 ++ tables_1_3) from (List.mem_append_right _ (List.mem_append_right _ (List.mem_of_getElem? (l := tables_1_3) (i := 36) rfl))))), List.forall_mem_cons.mpr ⟨(List.mem_append_right (k2_sels lw_privs) (show _ ∈ tables_1_1 ++ (tables_1_2 ++ tables_1_3) from (List.mem_append_right _ (List.mem_append_right _ (List.mem_of_getElem? (l := tables_1_3) (i := 37) rfl))))), List.forall_mem_cons.mpr ⟨(List.mem_append_right (k2_sels lw_privs) (show _ ∈ tables_1_1 ++ (tables_1_2 ++ tables_1_3) from (List.mem_append_right _ (List.mem_append_right _ (List.mem_of_getElem? (l := tables_1_3) (i := 38) rfl))))), List.forall_mem_cons.mpr ⟨(List.mem_append_right (k2_sels lw_privs) (show _ ∈ tables_1_1 ++ (tables_1_2 ++ tables_1_3) from (List.mem_append_right _ (List.mem_append_right _ (List.mem_of_getElem? (l := tables_1_3) (i := 39) rfl))))), List.forall_mem_cons.mpr ⟨(List.mem_append_right (k2_sels lw_privs) (show _ ∈ tables_1_1 ++ (tables_1_2 ++ tables_1_3) from (List.mem_append_right _ (List.mem_append_right _ (List.mem_of_getElem? (l := tables_1_3) (i := 40) rfl))))), List.forall_mem_cons.mpr ⟨(List.mem_append_right (k2_sels lw_privs) (show _ ∈ tables_1_1 ++ (tables_1_2 ++ tables_1_3) from (List.mem_append_right _ (List.mem_append_right _ (List.mem_of_getElem? (l := tables_1_3) (i := 42) rfl))))), fun _ h => absurd h List.not_mem_nil⟩⟩⟩⟩⟩⟩⟩⟩⟩⟩⟩⟩⟩⟩⟩⟩⟩⟩⟩⟩
theorem wA25_t : ∀ w ∈ wA25, w ∈ lw_tbl := List.forall_mem_cons.mpr ⟨(List.mem_append_right (k2_sels lw_privs) (show _ ∈ tables_1_1 ++ (tables_1_2 ++ tables_1_3) from (List.mem_append_right _ (List.mem_append_right _ (List.mem_of_getElem? (l := tables_1_3) (i := 43) rfl))))), List.forall_mem_cons.mpr ⟨(List.mem_append_right (k2_sels lw_privs) (show _ ∈ tables_1_1 ++ (tables_1_2 ++ tables_1_3) from (List.mem_append_right _ (List.mem_append_right _ (List.mem_of_getElem? (l := tables_1_3) (i := 44) rfl))))), List.forall_mem_cons.mpr ⟨(List.mem_append_right (k2_sels lw_privs) (show _ ∈ tables_1_1 ++ (tables_1_2 ++ tables_1_3) from (List.mem_append_right _ (List.mem_append_right _ (List.mem_of_getElem? (l := tables_1_3) (i := 45) rfl))))), List.forall_mem_cons.mpr ⟨(List.mem_append_right (k2_sels lw_privs) (show _ ∈ tables_1_1 ++ (tables_1_2 ++ tables_1_3) from (List.mem_append_right _ (List.mem_append_right _ (List.mem_of_getElem? (l := tables_1_3) (i := 46) rfl))))), List.forall_mem_cons.mpr ⟨(List.mem_append_right (k2_sels lw_privs) (show _ ∈ tables_1_1 ++ (tables_1_2 ++ tables_1_3) from (List.mem_append_right _ (List.mem_append_right _ (List.mem_of_getElem? (l := tables_1_3) (i := 47) rfl))))), List.forall_mem_cons.mpr ⟨(List.mem_append_right (k2_sels lw_privs) (show _ ∈ tables_1_1 ++ (tables_1_2 ++ tables_1_3) from (List.mem_append_right _ (List.mem_append_right _ (List.mem_of_getElem? (l := tables_1_3) (i := 48) rfl))))), List.forall_mem_cons.mpr ⟨(List.mem_append_right (k2_sels lw_privs) (show _ ∈ tables_1_1 ++ (tables_1_2 ++ tables_1_3) from (List.mem_append_right _ (List.mem_append_right _ (List.mem_of_getElem? (l := tables_1_3) (i := 50) rfl))))), List.forall_mem_cons.mpr ⟨(List.mem_append_right (k2_sels lw_privs) (show _ ∈ tables_1_1 ++ (tables_1_2 ++ tables_1_3) from (List.mem_append_right _ (List.mem_append_right _ (List.mem_of_getElem? (l := tables_1_3) (i := 51) rfl))))), List.forall_mem_cons.mpr ⟨(List.mem_append_right (k2_sels lw_privs) (show _ ∈ tables_1_1 ++ (tables_1_2 ++ tables_1_3) from (List.mem_append_right _ (List.mem_append_right _ (List.mem_of_getElem? (l := tables_1_3) (i := 52) rfl))))), List.forall_mem_cons.mpr ⟨(List.mem_append_right (k2_sels lw_privs) (show _ ∈ tables_1_1 ++ (tables_1_2 ++ tables_1_3) from (List.mem_append_right _ (List.mem_append_right _ (List.mem_of_getElem? (l := tables_1_3) (i := 53) rfl))))), List.forall_mem_cons.mpr ⟨(List.mem_append_right (k2_sels lw_privs) (show _ ∈ tables_1_1 ++ (tables_1_2 ++ tables_1_3) from (List.mem_append_right _ (List.mem_append_right _ (List.mem_of_getElem? (l := tables_1_3) (i := 54) rfl))))), List.forall_mem_cons.mpr ⟨(List.mem_append_right (k2_sels lw_privs) (show _ ∈ tables_1_1 ++ (tables_1_2 ++ tables_1_3) from (List.mem_append_right _ (List.mem_append_right _ (List.mem_of_getElem? (l := tables_1_3) (i := 55) rfl))))), List.forall_mem_cons.mpr ⟨(List.mem_append_right (k2_sels lw_privs) (show _ ∈ tables_1_1 ++ (tables_1_2 ++ tables_1_3) from (List.mem_append_right _ (List.mem_append_right _ (List.mem_of_getElem? (l := tables_1_3) (i := 56) rfl))))), List.forall_mem_cons.mpr ⟨(List.mem_append_right (k2_sels lw_privs) (show _ ∈ tables_1_1 ++ (tables_1_2 ++ tables_1_3) from (List.mem_append_right _ (List.mem_append_right _ (List.mem_of_getElem? (l := tables_1_3) (i := 58) rfl))))), List.forall_mem_cons.mpr ⟨(List.mem_append_right (k2_sels lw_privs) (show _ ∈ tables_1_1 ++ (tables_1_2 ++ tables_1_3) from (List.mem_append_right _ (List.mem_append_right _ (List.mem_of_getElem? (l := tables_1_3) (i := 59) rfl))))), List.forall_mem_cons.mpr ⟨(List.mem_append_right (k2_sels lw_privs) (show _ ∈ tables_1_1 ++ (tables_1_2 ++ tables_1_3) from (List.mem_append_right _ (List.mem_append_right _ (List.mem_of_getElem? (l := tables_1_3) (i := 60) rfl))))), List.forall_mem_cons.mpr ⟨(List.mem_append_right (k2_sels lw_privs) (show _ ∈ tables_1_1 ++ (tables_1_2 ++ tables_1_3) from (List.mem_append_right _ (List.mem_append_right _ (List.mem_of_getElem? (l := tables_1_3) (i := 62) rfl))))), List.forall_mem_cons.mpr ⟨(List.mem_append_right (k2_sels lw_privs) (show _ ∈ tables_1_1 ++ (tables_1_2 ++ tables_1_3) from (List.mem_append_right _ (List.mem_append_right _ (List.mem_of_getElem? (l := tables_1_3) (i := 63) rfl))))), List.forall_mem_cons.mpr ⟨(List.mem_append_right (k2_sels lw_privs) (show _ ∈ tables_1_1 ++ (tables_1_2 ++ tables_1_3) from (List.mem_append_right _ (List.mem_append_right _ (List.mem_of_getElem? (l := tables_1_3) (i := 64) rfl))))), List.forall_mem_cons.mpr ⟨(List.mem_append_right (k2_sels lw_privs) (show _ ∈ tables_1_1 ++ (tables_1_2 ++ tables_1_3) from (List.mem_append_right _ (List.mem_append_right _ (List.mem_of_getElem? (l := tables_1_3) (i := 66) rfl))))), fun _ h => absurd h List.not_mem_nil⟩⟩⟩⟩⟩⟩⟩⟩⟩⟩⟩⟩⟩⟩⟩⟩⟩⟩⟩⟩
theorem wA26_t : ∀ w ∈ wA26, w ∈ lw_tbl := List.forall_mem_cons.mpr ⟨(List.mem_append_right (k2_sels lw_privs) (show _ ∈ tables_1_1 ++ (tables_1_2 ++ tables_1_3) from (List.mem_append_right _ (List.mem_append_right _ (List.mem_of_getElem? (l := tables_1_3) (i := 67) rfl))))), List.forall_mem_cons.mpr ⟨(List.mem_append_right (k2_sels lw_privs) (show _ ∈ tables_1_1 ++ (tables_1_2 ++ tables_1_3) from (List.mem_append_right _ (List.mem_append_right _ (List.mem_of_getElem? (l := tables_1_3) (i := 68) rfl))))), List.forall_mem_cons.mpr ⟨(List.mem_append_right (k2_sels lw_privs) (show _ ∈ tables_1_1 ++ (tables_1_2 ++ tables_1_3) from (List.mem_append_right _ (List.mem_append_right _ (List.mem_of_getElem? (l := tables_1_3) (i := 69) rfl))))), List.forall_mem_cons.mpr ⟨(List.mem_append_right (k2_sels lw_privs) (show _ ∈ tables_1_1 ++ (tables_1_2 ++ tables_1_3) from (List.mem_append_right _ (List.mem_append_right _ (List.mem_of_getElem? (l := tables_1_3) (i := 70) rfl))))), List.forall_mem_cons.mpr ⟨(List.mem_append_right (k2_sels lw_privs) (show _ ∈ tables_1_1 ++ (tables_1_2 ++ tables_1_3) from (List.mem_append_right _ (List.mem_append_right _ (List.mem_of_getElem? (l := tables_1_3) (i := 71) rfl))))), List.forall_mem_cons.mpr ⟨(List.mem_append_right (k2_sels lw_privs) (show _ ∈ tables_1_1 ++ (tables_1_2 ++ tables_1_3) from (List.mem_append_right _ (List.mem_append_right _ (List.mem_of_getElem? (l := tables_1_3) (i := 73) rfl))))), List.forall_mem_cons.mpr ⟨(List.mem_append_right (k2_sels lw_privs) (show _ ∈ tables_1_1 ++ (tables_1_2 ++ tables_1_3) from (List.mem_append_right _ (List.mem_append_right _ (List.mem_of_getElem? (l := tables_1_3) (i := 74) rfl))))), List.forall_mem_cons.mpr ⟨(List.mem_append_right (k2_sels lw_privs) (show _ ∈ tables_1_1 ++ (tables_1_2 ++ tables_1_3) from (List.mem_append_right _ (List.mem_append_right _ (List.mem_of_getElem? (l := tables_1_3) (i := 75) rfl))))), List.forall_mem_cons.mpr ⟨(List.mem_append_right (k2_sels lw_privs) (show _ ∈ tables_1_1 ++ (tables_1_2 ++ tables_1_3) from (List.mem_append_right _ (List.mem_append_right _ (List.mem_of_getElem? (l := tables_1_3) (i := 76) rfl))))), List.forall_mem_cons.mpr ⟨(List.mem_append_right (k2_sels lw_privs) (show _ ∈ tables_1_1 ++ (tables_1_2 ++ tables_1_3) from (List.mem_append_right _ (List.mem_append_right _ (List.mem_of_getElem? (l := tables_1_3) (i := 77) rfl))))), List.forall_mem_cons.mpr ⟨(List.mem_append_right (k2_sels lw_privs) (show _ ∈ tables_1_1 ++ (tables_1_2 ++ tables_1_3) from (List.mem_append_right _ (List.mem_append_right _ (List.mem_of_getElem? (l := tables_1_3) (i := 78) rfl))))), List.forall_mem_cons.mpr ⟨(List.mem_append_right (k2_sels lw_privs) (show _ ∈ tables_1_1 ++ (tables_1_2 ++ tables_1_3) from (List.mem_append_right _ (List.mem_append_right _ (List.mem_of_getElem? (l := tables_1_3) (i := 79) rfl))))), List.forall_mem_cons.mpr ⟨(List.mem_append_right (k2_sels lw_privs) (show _ ∈ tables_1_1 ++ (tables_1_2 ++ tables_1_3) from (List.mem_append_right _ (List.mem_append_right _ (List.mem_of_getElem? (l := tables_1_3) (i := 80) rfl))))), List.forall_mem_cons.mpr ⟨(List.mem_append_right (k2_sels lw_privs) (show _ ∈ tables_1_1 ++ (tables_1_2 ++ tables_1_3) from (List.mem_append_right _ (List.mem_append_right _ (List.mem_of_getElem? (l := tables_1_3) (i := 81) rfl))))), List.forall_mem_cons.mpr ⟨(List.mem_append_right (k2_sels lw_privs) (show _ ∈ tables_1_1 ++ (tables_1_2 ++ tables_1_3) from (List.mem_append_right _ (List.mem_append_right _ (List.mem_of_getElem? (l := tables_1_3) (i := 82) rfl))))), List.forall_mem_cons.mpr ⟨(List.mem_append_right (k2_sels lw_privs) (show _ ∈ tables_1_1 ++ (tables_1_2 ++ tables_1_3) from (List.mem_append_right _ (List.mem_append_right _ (List.mem_of_getElem? (l := tables_1_3) (i := 83) rfl))))), List.forall_mem_cons.mpr ⟨(List.mem_append_right (k2_sels lw_privs) (show _ ∈ tables_1_1 ++ (tables_1_2 ++ tables_1_3) from (List.mem_append_right _ (List.mem_append_right _ (List.mem_of_getElem? (l := tables_1_3) (i := 84) rfl))))), List.forall_mem_cons.mpr ⟨(List.mem_append_right (k2_sels lw_privs) (show _ ∈ tables_1_1 ++ (tables_1_2 ++ tables_1_3) from (List.mem_append_right _ (List.mem_append_right _ (List.mem_of_getElem? (l := tables_1_3) (i := 85) rfl))))), List.forall_mem_cons.mpr ⟨(List.mem_append_right (k2_sels lw_privs) (show _ ∈ tables_1_1 ++ (tables_1_2 ++ tables_1_3) from (List.mem_append_right _ (List.mem_append_right _ (List.mem_of_getElem? (l := tables_1_3) (i := 86) rfl))))), List.forall_mem_cons.mpr ⟨(List.mem_append_right (k2_sels lw_privs) (show _ ∈ tables_1_1 ++ (tables_1_2 ++ tables_1_3) from (List.mem_append_right _ (List.mem_append_right _ (List.mem_of_getElem? (l := tables_1_3) (i := 87) rfl))))), fun _ h => absurd h List.not_mem_nil⟩⟩⟩⟩⟩⟩⟩⟩⟩⟩⟩⟩⟩⟩⟩⟩⟩⟩⟩⟩
theorem wA27_t : ∀ w ∈ wA27, w ∈ lw_tbl := List.forall_mem_cons.mpr ⟨(List.mem_append_right (k2_sels lw_privs) (show _ ∈ tables_1_1 ++ (tables_1_2 ++ tables_1_3) from (List.mem_append_right _ (List.mem_append_right _ (List.mem_of_getElem? (l := tables_1_3) (i := 89) rfl))))), List.forall_mem_cons.mpr ⟨(List.mem_append_right (k2_sels lw_privs) (show _ ∈ tables_1_1 ++ (tables_1_2 ++ tables_1_3) from (List.mem_append_right _ (List.mem_append_right _ (List.mem_of_getElem? (l := tables_1_3) (i := 90) rfl))))), List.forall_mem_cons.mpr ⟨(List.mem_append_right (k2_sels lw_privs) (show _ ∈ tables_1_1 ++ (tables_1_2 ++ tables_1_3) from (List.mem_append_right _ (List.mem_append_right _ (List.mem_of_getElem? (l := tables_1_3) (i := 91) rfl))))), List.forall_mem_cons.mpr ⟨(List.mem_append_right (k2_sels lw_privs) (show _ ∈ tables_1_1 ++ (tables_1_2 ++ tables_1_3) from (List.mem_append_right _ (List.mem_append_right _ (List.mem_of_getElem? (l := tables_1_3) (i := 92) rfl))))), List.forall_mem_cons.mpr ⟨(List.mem_append_right (k2_sels lw_privs) (show _ ∈ tables_1_1 ++ (tables_1_2 ++ tables_1_3) from (List.mem_append_right _ (List.mem_append_right _ (List.mem_of_getElem? (l := tables_1_3) (i := 93) rfl))))), List.forall_mem_cons.mpr ⟨(List.mem_append_right (k2_sels lw_privs) (show _ ∈ tables_1_1 ++ (tables_1_2 ++ tables_1_3) from (List.mem_append_right _ (List.mem_append_right _ (List.mem_of_getElem? (l := tables_1_3) (i := 94) rfl))))), List.forall_mem_cons.mpr ⟨(List.mem_append_right (k2_sels lw_privs) (show _ ∈ tables_1_1 ++ (tables_1_2 ++ tables_1_3) from (List.mem_append_right _ (List.mem_append_right _ (List.mem_of_getElem? (l := tables_1_3) (i := 95) rfl))))), List.forall_mem_cons.mpr ⟨(List.mem_append_right (k2_sels lw_privs) (show _ ∈ tables_1_1 ++ (tables_1_2 ++ tables_1_3) from (List.mem_append_right _ (List.mem_append_right _ (List.mem_of_getElem? (l := tables_1_3) (i := 96) rfl))))), List.forall_mem_cons.mpr ⟨(List.mem_append_right (k2_sels lw_privs) (show _ ∈ tables_1_1 ++ (tables_1_2 ++ tables_1_3) from (List.mem_append_right _ (List.mem_append_right _ (List.mem_of_getElem? (l := tables_1_3) (i := 97) rfl))))), List.forall_mem_cons.mpr ⟨(List.mem_append_right (k2_sels lw_privs) (show _ ∈ tables_1_1 ++ (tables_1_2 ++ tables_1_3) from (List.mem_append_right _ (List.mem_append_right _ (List.mem_of_getElem? (l := tables_1_3) (i := 98) rfl))))), List.forall_mem_cons.mpr ⟨(List.mem_append_right (k2_sels lw_privs) (show _ ∈ tables_1_1 ++ (tables_1_2 ++ tables_1_3) from (List.mem_append_right _ (List.mem_append_right _ (List.mem_of_getElem? (l := tables_1_3) (i := 99) rfl))))), List.forall_mem_cons.mpr ⟨(List.mem_append_right (k2_sels lw_privs) (show _ ∈ tables_1_1 ++ (tables_1_2 ++ tables_1_3) from (List.mem_append_right _ (List.mem_append_right _ (List.mem_of_getElem? (l := tables_1_3) (i := 100) rfl))))), List.forall_mem_cons.mpr ⟨(List.mem_append_right (k2_sels lw_privs) (show _ ∈ tables_1_1 ++ (tables_1_2 ++ tables_1_3) from (List.mem_append_right _ (List.mem_append_right _ (List.mem_of_getElem? (l := tables_1_3) (i := 101) rfl))))), List.forall_mem_cons.mpr ⟨(List.mem_append_right (k2_sels lw_privs) (show _ ∈ tables_1_1 ++ (tables_1_2 ++ tables_1_3) from (List.mem_append_right _ (List.mem_append_right _ (List.mem_of_getElem? (l := tables_1_3) (i := 102) rfl))))), List.forall_mem_cons.mpr ⟨(List.mem_append_right (k2_sels lw_privs) (show _ ∈ tables_1_1 ++ (tables_1_2 ++ tables_1_3) from (List.mem_append_right _ (List.mem_append_right _ (List.mem_of_getElem? (l := tables_1_3) (i := 103) rfl))))), List.forall_mem_cons.mpr ⟨(List.mem_append_right (k2_sels lw_privs) (show _ ∈ tables_1_1 ++ (tables_1_2 ++ tables_1_3) from (List.mem_append_right _ (List.mem_append_right _ (List.mem_of_getElem? (l := tables_1_3) (i := 104) rfl))))), List.forall_mem_cons.mpr ⟨(List.mem_append_right (k2_sels lw_privs) (show _ ∈ tables_1_1 ++ (tables_1_2 ++ tables_1_3) from (List.mem_append_right _ (List.mem_append_right _ (List.mem_of_getElem? (l := tables_1_3) (i := 105) rfl))))), List.forall_mem_cons.mpr ⟨(List.mem_append_right (k2_sels lw_privs) (show _ ∈ tables_1_1 ++ (tables_1_2 ++ tables_1_3) from (List.mem_append_right _ (List.mem_append_right _ (List.mem_of_getElem? (l := tables_1_3) (i := 106) rfl))))), List.forall_mem_cons.mpr ⟨(List.mem_append_right (k2_sels lw_privs) (show _ ∈ tables_1_1 ++ (tables_1_2 ++ tables_1_3) from (List.mem_append_right _ (List.mem_append_right _ (List.mem_of_getElem? (l := tables_1_3) (i := 107) rfl))))), List.forall_mem_cons.mpr ⟨(List.mem_append_right (k2_sels lw_privs) (show _ ∈ tables_1_1 ++ (tables_1_2 ++ tables_1_3) from (List.mem_append_right _ (List.mem_append_right _ (List.mem_of_getElem? (l := tables_1_3) (i := 108) rfl))))), fun _ h => absurd h List.not_mem_nil⟩⟩⟩⟩⟩⟩⟩⟩⟩⟩⟩⟩⟩⟩⟩⟩⟩⟩⟩⟩
theorem wA28_t : ∀ w ∈ wA28, w ∈ lw_tbl := List.forall_mem_cons.mpr ⟨(List.mem_append_right (k2_sels lw_privs) (show _ ∈ tables_1_1 ++ (tables_1_2 ++ tables_1_3) from (List.mem_append_right _ (List.mem_append_right _ (List.mem_of_getElem? (l := tables_1_3) (i := 109) rfl))))), List.forall_mem_cons.mpr ⟨(List.mem_append_right (k2_sels lw_privs) (show _ ∈ tables_1_1 ++ (tables_1_2 ++ tables_1_3) from (List.mem_append_right _ (List.mem_append_right _ (List.mem_of_getElem? (l := tables_1_3) (i := 110) rfl))))), List.forall_mem_cons.mpr ⟨(List.mem_append_right (k2_sels lw_privs) (show _ ∈ tables_1_1 ++ (tables_1_2 ++ tables_1_3) from (List.mem_append_right _ (List.mem_append_right _ (List.mem_of_getElem? (l := tables_1_3) (i := 111) rfl))))), List.forall_mem_cons.mpr ⟨(List.mem_append_right (k2_sels lw_privs) (show _ ∈ tables_1_1 ++ (tables_1_2 ++ tables_1_3) from (List.mem_append_right _ (List.mem_append_right _ (List.mem_of_getElem? (l := tables_1_3) (i := 112) rfl))))), List.forall_mem_cons.mpr ⟨(List.mem_append_right (k2_sels lw_privs) (show _ ∈ tables_1_1 ++ (tables_1_2 ++ tables_1_3) from (List.mem_append_right _ (List.mem_append_right _ (List.mem_of_getElem? (l := tables_1_3) (i := 113) rfl))))), List.forall_mem_cons.mpr ⟨(List.mem_append_right (k2_sels lw_privs) (show _ ∈ tables_1_1 ++ (tables_1_2 ++ tables_1_3) from (List.mem_append_right _ (List.mem_append_right _ (List.mem_of_getElem? (l := tables_1_3) (i := 114) rfl))))), List.forall_mem_cons.mpr ⟨(List.mem_append_right (k2_sels lw_privs) (show _ ∈ tables_1_1 ++ (tables_1_2 ++ tables_1_3) from (List.mem_append_right _ (List.mem_append_right _ (List.mem_of_getElem? (l := tables_1_3) (i := 115) rfl))))), List.forall_mem_cons.mpr ⟨(List.mem_append_right (k2_sels lw_privs) (show _ ∈ tables_1_1 ++ (tables_1_2 ++ tables_1_3) from (List.mem_append_right _ (List.mem_append_right _ (List.mem_of_getElem? (l := tables_1_3) (i := 116) rfl))))), List.forall_mem_cons.mpr ⟨(List.mem_append_right (k2_sels lw_privs) (show _ ∈ tables_1_1 ++ (tables_1_2 ++ tables_1_3) from (List.mem_append_right _ (List.mem_append_right _ (List.mem_of_getElem? (l := tables_1_3) (i := 117) rfl))))), List.forall_mem_cons.mpr ⟨(List.mem_append_right (k2_sels lw_privs) (show _ ∈ tables_1_1 ++ (tables_1_2 ++ tables_1_3) from (List.mem_append_right _ (List.mem_append_right _ (List.mem_of_getElem? (l := tables_1_3) (i := 118) rfl))))), List.forall_mem_cons.mpr ⟨(List.mem_append_right (k2_sels lw_privs) (show _ ∈ tables_1_1 ++ (tables_1_2 ++ tables_1_3) from (List.mem_append_right _ (List.mem_append_right _ (List.mem_of_getElem? (l := tables_1_3) (i := 119) rfl))))), List.forall_mem_cons.mpr ⟨(List.mem_append_left tables_1 (List.mem_of_getElem? (l := k2_sels lw_privs) (i := 0) rfl)), List.forall_mem_cons.mpr ⟨(List.mem_append_left tables_1 (List.mem_of_getElem? (l := k2_sels lw_privs) (i := 1) rfl)), List.forall_mem_cons.mpr ⟨(List.mem_append_left tables_1 (List.mem_of_getElem? (l := k2_sels lw_privs) (i := 3) rfl)), List.forall_mem_cons.mpr ⟨(List.mem_append_left tables_1 (List.mem_of_getElem? (l := k2_sels lw_privs) (i := 4) rfl)), List.forall_mem_cons.mpr ⟨(List.mem_append_left tables_1 (List.mem_of_getElem? (l := k2_sels lw_privs) (i := 5) rfl)), List.forall_mem_cons.mpr ⟨(List.mem_append_left tables_1 (List.mem_of_getElem? (l := k2_sels lw_privs) (i := 6) rfl)), List.forall_mem_cons.mpr ⟨(List.mem_append_left tables_1 (List.mem_of_getElem? (l := k2_sels lw_privs) (i := 7) rfl)), List.forall_mem_cons.mpr ⟨(List.mem_append_left tables_1 (List.mem_of_getElem? (l := k2_sels lw_privs) (i := 8) rfl)), List.forall_mem_cons.mpr ⟨(List.mem_append_left tables_1 (List.mem_of_getElem? (l := k2_sels lw_privs) (i := 9) rfl)), fun _ h => absurd h List.not_mem_nil⟩⟩⟩⟩⟩⟩⟩⟩⟩⟩⟩⟩⟩⟩⟩⟩⟩⟩⟩⟩
theorem wA29_t : ∀ w ∈ wA29, w ∈ lw_tbl := List.forall_mem_cons.mpr ⟨(List.mem_append_left tables_1 (List.mem_of_getElem? (l := k2_sels lw_privs) (i := 10) rfl)), List.forall_mem_cons.mpr ⟨(List.mem_append_left tables_1 (List.mem_of_getElem? (l := k2_sels lw_privs) (i := 11) rfl)), List.forall_mem_cons.mpr ⟨(List.mem_append_left tables_1 (List.mem_of_getElem? (l := k2_sels lw_privs) (i := 12) rfl)), List.forall_mem_cons.mpr ⟨(List.mem_append_left tables_1 (List.mem_of_getElem? (l := k2_sels lw_privs) (i := 13) rfl)), List.forall_mem_cons.mpr ⟨(List.mem_append_left tables_1 (List.mem_of_getElem? (l := k2_sels lw_privs) (i := 14) rfl)), List.forall_mem_cons.mpr ⟨(List.mem_append_left tables_1 (List.mem_of_getElem? (l := k2_sels lw_privs) (i := 15) rfl)), List.forall_mem_cons.mpr ⟨(List.mem_append_left tables_1 (List.mem_of_getElem? (l := k2_sels lw_privs) (i := 16) rfl)), List.forall_mem_cons.mpr ⟨(List.mem_append_left tables_1 (List.mem_of_getElem? (l := k2_sels lw_privs) (i := 17) rfl)), List.forall_mem_cons.mpr ⟨(List.mem_append_left tables_1 (List.mem_of_getElem? (l := k2_sels lw_privs) (i := 18) rfl)), List.forall_mem_cons.mpr ⟨(List.mem_append_left tables_1 (List.mem_of_getElem? (l := k2_sels lw_privs) (i := 19) rfl)), List.forall_mem_cons.mpr ⟨(List.mem_append_left tables_1 (List.mem_of_getElem? (l := k2_sels lw_privs) (i := 20) rfl)), fun _ h => absurd h List.not_mem_nil⟩⟩⟩⟩⟩⟩⟩⟩⟩⟩⟩
theorem wsAll_t : ∀ w ∈ wsAll, w ∈ lw_tbl := fun w h => (List.mem_append.mp h).elim ((fun w h => (List.mem_append.mp h).elim (wA0_t w) ((fun w h => (List.mem_append.mp h).elim (wA1_t w) ((fun w h => (List.mem_append.mp h).elim (wA2_t w) ((fun w h => (List.mem_append.mp h).elim (wA3_t w) ((fun w h => (List.mem_append.mp h).elim (wA4_t w) (wA5_t w)) w)) w)) w)) w)) w) ((fun w h => (List.mem_append.mp h).elim (wA6_t w) ((fun w h => (List.mem_append.mp h).elim (wA7_t w) ((fun w h => (List.mem_append.mp h).elim (wA8_t w) ((fun w h => (List.mem_append.mp h).elim (wA9_t w) ((fun w h => (List.mem_append.mp h).elim (wA10_t w) ((fun w h => (List.mem_append.mp h).elim (wA11_t w) ((fun w h => (List.mem_append.mp h).elim (wA12_t w) ((fun w h => (List.mem_append.mp h).elim (wA13_t w) ((fun w h => (List.mem_append.mp h).elim (wA14_t w) ((fun w h => (List.mem_append.mp h).elim (wA15_t w) ((fun w h => (List.mem_append.mp h).elim (wA16_t w) ((fun w h => (List.mem_append.mp h).elim (wA17_t w) ((fun w h => (List.mem_append.mp h).elim (wA18_t w) ((fun w h => (List.mem_append.mp h).elim (wA19_t w) ((fun w h => (List.mem_append.mp h).elim (wA20_t w) ((fun w h => (List.mem_append.mp h).elim (wA21_t w) ((fun w h => (List.mem_append.mp h).elim (wA22_t w) ((fun w h => (List.mem_append.mp h).elim (wA23_t w) ((fun w h => (List.mem_append.mp h).elim (wA24_t w) ((fun w h => (List.mem_append.mp h).elim (wA25_t w) ((fun w h => (List.mem_append.mp h).elim (wA26_t w) ((fun w h => (List.mem_append.mp h).elim (wA27_t w) ((fun w h => (List.mem_append.mp h).elim (wA28_t w) (wA29_t w)) w)) w)) w)) w)) w)) w)) w)) w)) w)) w)) w)) w)) w)) w)) w)) w)) w)) w)) w)) w)) w)) w)) w)
theorem inX0 : ∀ w ∈ u_ws RX0 TX0 3, w ∈ wsAll := by decide +kernel
theorem inX1 : ∀ w ∈ u_ws RX1 TX1 6, w ∈ wsAll := by decide +kernel
theorem inX2 : ∀ w ∈ u_ws RX2 TX2 10, w ∈ wsAll := by decide +kernel
theorem inX3 : ∀ w ∈ u_ws RX3 TX3 18, w ∈ wsAll := by decide +kernel
def wsX2_init : List Cond := .code yX2_init cX2_init 5 none :: wsAll
def wsX2_nearest : List Cond := .code yX2_nearest cX2_nearest 3 (some .int) :: wsAll
def wsX0_init : List Cond := .code yX0_init cX0_init 1 none :: wsAll
def wsX1_init : List Cond := .code yX1_init cX1_init 1 none :: wsAll
def wsJ7_fill : List Cond := .code yJ7_fill cJ7_fill 4 none :: wsAll
def wsX2_below : List Cond := .code yX2_below cX2_below 2 (some .boolean) :: wsAll
def wsX2_leftAt : List Cond := .code yX2_leftAt cX2_leftAt 2 (some .int) :: wsAll
def wsX2_sum : List Cond := .code yX2_sum cX2_sum 4 (some .long) :: wsAll
def wsX2_moves : List Cond := .code yX2_moves cX2_moves 1 (some .int) :: wsAll
def wsX2_way : List Cond := .code yX2_way cX2_way 1 (some .long) :: wsAll
def wsL_cell : List Cond := .code yL_cell cL_cell 2 (some .int) :: wsAll
def wsL_put : List Cond := .codeWith yL_put cL_put 6 (some .int) [(0, 19, 22, 13), (0, 19, 26, 15)] :: wsAll
def wsX2_put : List Cond := .code yX2_put cX2_put 4 (some .boolean) :: wsAll
def wsX2_needPlace : List Cond := .code yX2_needPlace cX2_needPlace 3 none :: wsAll
def wsX2_isWithin : List Cond := .code yX2_isWithin cX2_isWithin 3 (some .boolean) :: wsAll
def wsX2_needWithin : List Cond := .code yX2_needWithin cX2_needWithin 3 none :: wsAll
def wsX2_placeAt : List Cond := .code yX2_placeAt cX2_placeAt 3 (some .int) :: wsAll
def wsX2_setWanted : List Cond := .code yX2_setWanted cX2_setWanted 4 (some .boolean) :: wsAll
def wsL_tool : List Cond := .codeWith yL_tool cL_tool 6 (some .int) [(0, 19, 22, 13), (0, 19, 26, 15)] :: wsAll
def wsX2_tool : List Cond := .code yX2_tool cX2_tool 4 (some .boolean) :: wsAll
def wsX2_needTool : List Cond := .code yX2_needTool cX2_needTool 1 none :: wsAll
def wsX0_become : List Cond := .code yX0_become cX0_become 6 (some .boolean) :: wsAll
def wsX0_cellOf : List Cond := .code yX0_cellOf cX0_cellOf 2 (some .int) :: wsAll
def wsX0_depthAtSquare : List Cond := .code yX0_depthAtSquare cX0_depthAtSquare 3 (some .int) :: wsAll
def wsX0_floorRoot : List Cond := .code yX0_floorRoot cX0_floorRoot 2 (some .int) :: wsAll
def wsX0_ceilRoot : List Cond := .code yX0_ceilRoot cX0_ceilRoot 2 (some .int) :: wsAll
def wsL_stock : List Cond := .codeWith yL_stock cL_stock 4 (some .int) [(0, 9, 12, 15), (0, 9, 15, 24)] :: wsAll
def wsX2_stock : List Cond := .code yX2_stock cX2_stock 3 (some .int) :: wsAll
def wsX2_greatestWanted : List Cond := .code yX2_greatestWanted cX2_greatestWanted 6 (some .int) :: wsAll
def wsL_lift : List Cond := .codeWith yL_lift cL_lift 6 (some .int) [(0, 12, 15, 13)] :: wsAll
def wsX2_lift : List Cond := .code yX2_lift cX2_lift 4 (some .int) :: wsAll
def wsX2_liftOver : List Cond := .code yX2_liftOver cX2_liftOver 10 (some .int) :: wsAll
def wsX0_depthOver : List Cond := .code yX0_depthOver cX0_depthOver 3 (some .int) :: wsAll
def wsL_profile : List Cond := .codeWith yL_profile cL_profile 6 (some .int) [(0, 12, 15, 13)] :: wsAll
def wsX2_profile : List Cond := .code yX2_profile cX2_profile 4 (some .int) :: wsAll
def wsL_rough : List Cond := .codeWith yL_rough cL_rough 6 (some .int) [(0, 12, 15, 13), (0, 12, 19, 15)] :: wsAll
def wsX2_rough : List Cond := .code yX2_rough cX2_rough 6 (some .int) :: wsAll
def wsX1_clear : List Cond := .code yX1_clear cX1_clear 1 none :: wsAll
def wsX2_findLifts : List Cond := .code yX2_findLifts cX2_findLifts 4 none :: wsAll
def wsX2_goAlongLevel : List Cond := .code yX2_goAlongLevel cX2_goAlongLevel 10 (some .boolean) :: wsAll
def wsX1_add : List Cond := .code yX1_add cX1_add 4 none :: wsAll
def wsX2_carve : List Cond := .code yX2_carve cX2_carve 11 none :: wsAll
def wsL_fine : List Cond := .codeWith yL_fine cL_fine 5 (some .int) [(0, 10, 13, 13), (0, 10, 17, 15)] :: wsAll
def wsX2_fine : List Cond := .code yX2_fine cX2_fine 5 (some .int) :: wsAll
def wsX2_goAlongRow : List Cond := .code yX2_goAlongRow cX2_goAlongRow 7 none :: wsAll
def wsL_made : List Cond := .codeWith yL_made cL_made 5 (some .int) [(0, 10, 13, 13)] :: wsAll
def wsX2_made : List Cond := .code yX2_made cX2_made 3 (some .int) :: wsAll
def wsL_rest : List Cond := .codeWith yL_rest cL_rest 5 (some .int) [(0, 10, 13, 15)] :: wsAll
def wsX2_rest : List Cond := .code yX2_rest cX2_rest 6 (some .int) :: wsAll
def wsL_move : List Cond := .codeWith yL_move cL_move 5 (some .int) [(0, 10, 13, 13), (0, 10, 17, 15)] :: wsAll
def wsX2_move : List Cond := .code yX2_move cX2_move 3 (some .int) :: wsAll
def wsX1_holds : List Cond := .code yX1_holds cX1_holds 2 (some .boolean) :: wsAll
def wsX1_xOf : List Cond := .code yX1_xOf cX1_xOf 2 (some .int) :: wsAll
def wsX1_yOf : List Cond := .code yX1_yOf cX1_yOf 2 (some .int) :: wsAll
def wsX1_zOf : List Cond := .code yX1_zOf cX1_zOf 2 (some .int) :: wsAll
def wsL_repeat : List Cond := .codeWith yL_repeat cL_repeat 5 (some .int) [(0, 10, 13, 15)] :: wsAll
def wsX2_repeat : List Cond := .code yX2_repeat cX2_repeat 6 (some .int) :: wsAll
def wsL_merge : List Cond := .codeWith yL_merge cL_merge 5 (some .int) [(0, 10, 13, 15), (0, 10, 17, 24)] :: wsAll
def wsX2_merge : List Cond := .code yX2_merge cX2_merge 5 (some .int) :: wsAll
def wsX2_merged : List Cond := .code yX2_merged cX2_merged 4 (some .int) :: wsAll
def wsX3_init : List Cond := .code yX3_init cX3_init 4 none :: wsAll
def wsX3_nearest : List Cond := .code yX3_nearest cX3_nearest 1 (some .int) :: wsAll
def wsX3_thrown : List Cond := .code yX3_thrown cX3_thrown 1 (some .int) :: wsAll
def wsX3_put : List Cond := .code yX3_put cX3_put 4 (some .boolean) :: wsAll
def wsX3_isPlace : List Cond := .code yX3_isPlace cX3_isPlace 3 (some .boolean) :: wsAll
def wsX3_isIn : List Cond := .code yX3_isIn cX3_isIn 3 (some .boolean) :: wsAll
def wsX3_tool : List Cond := .code yX3_tool cX3_tool 4 (some .boolean) :: wsAll
def wsX3_stock : List Cond := .code yX3_stock cX3_stock 3 (some .int) :: wsAll
def wsX3_greatest : List Cond := .code yX3_greatest cX3_greatest 4 (some .int) :: wsAll
def wsX3_profile : List Cond := .code yX3_profile cX3_profile 4 (some .int) :: wsAll
def wsX3_profileOf : List Cond := .code yX3_profileOf cX3_profileOf 7 (some .int) :: wsAll
def wsX3_lift : List Cond := .code yX3_lift cX3_lift 4 (some .int) :: wsAll
def wsX3_liftOf : List Cond := .code yX3_liftOf cX3_liftOf 9 (some .int) :: wsAll
def wsX3_rough : List Cond := .code yX3_rough cX3_rough 9 (some .int) :: wsAll
def wsX3_begin : List Cond := .code yX3_begin cX3_begin 1 none :: wsAll
def wsX3_noTips : List Cond := .code yX3_noTips cX3_noTips 2 none :: wsAll
def wsX3_move3 : List Cond := .code yX3_move3 cX3_move3 4 none :: wsAll
def wsX3_size : List Cond := .code yX3_size cX3_size 1 (some .int) :: wsAll
def wsX3_carve : List Cond := .code yX3_carve cX3_carve 9 none :: wsAll
def wsX3_fine : List Cond := .code yX3_fine cX3_fine 7 (some .int) :: wsAll
def wsX3_made : List Cond := .code yX3_made cX3_made 3 (some .int) :: wsAll
def wsX3_below : List Cond := .code yX3_below cX3_below 4 (some .boolean) :: wsAll
def wsX3_leftAt : List Cond := .code yX3_leftAt cX3_leftAt 2 (some .int) :: wsAll
def wsX3_rest : List Cond := .code yX3_rest cX3_rest 6 (some .int) :: wsAll
def wsX3_sum : List Cond := .code yX3_sum cX3_sum 6 (some .long) :: wsAll
def wsX3_moves : List Cond := .code yX3_moves cX3_moves 1 (some .int) :: wsAll
def wsX3_move : List Cond := .code yX3_move cX3_move 3 (some .int) :: wsAll
def wsX3_way : List Cond := .code yX3_way cX3_way 1 (some .long) :: wsAll
def wsX3_repeat : List Cond := .code yX3_repeat cX3_repeat 7 (some .int) :: wsAll
def wsX3_merge : List Cond := .code yX3_merge cX3_merge 8 (some .int) :: wsAll
def zNest : List Cond := [Cond.fieldLinkNest RX2 181 RX0 "radius" "I" RX2, Cond.fieldLinkNest RX2 128 RX1 "count" "I" RX2, Cond.fieldLinkNest RX2 149 RX1 "length" "J" RX2, Cond.castable "java/lang/IndexOutOfBoundsException" "java/lang/IndexOutOfBoundsException", Cond.declares ⟨"java/lang/RuntimeException", "<init>", "()V"⟩, Cond.declares ⟨"java/lang/RuntimeException", "<init>", "(Ljava/lang/String;)V"⟩, Cond.declares ⟨"java/lang/Exception", "<init>", "()V"⟩, Cond.declares ⟨"java/lang/Exception", "<init>", "(Ljava/lang/String;)V"⟩, Cond.declares ⟨"java/lang/Throwable", "<init>", "()V"⟩, Cond.declares ⟨"java/lang/Throwable", "<init>", "(Ljava/lang/String;)V"⟩, Cond.castable "java/lang/IllegalArgumentException" "java/lang/IllegalArgumentException", Cond.castable "java/lang/IllegalStateException" "java/lang/IllegalStateException", Cond.methodLinkNest RX0 30 yX2_isWithin RX2]
def zTxt : List (String × Nat × String) := [(RX2, 169, "no such place"), (RX2, 175, "a number is not as said"), (RX2, 171, "no such tool"), (RX2, 89, "a wanted height is above the stock"), (RX2, 137, "no such move, or it was not kept"), (RX2, 159, "no heights were kept")]
def zNcs : List (String × String) := [("ReliefPasses", "java/lang/IllegalArgumentException"), ("ReliefPasses", "java/lang/IllegalStateException"), ("ReliefPasses", "java/lang/IndexOutOfBoundsException"), ("ReliefPasses$Tool", "java/lang/IllegalArgumentException"), ("ReliefPasses$Tool", "java/lang/IllegalStateException"), ("ReliefPasses$Tool", "java/lang/IndexOutOfBoundsException"), ("ReliefPasses$Track", "java/lang/IllegalArgumentException"), ("ReliefPasses$Track", "java/lang/IllegalStateException"), ("ReliefPasses$Track", "java/lang/IndexOutOfBoundsException"), ("ReliefPassesModel", "java/lang/IllegalArgumentException"), ("ReliefPassesModel", "java/lang/IllegalStateException"), ("ReliefPassesModel", "java/lang/IndexOutOfBoundsException"), ("java/lang/IllegalArgumentException", "java/lang/IllegalStateException"), ("java/lang/IllegalArgumentException", "java/lang/IndexOutOfBoundsException"), ("java/lang/IllegalStateException", "java/lang/IllegalArgumentException"), ("java/lang/IllegalStateException", "java/lang/IndexOutOfBoundsException"), ("java/lang/IndexOutOfBoundsException", "java/lang/IllegalArgumentException"), ("java/lang/IndexOutOfBoundsException", "java/lang/IllegalStateException")]
end
section
theorem dX0_init_0 : decode cX0_init 0 = .ok (.aload_n 0, 1) := by decide +kernel
theorem dX0_init_1 : decode cX0_init 1 = .ok (.invokespecial 3, 3) := by decide +kernel
theorem dX0_init_4 : decode cX0_init 4 = .ok (.aload_n 0, 1) := by decide +kernel
theorem dX0_init_5 : decode cX0_init 5 = .ok (.iconst 0, 1) := by decide +kernel
theorem dX0_init_6 : decode cX0_init 6 = .ok (.putfield 9, 3) := by decide +kernel
theorem dX0_init_9 : decode cX0_init 9 = .ok (.aload_n 0, 1) := by decide +kernel
theorem dX0_init_10 : decode cX0_init 10 = .ok (.iconst 0, 1) := by decide +kernel
theorem dX0_init_11 : decode cX0_init 11 = .ok (.putfield 15, 3) := by decide +kernel
theorem dX0_init_14 : decode cX0_init 14 = .ok (.aload_n 0, 1) := by decide +kernel
theorem dX0_init_15 : decode cX0_init 15 = .ok (.bipush 121, 2) := by decide +kernel
theorem dX0_init_17 : decode cX0_init 17 = .ok (.newarray .int, 2) := by decide +kernel
theorem dX0_init_19 : decode cX0_init 19 = .ok (.putfield 18, 3) := by decide +kernel
theorem dX0_init_22 : decode cX0_init 22 = .ok (.return_, 1) := by decide +kernel
theorem dX0_become_0 : decode cX0_become 0 = .ok (.aload_n 0, 1) := by decide +kernel
theorem dX0_become_1 : decode cX0_become 1 = .ok (.getfield 9, 3) := by decide +kernel
theorem dX0_become_4 : decode cX0_become 4 = .ok (.iload_n 1, 1) := by decide +kernel
theorem dX0_become_5 : decode cX0_become 5 = .ok (.if_icmp .ne 11, 3) := by decide +kernel
theorem dX0_become_8 : decode cX0_become 8 = .ok (.aload_n 0, 1) := by decide +kernel
theorem dX0_become_9 : decode cX0_become 9 = .ok (.getfield 15, 3) := by decide +kernel
theorem dX0_become_12 : decode cX0_become 12 = .ok (.iload_n 2, 1) := by decide +kernel
theorem dX0_become_13 : decode cX0_become 13 = .ok (.if_icmp .eq 7, 3) := by decide +kernel
theorem dX0_become_16 : decode cX0_become 16 = .ok (.iconst 1, 1) := by decide +kernel
theorem dX0_become_17 : decode cX0_become 17 = .ok (.goto 4, 3) := by decide +kernel
theorem dX0_become_20 : decode cX0_become 20 = .ok (.iconst 0, 1) := by decide +kernel
theorem dX0_become_21 : decode cX0_become 21 = .ok (.istore_n 3, 1) := by decide +kernel
theorem dX0_become_22 : decode cX0_become 22 = .ok (.aload_n 0, 1) := by decide +kernel
theorem dX0_become_23 : decode cX0_become 23 = .ok (.iload_n 1, 1) := by decide +kernel
theorem dX0_become_24 : decode cX0_become 24 = .ok (.putfield 9, 3) := by decide +kernel
theorem dX0_become_27 : decode cX0_become 27 = .ok (.aload_n 0, 1) := by decide +kernel
theorem dX0_become_28 : decode cX0_become 28 = .ok (.iload_n 2, 1) := by decide +kernel
theorem dX0_become_29 : decode cX0_become 29 = .ok (.putfield 15, 3) := by decide +kernel
theorem dX0_become_32 : decode cX0_become 32 = .ok (.iload_n 2, 1) := by decide +kernel
theorem dX0_become_33 : decode cX0_become 33 = .ok (.ineg, 1) := by decide +kernel
theorem dX0_become_34 : decode cX0_become 34 = .ok (.istore 4, 2) := by decide +kernel
theorem dX0_become_36 : decode cX0_become 36 = .ok (.iload 4, 2) := by decide +kernel
theorem dX0_become_38 : decode cX0_become 38 = .ok (.iload_n 2, 1) := by decide +kernel
theorem dX0_become_39 : decode cX0_become 39 = .ok (.if_icmp .gt 52, 3) := by decide +kernel
theorem dX0_become_42 : decode cX0_become 42 = .ok (.iload_n 2, 1) := by decide +kernel
theorem dX0_become_43 : decode cX0_become 43 = .ok (.ineg, 1) := by decide +kernel
theorem dX0_become_44 : decode cX0_become 44 = .ok (.istore 5, 2) := by decide +kernel
theorem dX0_become_46 : decode cX0_become 46 = .ok (.iload 5, 2) := by decide +kernel
theorem dX0_become_48 : decode cX0_become 48 = .ok (.iload_n 2, 1) := by decide +kernel
theorem dX0_become_49 : decode cX0_become 49 = .ok (.if_icmp .gt 36, 3) := by decide +kernel
theorem dX0_become_52 : decode cX0_become 52 = .ok (.aload_n 0, 1) := by decide +kernel
theorem dX0_become_53 : decode cX0_become 53 = .ok (.getfield 18, 3) := by decide +kernel
theorem dX0_become_56 : decode cX0_become 56 = .ok (.iload 5, 2) := by decide +kernel
theorem dX0_become_58 : decode cX0_become 58 = .ok (.iload 4, 2) := by decide +kernel
theorem dX0_become_60 : decode cX0_become 60 = .ok (.invokestatic 22, 3) := by decide +kernel
theorem dX0_become_63 : decode cX0_become 63 = .ok (.aload_n 0, 1) := by decide +kernel
theorem dX0_become_64 : decode cX0_become 64 = .ok (.iload 5, 2) := by decide +kernel
theorem dX0_become_66 : decode cX0_become 66 = .ok (.iload 5, 2) := by decide +kernel
theorem dX0_become_68 : decode cX0_become 68 = .ok (.imul, 1) := by decide +kernel
theorem dX0_become_69 : decode cX0_become 69 = .ok (.iload 4, 2) := by decide +kernel
theorem dX0_become_71 : decode cX0_become 71 = .ok (.iload 4, 2) := by decide +kernel
theorem dX0_become_73 : decode cX0_become 73 = .ok (.imul, 1) := by decide +kernel
theorem dX0_become_74 : decode cX0_become 74 = .ok (.iadd, 1) := by decide +kernel
theorem dX0_become_75 : decode cX0_become 75 = .ok (.invokevirtual 26, 3) := by decide +kernel
theorem dX0_become_78 : decode cX0_become 78 = .ok (.iastore, 1) := by decide +kernel
theorem dX0_become_79 : decode cX0_become 79 = .ok (.iinc 5 1, 3) := by decide +kernel
theorem dX0_become_82 : decode cX0_become 82 = .ok (.goto (-36), 3) := by decide +kernel
theorem dX0_become_85 : decode cX0_become 85 = .ok (.iinc 4 1, 3) := by decide +kernel
theorem dX0_become_88 : decode cX0_become 88 = .ok (.goto (-52), 3) := by decide +kernel
theorem dX0_become_91 : decode cX0_become 91 = .ok (.iload_n 3, 1) := by decide +kernel
theorem dX0_become_92 : decode cX0_become 92 = .ok (.ireturn, 1) := by decide +kernel
theorem dX0_depthOver_0 : decode cX0_depthOver 0 = .ok (.iload_n 1, 1) := by decide +kernel
theorem dX0_depthOver_1 : decode cX0_depthOver 1 = .ok (.aload_n 0, 1) := by decide +kernel
theorem dX0_depthOver_2 : decode cX0_depthOver 2 = .ok (.getfield 15, 3) := by decide +kernel
theorem dX0_depthOver_5 : decode cX0_depthOver 5 = .ok (.ineg, 1) := by decide +kernel
theorem dX0_depthOver_6 : decode cX0_depthOver 6 = .ok (.aload_n 0, 1) := by decide +kernel
theorem dX0_depthOver_7 : decode cX0_depthOver 7 = .ok (.getfield 15, 3) := by decide +kernel
theorem dX0_depthOver_10 : decode cX0_depthOver 10 = .ok (.invokestatic 30, 3) := by decide +kernel
theorem dX0_depthOver_13 : decode cX0_depthOver 13 = .ok (.ifCond .eq 19, 3) := by decide +kernel
theorem dX0_depthOver_16 : decode cX0_depthOver 16 = .ok (.iload_n 2, 1) := by decide +kernel
theorem dX0_depthOver_17 : decode cX0_depthOver 17 = .ok (.aload_n 0, 1) := by decide +kernel
theorem dX0_depthOver_18 : decode cX0_depthOver 18 = .ok (.getfield 15, 3) := by decide +kernel
theorem dX0_depthOver_21 : decode cX0_depthOver 21 = .ok (.ineg, 1) := by decide +kernel
theorem dX0_depthOver_22 : decode cX0_depthOver 22 = .ok (.aload_n 0, 1) := by decide +kernel
theorem dX0_depthOver_23 : decode cX0_depthOver 23 = .ok (.getfield 15, 3) := by decide +kernel
theorem dX0_depthOver_26 : decode cX0_depthOver 26 = .ok (.invokestatic 30, 3) := by decide +kernel
theorem dX0_depthOver_29 : decode cX0_depthOver 29 = .ok (.ifCond .ne 5, 3) := by decide +kernel
theorem dX0_depthOver_32 : decode cX0_depthOver 32 = .ok (.iconst (-1), 1) := by decide +kernel
theorem dX0_depthOver_33 : decode cX0_depthOver 33 = .ok (.ireturn, 1) := by decide +kernel
theorem dX0_depthOver_34 : decode cX0_depthOver 34 = .ok (.aload_n 0, 1) := by decide +kernel
theorem dX0_depthOver_35 : decode cX0_depthOver 35 = .ok (.getfield 18, 3) := by decide +kernel
theorem dX0_depthOver_38 : decode cX0_depthOver 38 = .ok (.iload_n 1, 1) := by decide +kernel
theorem dX0_depthOver_39 : decode cX0_depthOver 39 = .ok (.iload_n 2, 1) := by decide +kernel
theorem dX0_depthOver_40 : decode cX0_depthOver 40 = .ok (.invokestatic 22, 3) := by decide +kernel
theorem dX0_depthOver_43 : decode cX0_depthOver 43 = .ok (.iaload, 1) := by decide +kernel
theorem dX0_depthOver_44 : decode cX0_depthOver 44 = .ok (.ireturn, 1) := by decide +kernel
theorem dX0_cellOf_0 : decode cX0_cellOf 0 = .ok (.iload_n 1, 1) := by decide +kernel
theorem dX0_cellOf_1 : decode cX0_cellOf 1 = .ok (.iconst 5, 1) := by decide +kernel
theorem dX0_cellOf_2 : decode cX0_cellOf 2 = .ok (.iadd, 1) := by decide +kernel
theorem dX0_cellOf_3 : decode cX0_cellOf 3 = .ok (.bipush 11, 2) := by decide +kernel
theorem dX0_cellOf_5 : decode cX0_cellOf 5 = .ok (.imul, 1) := by decide +kernel
theorem dX0_cellOf_6 : decode cX0_cellOf 6 = .ok (.iload_n 0, 1) := by decide +kernel
theorem dX0_cellOf_7 : decode cX0_cellOf 7 = .ok (.iadd, 1) := by decide +kernel
theorem dX0_cellOf_8 : decode cX0_cellOf 8 = .ok (.iconst 5, 1) := by decide +kernel
theorem dX0_cellOf_9 : decode cX0_cellOf 9 = .ok (.iadd, 1) := by decide +kernel
theorem dX0_cellOf_10 : decode cX0_cellOf 10 = .ok (.ireturn, 1) := by decide +kernel
theorem dX0_depthAtSquare_0 : decode cX0_depthAtSquare 0 = .ok (.aload_n 0, 1) := by decide +kernel
theorem dX0_depthAtSquare_1 : decode cX0_depthAtSquare 1 = .ok (.getfield 15, 3) := by decide +kernel
theorem dX0_depthAtSquare_4 : decode cX0_depthAtSquare 4 = .ok (.aload_n 0, 1) := by decide +kernel
theorem dX0_depthAtSquare_5 : decode cX0_depthAtSquare 5 = .ok (.getfield 15, 3) := by decide +kernel
theorem dX0_depthAtSquare_8 : decode cX0_depthAtSquare 8 = .ok (.imul, 1) := by decide +kernel
theorem dX0_depthAtSquare_9 : decode cX0_depthAtSquare 9 = .ok (.iload_n 1, 1) := by decide +kernel
theorem dX0_depthAtSquare_10 : decode cX0_depthAtSquare 10 = .ok (.isub, 1) := by decide +kernel
theorem dX0_depthAtSquare_11 : decode cX0_depthAtSquare 11 = .ok (.istore_n 2, 1) := by decide +kernel
theorem dX0_depthAtSquare_12 : decode cX0_depthAtSquare 12 = .ok (.iload_n 2, 1) := by decide +kernel
theorem dX0_depthAtSquare_13 : decode cX0_depthAtSquare 13 = .ok (.ifCond .ge 5, 3) := by decide +kernel
theorem dX0_depthAtSquare_16 : decode cX0_depthAtSquare 16 = .ok (.iconst (-1), 1) := by decide +kernel
theorem dX0_depthAtSquare_17 : decode cX0_depthAtSquare 17 = .ok (.ireturn, 1) := by decide +kernel
theorem dX0_depthAtSquare_18 : decode cX0_depthAtSquare 18 = .ok (.aload_n 0, 1) := by decide +kernel
theorem dX0_depthAtSquare_19 : decode cX0_depthAtSquare 19 = .ok (.getfield 9, 3) := by decide +kernel
theorem dX0_depthAtSquare_22 : decode cX0_depthAtSquare 22 = .ok (.lookupswitch 41 #[(1, 26), (2, 36)], 26) := by decide +kernel
theorem dX0_depthAtSquare_48 : decode cX0_depthAtSquare 48 = .ok (.aload_n 0, 1) := by decide +kernel
theorem dX0_depthAtSquare_49 : decode cX0_depthAtSquare 49 = .ok (.getfield 15, 3) := by decide +kernel
theorem dX0_depthAtSquare_52 : decode cX0_depthAtSquare 52 = .ok (.iload_n 2, 1) := by decide +kernel
theorem dX0_depthAtSquare_53 : decode cX0_depthAtSquare 53 = .ok (.invokestatic 34, 3) := by decide +kernel
theorem dX0_depthAtSquare_56 : decode cX0_depthAtSquare 56 = .ok (.isub, 1) := by decide +kernel
theorem dX0_depthAtSquare_57 : decode cX0_depthAtSquare 57 = .ok (.ireturn, 1) := by decide +kernel
theorem dX0_depthAtSquare_58 : decode cX0_depthAtSquare 58 = .ok (.iload_n 1, 1) := by decide +kernel
theorem dX0_depthAtSquare_59 : decode cX0_depthAtSquare 59 = .ok (.invokestatic 37, 3) := by decide +kernel
theorem dX0_depthAtSquare_62 : decode cX0_depthAtSquare 62 = .ok (.ireturn, 1) := by decide +kernel
theorem dX0_depthAtSquare_63 : decode cX0_depthAtSquare 63 = .ok (.iconst 0, 1) := by decide +kernel
theorem dX0_depthAtSquare_64 : decode cX0_depthAtSquare 64 = .ok (.ireturn, 1) := by decide +kernel
theorem dX0_floorRoot_0 : decode cX0_floorRoot 0 = .ok (.iconst 0, 1) := by decide +kernel
theorem dX0_floorRoot_1 : decode cX0_floorRoot 1 = .ok (.istore_n 1, 1) := by decide +kernel
theorem dX0_floorRoot_2 : decode cX0_floorRoot 2 = .ok (.iload_n 1, 1) := by decide +kernel
theorem dX0_floorRoot_3 : decode cX0_floorRoot 3 = .ok (.iconst 5, 1) := by decide +kernel
theorem dX0_floorRoot_4 : decode cX0_floorRoot 4 = .ok (.if_icmp .ge 20, 3) := by decide +kernel
theorem dX0_floorRoot_7 : decode cX0_floorRoot 7 = .ok (.iload_n 1, 1) := by decide +kernel
theorem dX0_floorRoot_8 : decode cX0_floorRoot 8 = .ok (.iconst 1, 1) := by decide +kernel
theorem dX0_floorRoot_9 : decode cX0_floorRoot 9 = .ok (.iadd, 1) := by decide +kernel
theorem dX0_floorRoot_10 : decode cX0_floorRoot 10 = .ok (.iload_n 1, 1) := by decide +kernel
theorem dX0_floorRoot_11 : decode cX0_floorRoot 11 = .ok (.iconst 1, 1) := by decide +kernel
theorem dX0_floorRoot_12 : decode cX0_floorRoot 12 = .ok (.iadd, 1) := by decide +kernel
theorem dX0_floorRoot_13 : decode cX0_floorRoot 13 = .ok (.imul, 1) := by decide +kernel
theorem dX0_floorRoot_14 : decode cX0_floorRoot 14 = .ok (.iload_n 0, 1) := by decide +kernel
theorem dX0_floorRoot_15 : decode cX0_floorRoot 15 = .ok (.if_icmp .gt 9, 3) := by decide +kernel
theorem dX0_floorRoot_18 : decode cX0_floorRoot 18 = .ok (.iinc 1 1, 3) := by decide +kernel
theorem dX0_floorRoot_21 : decode cX0_floorRoot 21 = .ok (.goto (-19), 3) := by decide +kernel
theorem dX0_floorRoot_24 : decode cX0_floorRoot 24 = .ok (.iload_n 1, 1) := by decide +kernel
theorem dX0_floorRoot_25 : decode cX0_floorRoot 25 = .ok (.ireturn, 1) := by decide +kernel
theorem dX0_ceilRoot_0 : decode cX0_ceilRoot 0 = .ok (.iconst 0, 1) := by decide +kernel
theorem dX0_ceilRoot_1 : decode cX0_ceilRoot 1 = .ok (.istore_n 1, 1) := by decide +kernel
theorem dX0_ceilRoot_2 : decode cX0_ceilRoot 2 = .ok (.iload_n 1, 1) := by decide +kernel
theorem dX0_ceilRoot_3 : decode cX0_ceilRoot 3 = .ok (.iconst 5, 1) := by decide +kernel
theorem dX0_ceilRoot_4 : decode cX0_ceilRoot 4 = .ok (.if_icmp .ge 16, 3) := by decide +kernel
theorem dX0_ceilRoot_7 : decode cX0_ceilRoot 7 = .ok (.iload_n 1, 1) := by decide +kernel
theorem dX0_ceilRoot_8 : decode cX0_ceilRoot 8 = .ok (.iload_n 1, 1) := by decide +kernel
theorem dX0_ceilRoot_9 : decode cX0_ceilRoot 9 = .ok (.imul, 1) := by decide +kernel
theorem dX0_ceilRoot_10 : decode cX0_ceilRoot 10 = .ok (.iload_n 0, 1) := by decide +kernel
theorem dX0_ceilRoot_11 : decode cX0_ceilRoot 11 = .ok (.if_icmp .ge 9, 3) := by decide +kernel
theorem dX0_ceilRoot_14 : decode cX0_ceilRoot 14 = .ok (.iinc 1 1, 3) := by decide +kernel
theorem dX0_ceilRoot_17 : decode cX0_ceilRoot 17 = .ok (.goto (-15), 3) := by decide +kernel
theorem dX0_ceilRoot_20 : decode cX0_ceilRoot 20 = .ok (.iload_n 1, 1) := by decide +kernel
theorem dX0_ceilRoot_21 : decode cX0_ceilRoot 21 = .ok (.ireturn, 1) := by decide +kernel
theorem dX1_init_0 : decode cX1_init 0 = .ok (.aload_n 0, 1) := by decide +kernel
theorem dX1_init_1 : decode cX1_init 1 = .ok (.invokespecial 3, 3) := by decide +kernel
theorem dX1_init_4 : decode cX1_init 4 = .ok (.aload_n 0, 1) := by decide +kernel
theorem dX1_init_5 : decode cX1_init 5 = .ok (.sipush 2000, 3) := by decide +kernel
theorem dX1_init_8 : decode cX1_init 8 = .ok (.newarray .int, 2) := by decide +kernel
theorem dX1_init_10 : decode cX1_init 10 = .ok (.putfield 11, 3) := by decide +kernel
theorem dX1_init_13 : decode cX1_init 13 = .ok (.aload_n 0, 1) := by decide +kernel
theorem dX1_init_14 : decode cX1_init 14 = .ok (.iconst 0, 1) := by decide +kernel
theorem dX1_init_15 : decode cX1_init 15 = .ok (.putfield 15, 3) := by decide +kernel
theorem dX1_init_18 : decode cX1_init 18 = .ok (.aload_n 0, 1) := by decide +kernel
theorem dX1_init_19 : decode cX1_init 19 = .ok (.lconst 0, 1) := by decide +kernel
theorem dX1_init_20 : decode cX1_init 20 = .ok (.putfield 19, 3) := by decide +kernel
theorem dX1_init_23 : decode cX1_init 23 = .ok (.aload_n 0, 1) := by decide +kernel
theorem dX1_init_24 : decode cX1_init 24 = .ok (.iconst 0, 1) := by decide +kernel
theorem dX1_init_25 : decode cX1_init 25 = .ok (.putfield 23, 3) := by decide +kernel
theorem dX1_init_28 : decode cX1_init 28 = .ok (.aload_n 0, 1) := by decide +kernel
theorem dX1_init_29 : decode cX1_init 29 = .ok (.iconst 0, 1) := by decide +kernel
theorem dX1_init_30 : decode cX1_init 30 = .ok (.putfield 26, 3) := by decide +kernel
theorem dX1_init_33 : decode cX1_init 33 = .ok (.aload_n 0, 1) := by decide +kernel
theorem dX1_init_34 : decode cX1_init 34 = .ok (.iconst 0, 1) := by decide +kernel
theorem dX1_init_35 : decode cX1_init 35 = .ok (.putfield 29, 3) := by decide +kernel
theorem dX1_init_38 : decode cX1_init 38 = .ok (.return_, 1) := by decide +kernel
theorem dX1_clear_0 : decode cX1_clear 0 = .ok (.aload_n 0, 1) := by decide +kernel
theorem dX1_clear_1 : decode cX1_clear 1 = .ok (.iconst 0, 1) := by decide +kernel
theorem dX1_clear_2 : decode cX1_clear 2 = .ok (.putfield 15, 3) := by decide +kernel
theorem dX1_clear_5 : decode cX1_clear 5 = .ok (.aload_n 0, 1) := by decide +kernel
theorem dX1_clear_6 : decode cX1_clear 6 = .ok (.lconst 0, 1) := by decide +kernel
theorem dX1_clear_7 : decode cX1_clear 7 = .ok (.putfield 19, 3) := by decide +kernel
theorem dX1_clear_10 : decode cX1_clear 10 = .ok (.return_, 1) := by decide +kernel
theorem dX1_add_0 : decode cX1_add 0 = .ok (.aload_n 0, 1) := by decide +kernel
theorem dX1_add_1 : decode cX1_add 1 = .ok (.getfield 15, 3) := by decide +kernel
theorem dX1_add_4 : decode cX1_add 4 = .ok (.ifCond .le 42, 3) := by decide +kernel
theorem dX1_add_7 : decode cX1_add 7 = .ok (.aload_n 0, 1) := by decide +kernel
theorem dX1_add_8 : decode cX1_add 8 = .ok (.dup, 1) := by decide +kernel
theorem dX1_add_9 : decode cX1_add 9 = .ok (.getfield 19, 3) := by decide +kernel
theorem dX1_add_12 : decode cX1_add 12 = .ok (.iload_n 1, 1) := by decide +kernel
theorem dX1_add_13 : decode cX1_add 13 = .ok (.aload_n 0, 1) := by decide +kernel
theorem dX1_add_14 : decode cX1_add 14 = .ok (.getfield 23, 3) := by decide +kernel
theorem dX1_add_17 : decode cX1_add 17 = .ok (.isub, 1) := by decide +kernel
theorem dX1_add_18 : decode cX1_add 18 = .ok (.invokestatic 32, 3) := by decide +kernel
theorem dX1_add_21 : decode cX1_add 21 = .ok (.iload_n 2, 1) := by decide +kernel
theorem dX1_add_22 : decode cX1_add 22 = .ok (.aload_n 0, 1) := by decide +kernel
theorem dX1_add_23 : decode cX1_add 23 = .ok (.getfield 26, 3) := by decide +kernel
theorem dX1_add_26 : decode cX1_add 26 = .ok (.isub, 1) := by decide +kernel
theorem dX1_add_27 : decode cX1_add 27 = .ok (.invokestatic 32, 3) := by decide +kernel
theorem dX1_add_30 : decode cX1_add 30 = .ok (.iadd, 1) := by decide +kernel
theorem dX1_add_31 : decode cX1_add 31 = .ok (.iload_n 3, 1) := by decide +kernel
theorem dX1_add_32 : decode cX1_add 32 = .ok (.aload_n 0, 1) := by decide +kernel
theorem dX1_add_33 : decode cX1_add 33 = .ok (.getfield 29, 3) := by decide +kernel
theorem dX1_add_36 : decode cX1_add 36 = .ok (.isub, 1) := by decide +kernel
theorem dX1_add_37 : decode cX1_add 37 = .ok (.invokestatic 32, 3) := by decide +kernel
theorem dX1_add_40 : decode cX1_add 40 = .ok (.iadd, 1) := by decide +kernel
theorem dX1_add_41 : decode cX1_add 41 = .ok (.i2l, 1) := by decide +kernel
theorem dX1_add_42 : decode cX1_add 42 = .ok (.ladd, 1) := by decide +kernel
theorem dX1_add_43 : decode cX1_add 43 = .ok (.putfield 19, 3) := by decide +kernel
theorem dX1_add_46 : decode cX1_add 46 = .ok (.aload_n 0, 1) := by decide +kernel
theorem dX1_add_47 : decode cX1_add 47 = .ok (.getfield 15, 3) := by decide +kernel
theorem dX1_add_50 : decode cX1_add 50 = .ok (.sipush 2000, 3) := by decide +kernel
theorem dX1_add_53 : decode cX1_add 53 = .ok (.if_icmp .ge 23, 3) := by decide +kernel
theorem dX1_add_56 : decode cX1_add 56 = .ok (.aload_n 0, 1) := by decide +kernel
theorem dX1_add_57 : decode cX1_add 57 = .ok (.getfield 11, 3) := by decide +kernel
theorem dX1_add_60 : decode cX1_add 60 = .ok (.aload_n 0, 1) := by decide +kernel
theorem dX1_add_61 : decode cX1_add 61 = .ok (.getfield 15, 3) := by decide +kernel
theorem dX1_add_64 : decode cX1_add 64 = .ok (.iload_n 3, 1) := by decide +kernel
theorem dX1_add_65 : decode cX1_add 65 = .ok (.bipush 20, 2) := by decide +kernel
theorem dX1_add_67 : decode cX1_add 67 = .ok (.imul, 1) := by decide +kernel
theorem dX1_add_68 : decode cX1_add 68 = .ok (.iload_n 2, 1) := by decide +kernel
theorem dX1_add_69 : decode cX1_add 69 = .ok (.iadd, 1) := by decide +kernel
theorem dX1_add_70 : decode cX1_add 70 = .ok (.bipush 20, 2) := by decide +kernel
theorem dX1_add_72 : decode cX1_add 72 = .ok (.imul, 1) := by decide +kernel
theorem dX1_add_73 : decode cX1_add 73 = .ok (.iload_n 1, 1) := by decide +kernel
theorem dX1_add_74 : decode cX1_add 74 = .ok (.iadd, 1) := by decide +kernel
theorem dX1_add_75 : decode cX1_add 75 = .ok (.iastore, 1) := by decide +kernel
theorem dX1_add_76 : decode cX1_add 76 = .ok (.aload_n 0, 1) := by decide +kernel
theorem dX1_add_77 : decode cX1_add 77 = .ok (.dup, 1) := by decide +kernel
theorem dX1_add_78 : decode cX1_add 78 = .ok (.getfield 15, 3) := by decide +kernel
theorem dX1_add_81 : decode cX1_add 81 = .ok (.iconst 1, 1) := by decide +kernel
theorem dX1_add_82 : decode cX1_add 82 = .ok (.iadd, 1) := by decide +kernel
theorem dX1_add_83 : decode cX1_add 83 = .ok (.putfield 15, 3) := by decide +kernel
theorem dX1_add_86 : decode cX1_add 86 = .ok (.aload_n 0, 1) := by decide +kernel
theorem dX1_add_87 : decode cX1_add 87 = .ok (.iload_n 1, 1) := by decide +kernel
theorem dX1_add_88 : decode cX1_add 88 = .ok (.putfield 23, 3) := by decide +kernel
theorem dX1_add_91 : decode cX1_add 91 = .ok (.aload_n 0, 1) := by decide +kernel
theorem dX1_add_92 : decode cX1_add 92 = .ok (.iload_n 2, 1) := by decide +kernel
theorem dX1_add_93 : decode cX1_add 93 = .ok (.putfield 26, 3) := by decide +kernel
theorem dX1_add_96 : decode cX1_add 96 = .ok (.aload_n 0, 1) := by decide +kernel
theorem dX1_add_97 : decode cX1_add 97 = .ok (.iload_n 3, 1) := by decide +kernel
theorem dX1_add_98 : decode cX1_add 98 = .ok (.putfield 29, 3) := by decide +kernel
theorem dX1_add_101 : decode cX1_add 101 = .ok (.return_, 1) := by decide +kernel
theorem dX1_holds_0 : decode cX1_holds 0 = .ok (.iload_n 1, 1) := by decide +kernel
theorem dX1_holds_1 : decode cX1_holds 1 = .ok (.ifCond .lt 22, 3) := by decide +kernel
theorem dX1_holds_4 : decode cX1_holds 4 = .ok (.iload_n 1, 1) := by decide +kernel
theorem dX1_holds_5 : decode cX1_holds 5 = .ok (.aload_n 0, 1) := by decide +kernel
theorem dX1_holds_6 : decode cX1_holds 6 = .ok (.getfield 15, 3) := by decide +kernel
theorem dX1_holds_9 : decode cX1_holds 9 = .ok (.if_icmp .ge 14, 3) := by decide +kernel
theorem dX1_holds_12 : decode cX1_holds 12 = .ok (.iload_n 1, 1) := by decide +kernel
theorem dX1_holds_13 : decode cX1_holds 13 = .ok (.sipush 2000, 3) := by decide +kernel
theorem dX1_holds_16 : decode cX1_holds 16 = .ok (.if_icmp .ge 7, 3) := by decide +kernel
theorem dX1_holds_19 : decode cX1_holds 19 = .ok (.iconst 1, 1) := by decide +kernel
theorem dX1_holds_20 : decode cX1_holds 20 = .ok (.goto 4, 3) := by decide +kernel
theorem dX1_holds_23 : decode cX1_holds 23 = .ok (.iconst 0, 1) := by decide +kernel
theorem dX1_holds_24 : decode cX1_holds 24 = .ok (.ireturn, 1) := by decide +kernel
theorem dX1_xOf_0 : decode cX1_xOf 0 = .ok (.aload_n 0, 1) := by decide +kernel
theorem dX1_xOf_1 : decode cX1_xOf 1 = .ok (.getfield 11, 3) := by decide +kernel
theorem dX1_xOf_4 : decode cX1_xOf 4 = .ok (.iload_n 1, 1) := by decide +kernel
theorem dX1_xOf_5 : decode cX1_xOf 5 = .ok (.iaload, 1) := by decide +kernel
theorem dX1_xOf_6 : decode cX1_xOf 6 = .ok (.bipush 20, 2) := by decide +kernel
theorem dX1_xOf_8 : decode cX1_xOf 8 = .ok (.irem, 1) := by decide +kernel
theorem dX1_xOf_9 : decode cX1_xOf 9 = .ok (.ireturn, 1) := by decide +kernel
theorem dX1_yOf_0 : decode cX1_yOf 0 = .ok (.aload_n 0, 1) := by decide +kernel
theorem dX1_yOf_1 : decode cX1_yOf 1 = .ok (.getfield 11, 3) := by decide +kernel
theorem dX1_yOf_4 : decode cX1_yOf 4 = .ok (.iload_n 1, 1) := by decide +kernel
theorem dX1_yOf_5 : decode cX1_yOf 5 = .ok (.iaload, 1) := by decide +kernel
theorem dX1_yOf_6 : decode cX1_yOf 6 = .ok (.bipush 20, 2) := by decide +kernel
theorem dX1_yOf_8 : decode cX1_yOf 8 = .ok (.idiv, 1) := by decide +kernel
theorem dX1_yOf_9 : decode cX1_yOf 9 = .ok (.bipush 20, 2) := by decide +kernel
theorem dX1_yOf_11 : decode cX1_yOf 11 = .ok (.irem, 1) := by decide +kernel
theorem dX1_yOf_12 : decode cX1_yOf 12 = .ok (.ireturn, 1) := by decide +kernel
theorem dX1_zOf_0 : decode cX1_zOf 0 = .ok (.aload_n 0, 1) := by decide +kernel
theorem dX1_zOf_1 : decode cX1_zOf 1 = .ok (.getfield 11, 3) := by decide +kernel
theorem dX1_zOf_4 : decode cX1_zOf 4 = .ok (.iload_n 1, 1) := by decide +kernel
theorem dX1_zOf_5 : decode cX1_zOf 5 = .ok (.iaload, 1) := by decide +kernel
theorem dX1_zOf_6 : decode cX1_zOf 6 = .ok (.sipush 400, 3) := by decide +kernel
theorem dX1_zOf_9 : decode cX1_zOf 9 = .ok (.idiv, 1) := by decide +kernel
theorem dX1_zOf_10 : decode cX1_zOf 10 = .ok (.ireturn, 1) := by decide +kernel
theorem dJ7_fill_0 : decode cJ7_fill 0 = .ok (.iconst 0, 1) := by decide +kernel
theorem dJ7_fill_1 : decode cJ7_fill 1 = .ok (.istore_n 2, 1) := by decide +kernel
theorem dJ7_fill_2 : decode cJ7_fill 2 = .ok (.aload_n 0, 1) := by decide +kernel
theorem dJ7_fill_3 : decode cJ7_fill 3 = .ok (.arraylength, 1) := by decide +kernel
theorem dJ7_fill_4 : decode cJ7_fill 4 = .ok (.istore_n 3, 1) := by decide +kernel
theorem dJ7_fill_5 : decode cJ7_fill 5 = .ok (.iload_n 2, 1) := by decide +kernel
theorem dJ7_fill_6 : decode cJ7_fill 6 = .ok (.iload_n 3, 1) := by decide +kernel
theorem dJ7_fill_7 : decode cJ7_fill 7 = .ok (.if_icmp .ge 13, 3) := by decide +kernel
theorem dJ7_fill_10 : decode cJ7_fill 10 = .ok (.aload_n 0, 1) := by decide +kernel
theorem dJ7_fill_11 : decode cJ7_fill 11 = .ok (.iload_n 2, 1) := by decide +kernel
theorem dJ7_fill_12 : decode cJ7_fill 12 = .ok (.iload_n 1, 1) := by decide +kernel
theorem dJ7_fill_13 : decode cJ7_fill 13 = .ok (.iastore, 1) := by decide +kernel
theorem dJ7_fill_14 : decode cJ7_fill 14 = .ok (.iinc 2 1, 3) := by decide +kernel
theorem dJ7_fill_17 : decode cJ7_fill 17 = .ok (.goto (-12), 3) := by decide +kernel
theorem dJ7_fill_20 : decode cJ7_fill 20 = .ok (.return_, 1) := by decide +kernel
end
section
theorem dX2_init_0 : decode cX2_init 0 = .ok (.aload_n 0, 1) := by decide +kernel
theorem dX2_init_1 : decode cX2_init 1 = .ok (.invokespecial 1, 3) := by decide +kernel
theorem dX2_init_4 : decode cX2_init 4 = .ok (.aload_n 0, 1) := by decide +kernel
theorem dX2_init_5 : decode cX2_init 5 = .ok (.iload_n 1, 1) := by decide +kernel
theorem dX2_init_6 : decode cX2_init 6 = .ok (.iconst 1, 1) := by decide +kernel
theorem dX2_init_7 : decode cX2_init 7 = .ok (.bipush 20, 2) := by decide +kernel
theorem dX2_init_9 : decode cX2_init 9 = .ok (.invokestatic 9, 3) := by decide +kernel
theorem dX2_init_12 : decode cX2_init 12 = .ok (.putfield 13, 3) := by decide +kernel
theorem dX2_init_15 : decode cX2_init 15 = .ok (.aload_n 0, 1) := by decide +kernel
theorem dX2_init_16 : decode cX2_init 16 = .ok (.iload_n 2, 1) := by decide +kernel
theorem dX2_init_17 : decode cX2_init 17 = .ok (.iconst 1, 1) := by decide +kernel
theorem dX2_init_18 : decode cX2_init 18 = .ok (.bipush 20, 2) := by decide +kernel
theorem dX2_init_20 : decode cX2_init 20 = .ok (.invokestatic 9, 3) := by decide +kernel
theorem dX2_init_23 : decode cX2_init 23 = .ok (.putfield 17, 3) := by decide +kernel
theorem dX2_init_26 : decode cX2_init 26 = .ok (.aload_n 0, 1) := by decide +kernel
theorem dX2_init_27 : decode cX2_init 27 = .ok (.getfield 13, 3) := by decide +kernel
theorem dX2_init_30 : decode cX2_init 30 = .ok (.aload_n 0, 1) := by decide +kernel
theorem dX2_init_31 : decode cX2_init 31 = .ok (.getfield 17, 3) := by decide +kernel
theorem dX2_init_34 : decode cX2_init 34 = .ok (.imul, 1) := by decide +kernel
theorem dX2_init_35 : decode cX2_init 35 = .ok (.istore_n 3, 1) := by decide +kernel
theorem dX2_init_36 : decode cX2_init 36 = .ok (.aload_n 0, 1) := by decide +kernel
theorem dX2_init_37 : decode cX2_init 37 = .ok (.iload_n 3, 1) := by decide +kernel
theorem dX2_init_38 : decode cX2_init 38 = .ok (.newarray .int, 2) := by decide +kernel
theorem dX2_init_40 : decode cX2_init 40 = .ok (.putfield 20, 3) := by decide +kernel
theorem dX2_init_43 : decode cX2_init 43 = .ok (.aload_n 0, 1) := by decide +kernel
theorem dX2_init_44 : decode cX2_init 44 = .ok (.iload_n 3, 1) := by decide +kernel
theorem dX2_init_45 : decode cX2_init 45 = .ok (.newarray .int, 2) := by decide +kernel
theorem dX2_init_47 : decode cX2_init 47 = .ok (.putfield 24, 3) := by decide +kernel
theorem dX2_init_50 : decode cX2_init 50 = .ok (.aload_n 0, 1) := by decide +kernel
theorem dX2_init_51 : decode cX2_init 51 = .ok (.iload_n 3, 1) := by decide +kernel
theorem dX2_init_52 : decode cX2_init 52 = .ok (.newarray .int, 2) := by decide +kernel
theorem dX2_init_54 : decode cX2_init 54 = .ok (.putfield 27, 3) := by decide +kernel
theorem dX2_init_57 : decode cX2_init 57 = .ok (.aload_n 0, 1) := by decide +kernel
theorem dX2_init_58 : decode cX2_init 58 = .ok (.iload_n 3, 1) := by decide +kernel
theorem dX2_init_59 : decode cX2_init 59 = .ok (.newarray .int, 2) := by decide +kernel
theorem dX2_init_61 : decode cX2_init 61 = .ok (.putfield 30, 3) := by decide +kernel
theorem dX2_init_64 : decode cX2_init 64 = .ok (.aload_n 0, 1) := by decide +kernel
theorem dX2_init_65 : decode cX2_init 65 = .ok (.iconst 4, 1) := by decide +kernel
theorem dX2_init_66 : decode cX2_init 66 = .ok (.anewarray 33, 3) := by decide +kernel
theorem dX2_init_69 : decode cX2_init 69 = .ok (.putfield 35, 3) := by decide +kernel
theorem dX2_init_72 : decode cX2_init 72 = .ok (.iconst 0, 1) := by decide +kernel
theorem dX2_init_73 : decode cX2_init 73 = .ok (.istore 4, 2) := by decide +kernel
theorem dX2_init_75 : decode cX2_init 75 = .ok (.iload 4, 2) := by decide +kernel
theorem dX2_init_77 : decode cX2_init 77 = .ok (.iconst 4, 1) := by decide +kernel
theorem dX2_init_78 : decode cX2_init 78 = .ok (.if_icmp .ge 23, 3) := by decide +kernel
theorem dX2_init_81 : decode cX2_init 81 = .ok (.aload_n 0, 1) := by decide +kernel
theorem dX2_init_82 : decode cX2_init 82 = .ok (.getfield 35, 3) := by decide +kernel
theorem dX2_init_85 : decode cX2_init 85 = .ok (.iload 4, 2) := by decide +kernel
theorem dX2_init_87 : decode cX2_init 87 = .ok (.new 33, 3) := by decide +kernel
theorem dX2_init_90 : decode cX2_init 90 = .ok (.dup, 1) := by decide +kernel
theorem dX2_init_91 : decode cX2_init 91 = .ok (.invokespecial 39, 3) := by decide +kernel
theorem dX2_init_94 : decode cX2_init 94 = .ok (.aastore, 1) := by decide +kernel
theorem dX2_init_95 : decode cX2_init 95 = .ok (.iinc 4 1, 3) := by decide +kernel
theorem dX2_init_98 : decode cX2_init 98 = .ok (.goto (-23), 3) := by decide +kernel
theorem dX2_init_101 : decode cX2_init 101 = .ok (.aload_n 0, 1) := by decide +kernel
theorem dX2_init_102 : decode cX2_init 102 = .ok (.new 40, 3) := by decide +kernel
theorem dX2_init_105 : decode cX2_init 105 = .ok (.dup, 1) := by decide +kernel
theorem dX2_init_106 : decode cX2_init 106 = .ok (.invokespecial 42, 3) := by decide +kernel
theorem dX2_init_109 : decode cX2_init 109 = .ok (.putfield 43, 3) := by decide +kernel
theorem dX2_init_112 : decode cX2_init 112 = .ok (.aload_n 0, 1) := by decide +kernel
theorem dX2_init_113 : decode cX2_init 113 = .ok (.iconst 0, 1) := by decide +kernel
theorem dX2_init_114 : decode cX2_init 114 = .ok (.putfield 47, 3) := by decide +kernel
theorem dX2_init_117 : decode cX2_init 117 = .ok (.aload_n 0, 1) := by decide +kernel
theorem dX2_init_118 : decode cX2_init 118 = .ok (.sipush 1000, 3) := by decide +kernel
theorem dX2_init_121 : decode cX2_init 121 = .ok (.putfield 51, 3) := by decide +kernel
theorem dX2_init_124 : decode cX2_init 124 = .ok (.aload_n 0, 1) := by decide +kernel
theorem dX2_init_125 : decode cX2_init 125 = .ok (.getfield 24, 3) := by decide +kernel
theorem dX2_init_128 : decode cX2_init 128 = .ok (.sipush 1000, 3) := by decide +kernel
theorem dX2_init_131 : decode cX2_init 131 = .ok (.invokestatic 54, 3) := by decide +kernel
theorem dX2_init_134 : decode cX2_init 134 = .ok (.return_, 1) := by decide +kernel
theorem dX2_put_0 : decode cX2_put 0 = .ok (.aload_n 0, 1) := by decide +kernel
theorem dX2_put_1 : decode cX2_put 1 = .ok (.iload_n 1, 1) := by decide +kernel
theorem dX2_put_2 : decode cX2_put 2 = .ok (.iload_n 2, 1) := by decide +kernel
theorem dX2_put_3 : decode cX2_put 3 = .ok (.invokevirtual 60, 3) := by decide +kernel
theorem dX2_put_6 : decode cX2_put 6 = .ok (.iload_n 3, 1) := by decide +kernel
theorem dX2_put_7 : decode cX2_put 7 = .ok (.iconst 0, 1) := by decide +kernel
theorem dX2_put_8 : decode cX2_put 8 = .ok (.sipush 1000, 3) := by decide +kernel
theorem dX2_put_11 : decode cX2_put 11 = .ok (.invokestatic 64, 3) := by decide +kernel
theorem dX2_put_14 : decode cX2_put 14 = .ok (.aload_n 0, 1) := by decide +kernel
theorem dX2_put_15 : decode cX2_put 15 = .ok (.aload_n 0, 1) := by decide +kernel
theorem dX2_put_16 : decode cX2_put 16 = .ok (.iload_n 1, 1) := by decide +kernel
theorem dX2_put_17 : decode cX2_put 17 = .ok (.iload_n 2, 1) := by decide +kernel
theorem dX2_put_18 : decode cX2_put 18 = .ok (.invokevirtual 68, 3) := by decide +kernel
theorem dX2_put_21 : decode cX2_put 21 = .ok (.iload_n 3, 1) := by decide +kernel
theorem dX2_put_22 : decode cX2_put 22 = .ok (.invokevirtual 72, 3) := by decide +kernel
theorem dX2_put_25 : decode cX2_put 25 = .ok (.ireturn, 1) := by decide +kernel
theorem dX2_tool_0 : decode cX2_tool 0 = .ok (.iload_n 1, 1) := by decide +kernel
theorem dX2_tool_1 : decode cX2_tool 1 = .ok (.invokestatic 76, 3) := by decide +kernel
theorem dX2_tool_4 : decode cX2_tool 4 = .ok (.iload_n 2, 1) := by decide +kernel
theorem dX2_tool_5 : decode cX2_tool 5 = .ok (.iconst 0, 1) := by decide +kernel
theorem dX2_tool_6 : decode cX2_tool 6 = .ok (.iconst 2, 1) := by decide +kernel
theorem dX2_tool_7 : decode cX2_tool 7 = .ok (.invokestatic 64, 3) := by decide +kernel
theorem dX2_tool_10 : decode cX2_tool 10 = .ok (.iload_n 3, 1) := by decide +kernel
theorem dX2_tool_11 : decode cX2_tool 11 = .ok (.iconst 0, 1) := by decide +kernel
theorem dX2_tool_12 : decode cX2_tool 12 = .ok (.iconst 5, 1) := by decide +kernel
theorem dX2_tool_13 : decode cX2_tool 13 = .ok (.invokestatic 64, 3) := by decide +kernel
theorem dX2_tool_16 : decode cX2_tool 16 = .ok (.aload_n 0, 1) := by decide +kernel
theorem dX2_tool_17 : decode cX2_tool 17 = .ok (.getfield 35, 3) := by decide +kernel
theorem dX2_tool_20 : decode cX2_tool 20 = .ok (.iload_n 1, 1) := by decide +kernel
theorem dX2_tool_21 : decode cX2_tool 21 = .ok (.aaload, 1) := by decide +kernel
theorem dX2_tool_22 : decode cX2_tool 22 = .ok (.iload_n 2, 1) := by decide +kernel
theorem dX2_tool_23 : decode cX2_tool 23 = .ok (.iload_n 3, 1) := by decide +kernel
theorem dX2_tool_24 : decode cX2_tool 24 = .ok (.invokevirtual 80, 3) := by decide +kernel
theorem dX2_tool_27 : decode cX2_tool 27 = .ok (.ireturn, 1) := by decide +kernel
theorem dX2_stock_0 : decode cX2_stock 0 = .ok (.iload_n 1, 1) := by decide +kernel
theorem dX2_stock_1 : decode cX2_stock 1 = .ok (.iconst 1, 1) := by decide +kernel
theorem dX2_stock_2 : decode cX2_stock 2 = .ok (.sipush 1000, 3) := by decide +kernel
theorem dX2_stock_5 : decode cX2_stock 5 = .ok (.invokestatic 64, 3) := by decide +kernel
theorem dX2_stock_8 : decode cX2_stock 8 = .ok (.aload_n 0, 1) := by decide +kernel
theorem dX2_stock_9 : decode cX2_stock 9 = .ok (.invokevirtual 83, 3) := by decide +kernel
theorem dX2_stock_12 : decode cX2_stock 12 = .ok (.istore_n 2, 1) := by decide +kernel
theorem dX2_stock_13 : decode cX2_stock 13 = .ok (.iload_n 2, 1) := by decide +kernel
theorem dX2_stock_14 : decode cX2_stock 14 = .ok (.iload_n 1, 1) := by decide +kernel
theorem dX2_stock_15 : decode cX2_stock 15 = .ok (.if_icmp .le 13, 3) := by decide +kernel
theorem dX2_stock_18 : decode cX2_stock 18 = .ok (.new 87, 3) := by decide +kernel
theorem dX2_stock_21 : decode cX2_stock 21 = .ok (.dup, 1) := by decide +kernel
theorem dX2_stock_22 : decode cX2_stock 22 = .ok (.ldc 89, 2) := by decide +kernel
theorem dX2_stock_24 : decode cX2_stock 24 = .ok (.invokespecial 91, 3) := by decide +kernel
theorem dX2_stock_27 : decode cX2_stock 27 = .ok (.athrow, 1) := by decide +kernel
theorem dX2_stock_28 : decode cX2_stock 28 = .ok (.aload_n 0, 1) := by decide +kernel
theorem dX2_stock_29 : decode cX2_stock 29 = .ok (.iload_n 1, 1) := by decide +kernel
theorem dX2_stock_30 : decode cX2_stock 30 = .ok (.putfield 51, 3) := by decide +kernel
theorem dX2_stock_33 : decode cX2_stock 33 = .ok (.aload_n 0, 1) := by decide +kernel
theorem dX2_stock_34 : decode cX2_stock 34 = .ok (.getfield 24, 3) := by decide +kernel
theorem dX2_stock_37 : decode cX2_stock 37 = .ok (.iload_n 1, 1) := by decide +kernel
theorem dX2_stock_38 : decode cX2_stock 38 = .ok (.invokestatic 54, 3) := by decide +kernel
theorem dX2_stock_41 : decode cX2_stock 41 = .ok (.iload_n 2, 1) := by decide +kernel
theorem dX2_stock_42 : decode cX2_stock 42 = .ok (.ireturn, 1) := by decide +kernel
theorem dX2_lift_0 : decode cX2_lift 0 = .ok (.aload_n 0, 1) := by decide +kernel
theorem dX2_lift_1 : decode cX2_lift 1 = .ok (.iload_n 1, 1) := by decide +kernel
theorem dX2_lift_2 : decode cX2_lift 2 = .ok (.iload_n 2, 1) := by decide +kernel
theorem dX2_lift_3 : decode cX2_lift 3 = .ok (.invokevirtual 60, 3) := by decide +kernel
theorem dX2_lift_6 : decode cX2_lift 6 = .ok (.iload_n 3, 1) := by decide +kernel
theorem dX2_lift_7 : decode cX2_lift 7 = .ok (.invokestatic 76, 3) := by decide +kernel
theorem dX2_lift_10 : decode cX2_lift 10 = .ok (.aload_n 0, 1) := by decide +kernel
theorem dX2_lift_11 : decode cX2_lift 11 = .ok (.aload_n 0, 1) := by decide +kernel
theorem dX2_lift_12 : decode cX2_lift 12 = .ok (.getfield 35, 3) := by decide +kernel
theorem dX2_lift_15 : decode cX2_lift 15 = .ok (.iload_n 3, 1) := by decide +kernel
theorem dX2_lift_16 : decode cX2_lift 16 = .ok (.aaload, 1) := by decide +kernel
theorem dX2_lift_17 : decode cX2_lift 17 = .ok (.iload_n 1, 1) := by decide +kernel
theorem dX2_lift_18 : decode cX2_lift 18 = .ok (.iload_n 2, 1) := by decide +kernel
theorem dX2_lift_19 : decode cX2_lift 19 = .ok (.invokevirtual 94, 3) := by decide +kernel
theorem dX2_lift_22 : decode cX2_lift 22 = .ok (.ireturn, 1) := by decide +kernel
theorem dX2_profile_0 : decode cX2_profile 0 = .ok (.iload_n 1, 1) := by decide +kernel
theorem dX2_profile_1 : decode cX2_profile 1 = .ok (.invokestatic 76, 3) := by decide +kernel
theorem dX2_profile_4 : decode cX2_profile 4 = .ok (.aload_n 0, 1) := by decide +kernel
theorem dX2_profile_5 : decode cX2_profile 5 = .ok (.getfield 35, 3) := by decide +kernel
theorem dX2_profile_8 : decode cX2_profile 8 = .ok (.iload_n 1, 1) := by decide +kernel
theorem dX2_profile_9 : decode cX2_profile 9 = .ok (.aaload, 1) := by decide +kernel
theorem dX2_profile_10 : decode cX2_profile 10 = .ok (.iload_n 2, 1) := by decide +kernel
theorem dX2_profile_11 : decode cX2_profile 11 = .ok (.iload_n 3, 1) := by decide +kernel
theorem dX2_profile_12 : decode cX2_profile 12 = .ok (.invokevirtual 98, 3) := by decide +kernel
theorem dX2_profile_15 : decode cX2_profile 15 = .ok (.ireturn, 1) := by decide +kernel
theorem dX2_rough_0 : decode cX2_rough 0 = .ok (.iload_n 1, 1) := by decide +kernel
theorem dX2_rough_1 : decode cX2_rough 1 = .ok (.invokestatic 76, 3) := by decide +kernel
theorem dX2_rough_4 : decode cX2_rough 4 = .ok (.iload_n 2, 1) := by decide +kernel
theorem dX2_rough_5 : decode cX2_rough 5 = .ok (.iconst 1, 1) := by decide +kernel
theorem dX2_rough_6 : decode cX2_rough 6 = .ok (.sipush 1000, 3) := by decide +kernel
theorem dX2_rough_9 : decode cX2_rough 9 = .ok (.invokestatic 64, 3) := by decide +kernel
theorem dX2_rough_12 : decode cX2_rough 12 = .ok (.iload_n 3, 1) := by decide +kernel
theorem dX2_rough_13 : decode cX2_rough 13 = .ok (.iconst 0, 1) := by decide +kernel
theorem dX2_rough_14 : decode cX2_rough 14 = .ok (.sipush 1000, 3) := by decide +kernel
theorem dX2_rough_17 : decode cX2_rough 17 = .ok (.invokestatic 64, 3) := by decide +kernel
theorem dX2_rough_20 : decode cX2_rough 20 = .ok (.aload_n 0, 1) := by decide +kernel
theorem dX2_rough_21 : decode cX2_rough 21 = .ok (.getfield 43, 3) := by decide +kernel
theorem dX2_rough_24 : decode cX2_rough 24 = .ok (.invokevirtual 101, 3) := by decide +kernel
theorem dX2_rough_27 : decode cX2_rough 27 = .ok (.aload_n 0, 1) := by decide +kernel
theorem dX2_rough_28 : decode cX2_rough 28 = .ok (.aload_n 0, 1) := by decide +kernel
theorem dX2_rough_29 : decode cX2_rough 29 = .ok (.getfield 35, 3) := by decide +kernel
theorem dX2_rough_32 : decode cX2_rough 32 = .ok (.iload_n 1, 1) := by decide +kernel
theorem dX2_rough_33 : decode cX2_rough 33 = .ok (.aaload, 1) := by decide +kernel
theorem dX2_rough_34 : decode cX2_rough 34 = .ok (.invokevirtual 104, 3) := by decide +kernel
theorem dX2_rough_37 : decode cX2_rough 37 = .ok (.iconst 0, 1) := by decide +kernel
theorem dX2_rough_38 : decode cX2_rough 38 = .ok (.istore 4, 2) := by decide +kernel
theorem dX2_rough_40 : decode cX2_rough 40 = .ok (.aload_n 0, 1) := by decide +kernel
theorem dX2_rough_41 : decode cX2_rough 41 = .ok (.getfield 51, 3) := by decide +kernel
theorem dX2_rough_44 : decode cX2_rough 44 = .ok (.iload_n 2, 1) := by decide +kernel
theorem dX2_rough_45 : decode cX2_rough 45 = .ok (.isub, 1) := by decide +kernel
theorem dX2_rough_46 : decode cX2_rough 46 = .ok (.istore 5, 2) := by decide +kernel
theorem dX2_rough_48 : decode cX2_rough 48 = .ok (.iload 5, 2) := by decide +kernel
theorem dX2_rough_50 : decode cX2_rough 50 = .ok (.ifCond .le 32, 3) := by decide +kernel
theorem dX2_rough_53 : decode cX2_rough 53 = .ok (.aload_n 0, 1) := by decide +kernel
theorem dX2_rough_54 : decode cX2_rough 54 = .ok (.aload_n 0, 1) := by decide +kernel
theorem dX2_rough_55 : decode cX2_rough 55 = .ok (.getfield 35, 3) := by decide +kernel
theorem dX2_rough_58 : decode cX2_rough 58 = .ok (.iload_n 1, 1) := by decide +kernel
theorem dX2_rough_59 : decode cX2_rough 59 = .ok (.aaload, 1) := by decide +kernel
theorem dX2_rough_60 : decode cX2_rough 60 = .ok (.iload 5, 2) := by decide +kernel
theorem dX2_rough_62 : decode cX2_rough 62 = .ok (.iload_n 2, 1) := by decide +kernel
theorem dX2_rough_63 : decode cX2_rough 63 = .ok (.iload_n 3, 1) := by decide +kernel
theorem dX2_rough_64 : decode cX2_rough 64 = .ok (.invokevirtual 108, 3) := by decide +kernel
theorem dX2_rough_67 : decode cX2_rough 67 = .ok (.ifCond .eq 6, 3) := by decide +kernel
theorem dX2_rough_70 : decode cX2_rough 70 = .ok (.iinc 4 1, 3) := by decide +kernel
theorem dX2_rough_73 : decode cX2_rough 73 = .ok (.iload 5, 2) := by decide +kernel
theorem dX2_rough_75 : decode cX2_rough 75 = .ok (.iload_n 2, 1) := by decide +kernel
theorem dX2_rough_76 : decode cX2_rough 76 = .ok (.isub, 1) := by decide +kernel
theorem dX2_rough_77 : decode cX2_rough 77 = .ok (.istore 5, 2) := by decide +kernel
theorem dX2_rough_79 : decode cX2_rough 79 = .ok (.goto (-31), 3) := by decide +kernel
theorem dX2_rough_82 : decode cX2_rough 82 = .ok (.iload 4, 2) := by decide +kernel
theorem dX2_rough_84 : decode cX2_rough 84 = .ok (.ireturn, 1) := by decide +kernel
theorem dX2_fine_0 : decode cX2_fine 0 = .ok (.iload_n 1, 1) := by decide +kernel
theorem dX2_fine_1 : decode cX2_fine 1 = .ok (.invokestatic 76, 3) := by decide +kernel
theorem dX2_fine_4 : decode cX2_fine 4 = .ok (.iload_n 2, 1) := by decide +kernel
theorem dX2_fine_5 : decode cX2_fine 5 = .ok (.iconst 1, 1) := by decide +kernel
theorem dX2_fine_6 : decode cX2_fine 6 = .ok (.bipush 20, 2) := by decide +kernel
theorem dX2_fine_8 : decode cX2_fine 8 = .ok (.invokestatic 64, 3) := by decide +kernel
theorem dX2_fine_11 : decode cX2_fine 11 = .ok (.aload_n 0, 1) := by decide +kernel
theorem dX2_fine_12 : decode cX2_fine 12 = .ok (.getfield 43, 3) := by decide +kernel
theorem dX2_fine_15 : decode cX2_fine 15 = .ok (.invokevirtual 101, 3) := by decide +kernel
theorem dX2_fine_18 : decode cX2_fine 18 = .ok (.iconst 0, 1) := by decide +kernel
theorem dX2_fine_19 : decode cX2_fine 19 = .ok (.istore_n 3, 1) := by decide +kernel
theorem dX2_fine_20 : decode cX2_fine 20 = .ok (.iconst 0, 1) := by decide +kernel
theorem dX2_fine_21 : decode cX2_fine 21 = .ok (.istore 4, 2) := by decide +kernel
theorem dX2_fine_23 : decode cX2_fine 23 = .ok (.iload 4, 2) := by decide +kernel
theorem dX2_fine_25 : decode cX2_fine 25 = .ok (.aload_n 0, 1) := by decide +kernel
theorem dX2_fine_26 : decode cX2_fine 26 = .ok (.getfield 17, 3) := by decide +kernel
theorem dX2_fine_29 : decode cX2_fine 29 = .ok (.if_icmp .ge 38, 3) := by decide +kernel
theorem dX2_fine_32 : decode cX2_fine 32 = .ok (.aload_n 0, 1) := by decide +kernel
theorem dX2_fine_33 : decode cX2_fine 33 = .ok (.aload_n 0, 1) := by decide +kernel
theorem dX2_fine_34 : decode cX2_fine 34 = .ok (.getfield 35, 3) := by decide +kernel
theorem dX2_fine_37 : decode cX2_fine 37 = .ok (.iload_n 1, 1) := by decide +kernel
theorem dX2_fine_38 : decode cX2_fine 38 = .ok (.aaload, 1) := by decide +kernel
theorem dX2_fine_39 : decode cX2_fine 39 = .ok (.iload 4, 2) := by decide +kernel
theorem dX2_fine_41 : decode cX2_fine 41 = .ok (.iload_n 3, 1) := by decide +kernel
theorem dX2_fine_42 : decode cX2_fine 42 = .ok (.iconst 2, 1) := by decide +kernel
theorem dX2_fine_43 : decode cX2_fine 43 = .ok (.irem, 1) := by decide +kernel
theorem dX2_fine_44 : decode cX2_fine 44 = .ok (.ifCond .ne 7, 3) := by decide +kernel
theorem dX2_fine_47 : decode cX2_fine 47 = .ok (.iconst 1, 1) := by decide +kernel
theorem dX2_fine_48 : decode cX2_fine 48 = .ok (.goto 4, 3) := by decide +kernel
theorem dX2_fine_51 : decode cX2_fine 51 = .ok (.iconst 0, 1) := by decide +kernel
theorem dX2_fine_52 : decode cX2_fine 52 = .ok (.invokevirtual 112, 3) := by decide +kernel
theorem dX2_fine_55 : decode cX2_fine 55 = .ok (.iinc 3 1, 3) := by decide +kernel
theorem dX2_fine_58 : decode cX2_fine 58 = .ok (.iload 4, 2) := by decide +kernel
theorem dX2_fine_60 : decode cX2_fine 60 = .ok (.iload_n 2, 1) := by decide +kernel
theorem dX2_fine_61 : decode cX2_fine 61 = .ok (.iadd, 1) := by decide +kernel
theorem dX2_fine_62 : decode cX2_fine 62 = .ok (.istore 4, 2) := by decide +kernel
theorem dX2_fine_64 : decode cX2_fine 64 = .ok (.goto (-41), 3) := by decide +kernel
theorem dX2_fine_67 : decode cX2_fine 67 = .ok (.aload_n 0, 1) := by decide +kernel
theorem dX2_fine_68 : decode cX2_fine 68 = .ok (.getfield 17, 3) := by decide +kernel
theorem dX2_fine_71 : decode cX2_fine 71 = .ok (.iconst 1, 1) := by decide +kernel
theorem dX2_fine_72 : decode cX2_fine 72 = .ok (.isub, 1) := by decide +kernel
theorem dX2_fine_73 : decode cX2_fine 73 = .ok (.iload_n 2, 1) := by decide +kernel
theorem dX2_fine_74 : decode cX2_fine 74 = .ok (.irem, 1) := by decide +kernel
theorem dX2_fine_75 : decode cX2_fine 75 = .ok (.ifCond .eq 33, 3) := by decide +kernel
theorem dX2_fine_78 : decode cX2_fine 78 = .ok (.aload_n 0, 1) := by decide +kernel
theorem dX2_fine_79 : decode cX2_fine 79 = .ok (.aload_n 0, 1) := by decide +kernel
theorem dX2_fine_80 : decode cX2_fine 80 = .ok (.getfield 35, 3) := by decide +kernel
theorem dX2_fine_83 : decode cX2_fine 83 = .ok (.iload_n 1, 1) := by decide +kernel
theorem dX2_fine_84 : decode cX2_fine 84 = .ok (.aaload, 1) := by decide +kernel
theorem dX2_fine_85 : decode cX2_fine 85 = .ok (.aload_n 0, 1) := by decide +kernel
theorem dX2_fine_86 : decode cX2_fine 86 = .ok (.getfield 17, 3) := by decide +kernel
theorem dX2_fine_89 : decode cX2_fine 89 = .ok (.iconst 1, 1) := by decide +kernel
theorem dX2_fine_90 : decode cX2_fine 90 = .ok (.isub, 1) := by decide +kernel
theorem dX2_fine_91 : decode cX2_fine 91 = .ok (.iload_n 3, 1) := by decide +kernel
theorem dX2_fine_92 : decode cX2_fine 92 = .ok (.iconst 2, 1) := by decide +kernel
theorem dX2_fine_93 : decode cX2_fine 93 = .ok (.irem, 1) := by decide +kernel
theorem dX2_fine_94 : decode cX2_fine 94 = .ok (.ifCond .ne 7, 3) := by decide +kernel
theorem dX2_fine_97 : decode cX2_fine 97 = .ok (.iconst 1, 1) := by decide +kernel
theorem dX2_fine_98 : decode cX2_fine 98 = .ok (.goto 4, 3) := by decide +kernel
theorem dX2_fine_101 : decode cX2_fine 101 = .ok (.iconst 0, 1) := by decide +kernel
theorem dX2_fine_102 : decode cX2_fine 102 = .ok (.invokevirtual 112, 3) := by decide +kernel
theorem dX2_fine_105 : decode cX2_fine 105 = .ok (.iinc 3 1, 3) := by decide +kernel
theorem dX2_fine_108 : decode cX2_fine 108 = .ok (.iload_n 3, 1) := by decide +kernel
theorem dX2_fine_109 : decode cX2_fine 109 = .ok (.ireturn, 1) := by decide +kernel
theorem dX2_made_0 : decode cX2_made 0 = .ok (.aload_n 0, 1) := by decide +kernel
theorem dX2_made_1 : decode cX2_made 1 = .ok (.iload_n 1, 1) := by decide +kernel
theorem dX2_made_2 : decode cX2_made 2 = .ok (.iload_n 2, 1) := by decide +kernel
theorem dX2_made_3 : decode cX2_made 3 = .ok (.invokevirtual 60, 3) := by decide +kernel
theorem dX2_made_6 : decode cX2_made 6 = .ok (.aload_n 0, 1) := by decide +kernel
theorem dX2_made_7 : decode cX2_made 7 = .ok (.getfield 24, 3) := by decide +kernel
theorem dX2_made_10 : decode cX2_made 10 = .ok (.aload_n 0, 1) := by decide +kernel
theorem dX2_made_11 : decode cX2_made 11 = .ok (.iload_n 1, 1) := by decide +kernel
theorem dX2_made_12 : decode cX2_made 12 = .ok (.iload_n 2, 1) := by decide +kernel
theorem dX2_made_13 : decode cX2_made 13 = .ok (.invokevirtual 68, 3) := by decide +kernel
theorem dX2_made_16 : decode cX2_made 16 = .ok (.iaload, 1) := by decide +kernel
theorem dX2_made_17 : decode cX2_made 17 = .ok (.ireturn, 1) := by decide +kernel
theorem dX2_below_0 : decode cX2_below 0 = .ok (.iconst 0, 1) := by decide +kernel
theorem dX2_below_1 : decode cX2_below 1 = .ok (.istore_n 1, 1) := by decide +kernel
theorem dX2_below_2 : decode cX2_below 2 = .ok (.iload_n 1, 1) := by decide +kernel
theorem dX2_below_3 : decode cX2_below 3 = .ok (.aload_n 0, 1) := by decide +kernel
theorem dX2_below_4 : decode cX2_below 4 = .ok (.getfield 24, 3) := by decide +kernel
theorem dX2_below_7 : decode cX2_below 7 = .ok (.arraylength, 1) := by decide +kernel
theorem dX2_below_8 : decode cX2_below 8 = .ok (.if_icmp .ge 19, 3) := by decide +kernel
theorem dX2_below_11 : decode cX2_below 11 = .ok (.aload_n 0, 1) := by decide +kernel
theorem dX2_below_12 : decode cX2_below 12 = .ok (.iload_n 1, 1) := by decide +kernel
theorem dX2_below_13 : decode cX2_below 13 = .ok (.invokevirtual 116, 3) := by decide +kernel
theorem dX2_below_16 : decode cX2_below 16 = .ok (.ifCond .ge 5, 3) := by decide +kernel
theorem dX2_below_19 : decode cX2_below 19 = .ok (.iconst 1, 1) := by decide +kernel
theorem dX2_below_20 : decode cX2_below 20 = .ok (.ireturn, 1) := by decide +kernel
theorem dX2_below_21 : decode cX2_below 21 = .ok (.iinc 1 1, 3) := by decide +kernel
theorem dX2_below_24 : decode cX2_below 24 = .ok (.goto (-22), 3) := by decide +kernel
theorem dX2_below_27 : decode cX2_below 27 = .ok (.iconst 0, 1) := by decide +kernel
theorem dX2_below_28 : decode cX2_below 28 = .ok (.ireturn, 1) := by decide +kernel
theorem dX2_rest_0 : decode cX2_rest 0 = .ok (.iload_n 1, 1) := by decide +kernel
theorem dX2_rest_1 : decode cX2_rest 1 = .ok (.iconst 0, 1) := by decide +kernel
theorem dX2_rest_2 : decode cX2_rest 2 = .ok (.sipush 1000, 3) := by decide +kernel
theorem dX2_rest_5 : decode cX2_rest 5 = .ok (.invokestatic 64, 3) := by decide +kernel
theorem dX2_rest_8 : decode cX2_rest 8 = .ok (.iload_n 2, 1) := by decide +kernel
theorem dX2_rest_9 : decode cX2_rest 9 = .ok (.iconst (-1), 1) := by decide +kernel
theorem dX2_rest_10 : decode cX2_rest 10 = .ok (.ldc 122, 2) := by decide +kernel
theorem dX2_rest_12 : decode cX2_rest 12 = .ok (.invokestatic 64, 3) := by decide +kernel
theorem dX2_rest_15 : decode cX2_rest 15 = .ok (.iconst 0, 1) := by decide +kernel
theorem dX2_rest_16 : decode cX2_rest 16 = .ok (.istore_n 3, 1) := by decide +kernel
theorem dX2_rest_17 : decode cX2_rest 17 = .ok (.iconst 0, 1) := by decide +kernel
theorem dX2_rest_18 : decode cX2_rest 18 = .ok (.istore 4, 2) := by decide +kernel
theorem dX2_rest_20 : decode cX2_rest 20 = .ok (.iload 4, 2) := by decide +kernel
theorem dX2_rest_22 : decode cX2_rest 22 = .ok (.aload_n 0, 1) := by decide +kernel
theorem dX2_rest_23 : decode cX2_rest 23 = .ok (.getfield 17, 3) := by decide +kernel
theorem dX2_rest_26 : decode cX2_rest 26 = .ok (.if_icmp .ge 60, 3) := by decide +kernel
theorem dX2_rest_29 : decode cX2_rest 29 = .ok (.iconst 0, 1) := by decide +kernel
theorem dX2_rest_30 : decode cX2_rest 30 = .ok (.istore 5, 2) := by decide +kernel
theorem dX2_rest_32 : decode cX2_rest 32 = .ok (.iload 5, 2) := by decide +kernel
theorem dX2_rest_34 : decode cX2_rest 34 = .ok (.aload_n 0, 1) := by decide +kernel
theorem dX2_rest_35 : decode cX2_rest 35 = .ok (.getfield 13, 3) := by decide +kernel
theorem dX2_rest_38 : decode cX2_rest 38 = .ok (.if_icmp .ge 42, 3) := by decide +kernel
theorem dX2_rest_41 : decode cX2_rest 41 = .ok (.aload_n 0, 1) := by decide +kernel
theorem dX2_rest_42 : decode cX2_rest 42 = .ok (.aload_n 0, 1) := by decide +kernel
theorem dX2_rest_43 : decode cX2_rest 43 = .ok (.iload 5, 2) := by decide +kernel
theorem dX2_rest_45 : decode cX2_rest 45 = .ok (.iload 4, 2) := by decide +kernel
theorem dX2_rest_47 : decode cX2_rest 47 = .ok (.invokevirtual 68, 3) := by decide +kernel
theorem dX2_rest_50 : decode cX2_rest 50 = .ok (.invokevirtual 116, 3) := by decide +kernel
theorem dX2_rest_53 : decode cX2_rest 53 = .ok (.iload_n 1, 1) := by decide +kernel
theorem dX2_rest_54 : decode cX2_rest 54 = .ok (.if_icmp .le 20, 3) := by decide +kernel
theorem dX2_rest_57 : decode cX2_rest 57 = .ok (.iload_n 3, 1) := by decide +kernel
theorem dX2_rest_58 : decode cX2_rest 58 = .ok (.iload_n 2, 1) := by decide +kernel
theorem dX2_rest_59 : decode cX2_rest 59 = .ok (.if_icmp .ne 12, 3) := by decide +kernel
theorem dX2_rest_62 : decode cX2_rest 62 = .ok (.bipush 20, 2) := by decide +kernel
theorem dX2_rest_64 : decode cX2_rest 64 = .ok (.iload 4, 2) := by decide +kernel
theorem dX2_rest_66 : decode cX2_rest 66 = .ok (.imul, 1) := by decide +kernel
theorem dX2_rest_67 : decode cX2_rest 67 = .ok (.iload 5, 2) := by decide +kernel
theorem dX2_rest_69 : decode cX2_rest 69 = .ok (.iadd, 1) := by decide +kernel
theorem dX2_rest_70 : decode cX2_rest 70 = .ok (.ireturn, 1) := by decide +kernel
theorem dX2_rest_71 : decode cX2_rest 71 = .ok (.iinc 3 1, 3) := by decide +kernel
theorem dX2_rest_74 : decode cX2_rest 74 = .ok (.iinc 5 1, 3) := by decide +kernel
theorem dX2_rest_77 : decode cX2_rest 77 = .ok (.goto (-45), 3) := by decide +kernel
theorem dX2_rest_80 : decode cX2_rest 80 = .ok (.iinc 4 1, 3) := by decide +kernel
theorem dX2_rest_83 : decode cX2_rest 83 = .ok (.goto (-63), 3) := by decide +kernel
theorem dX2_rest_86 : decode cX2_rest 86 = .ok (.iload_n 2, 1) := by decide +kernel
theorem dX2_rest_87 : decode cX2_rest 87 = .ok (.iconst (-1), 1) := by decide +kernel
theorem dX2_rest_88 : decode cX2_rest 88 = .ok (.if_icmp .ne 7, 3) := by decide +kernel
theorem dX2_rest_91 : decode cX2_rest 91 = .ok (.iload_n 3, 1) := by decide +kernel
theorem dX2_rest_92 : decode cX2_rest 92 = .ok (.goto 4, 3) := by decide +kernel
theorem dX2_rest_95 : decode cX2_rest 95 = .ok (.iconst (-1), 1) := by decide +kernel
theorem dX2_rest_96 : decode cX2_rest 96 = .ok (.ireturn, 1) := by decide +kernel
theorem dX2_sum_0 : decode cX2_sum 0 = .ok (.lconst 0, 1) := by decide +kernel
theorem dX2_sum_1 : decode cX2_sum 1 = .ok (.lstore_n 1, 1) := by decide +kernel
theorem dX2_sum_2 : decode cX2_sum 2 = .ok (.iconst 0, 1) := by decide +kernel
theorem dX2_sum_3 : decode cX2_sum 3 = .ok (.istore_n 3, 1) := by decide +kernel
theorem dX2_sum_4 : decode cX2_sum 4 = .ok (.iload_n 3, 1) := by decide +kernel
theorem dX2_sum_5 : decode cX2_sum 5 = .ok (.aload_n 0, 1) := by decide +kernel
theorem dX2_sum_6 : decode cX2_sum 6 = .ok (.getfield 24, 3) := by decide +kernel
theorem dX2_sum_9 : decode cX2_sum 9 = .ok (.arraylength, 1) := by decide +kernel
theorem dX2_sum_10 : decode cX2_sum 10 = .ok (.if_icmp .ge 22, 3) := by decide +kernel
theorem dX2_sum_13 : decode cX2_sum 13 = .ok (.lload_n 1, 1) := by decide +kernel
theorem dX2_sum_14 : decode cX2_sum 14 = .ok (.iconst 0, 1) := by decide +kernel
theorem dX2_sum_15 : decode cX2_sum 15 = .ok (.aload_n 0, 1) := by decide +kernel
theorem dX2_sum_16 : decode cX2_sum 16 = .ok (.iload_n 3, 1) := by decide +kernel
theorem dX2_sum_17 : decode cX2_sum 17 = .ok (.invokevirtual 116, 3) := by decide +kernel
theorem dX2_sum_20 : decode cX2_sum 20 = .ok (.invokestatic 123, 3) := by decide +kernel
theorem dX2_sum_23 : decode cX2_sum 23 = .ok (.i2l, 1) := by decide +kernel
theorem dX2_sum_24 : decode cX2_sum 24 = .ok (.ladd, 1) := by decide +kernel
theorem dX2_sum_25 : decode cX2_sum 25 = .ok (.lstore_n 1, 1) := by decide +kernel
theorem dX2_sum_26 : decode cX2_sum 26 = .ok (.iinc 3 1, 3) := by decide +kernel
theorem dX2_sum_29 : decode cX2_sum 29 = .ok (.goto (-25), 3) := by decide +kernel
theorem dX2_sum_32 : decode cX2_sum 32 = .ok (.lload_n 1, 1) := by decide +kernel
theorem dX2_sum_33 : decode cX2_sum 33 = .ok (.lreturn, 1) := by decide +kernel
theorem dX2_moves_0 : decode cX2_moves 0 = .ok (.aload_n 0, 1) := by decide +kernel
theorem dX2_moves_1 : decode cX2_moves 1 = .ok (.getfield 43, 3) := by decide +kernel
theorem dX2_moves_4 : decode cX2_moves 4 = .ok (.getfield 128, 3) := by decide +kernel
theorem dX2_moves_7 : decode cX2_moves 7 = .ok (.ireturn, 1) := by decide +kernel
theorem dX2_move_0 : decode cX2_move 0 = .ok (.aload_n 0, 1) := by decide +kernel
theorem dX2_move_1 : decode cX2_move 1 = .ok (.getfield 43, 3) := by decide +kernel
theorem dX2_move_4 : decode cX2_move 4 = .ok (.iload_n 1, 1) := by decide +kernel
theorem dX2_move_5 : decode cX2_move 5 = .ok (.invokevirtual 131, 3) := by decide +kernel
theorem dX2_move_8 : decode cX2_move 8 = .ok (.ifCond .ne 13, 3) := by decide +kernel
theorem dX2_move_11 : decode cX2_move 11 = .ok (.new 135, 3) := by decide +kernel
theorem dX2_move_14 : decode cX2_move 14 = .ok (.dup, 1) := by decide +kernel
theorem dX2_move_15 : decode cX2_move 15 = .ok (.ldc 137, 2) := by decide +kernel
theorem dX2_move_17 : decode cX2_move 17 = .ok (.invokespecial 139, 3) := by decide +kernel
theorem dX2_move_20 : decode cX2_move 20 = .ok (.athrow, 1) := by decide +kernel
theorem dX2_move_21 : decode cX2_move 21 = .ok (.iload_n 2, 1) := by decide +kernel
theorem dX2_move_22 : decode cX2_move 22 = .ok (.iconst 0, 1) := by decide +kernel
theorem dX2_move_23 : decode cX2_move 23 = .ok (.iconst 2, 1) := by decide +kernel
theorem dX2_move_24 : decode cX2_move 24 = .ok (.invokestatic 64, 3) := by decide +kernel
theorem dX2_move_27 : decode cX2_move 27 = .ok (.iload_n 2, 1) := by decide +kernel
theorem dX2_move_28 : decode cX2_move 28 = .ok (.lookupswitch 46 #[(0, 28), (1, 37)], 28) := by decide +kernel
theorem dX2_move_56 : decode cX2_move 56 = .ok (.aload_n 0, 1) := by decide +kernel
theorem dX2_move_57 : decode cX2_move 57 = .ok (.getfield 43, 3) := by decide +kernel
theorem dX2_move_60 : decode cX2_move 60 = .ok (.iload_n 1, 1) := by decide +kernel
theorem dX2_move_61 : decode cX2_move 61 = .ok (.invokevirtual 140, 3) := by decide +kernel
theorem dX2_move_64 : decode cX2_move 64 = .ok (.ireturn, 1) := by decide +kernel
theorem dX2_move_65 : decode cX2_move 65 = .ok (.aload_n 0, 1) := by decide +kernel
theorem dX2_move_66 : decode cX2_move 66 = .ok (.getfield 43, 3) := by decide +kernel
theorem dX2_move_69 : decode cX2_move 69 = .ok (.iload_n 1, 1) := by decide +kernel
theorem dX2_move_70 : decode cX2_move 70 = .ok (.invokevirtual 143, 3) := by decide +kernel
theorem dX2_move_73 : decode cX2_move 73 = .ok (.ireturn, 1) := by decide +kernel
theorem dX2_move_74 : decode cX2_move 74 = .ok (.aload_n 0, 1) := by decide +kernel
theorem dX2_move_75 : decode cX2_move 75 = .ok (.getfield 43, 3) := by decide +kernel
theorem dX2_move_78 : decode cX2_move 78 = .ok (.iload_n 1, 1) := by decide +kernel
theorem dX2_move_79 : decode cX2_move 79 = .ok (.invokevirtual 146, 3) := by decide +kernel
theorem dX2_move_82 : decode cX2_move 82 = .ok (.ireturn, 1) := by decide +kernel
theorem dX2_way_0 : decode cX2_way 0 = .ok (.aload_n 0, 1) := by decide +kernel
theorem dX2_way_1 : decode cX2_way 1 = .ok (.getfield 43, 3) := by decide +kernel
theorem dX2_way_4 : decode cX2_way 4 = .ok (.getfield 149, 3) := by decide +kernel
theorem dX2_way_7 : decode cX2_way 7 = .ok (.lreturn, 1) := by decide +kernel
theorem dX2_repeat_0 : decode cX2_repeat 0 = .ok (.iload_n 1, 1) := by decide +kernel
theorem dX2_repeat_1 : decode cX2_repeat 1 = .ok (.iconst 1, 1) := by decide +kernel
theorem dX2_repeat_2 : decode cX2_repeat 2 = .ok (.bipush 20, 2) := by decide +kernel
theorem dX2_repeat_4 : decode cX2_repeat 4 = .ok (.invokestatic 64, 3) := by decide +kernel
theorem dX2_repeat_7 : decode cX2_repeat 7 = .ok (.iload_n 2, 1) := by decide +kernel
theorem dX2_repeat_8 : decode cX2_repeat 8 = .ok (.iconst 1, 1) := by decide +kernel
theorem dX2_repeat_9 : decode cX2_repeat 9 = .ok (.bipush 20, 2) := by decide +kernel
theorem dX2_repeat_11 : decode cX2_repeat 11 = .ok (.invokestatic 64, 3) := by decide +kernel
theorem dX2_repeat_14 : decode cX2_repeat 14 = .ok (.iconst 0, 1) := by decide +kernel
theorem dX2_repeat_15 : decode cX2_repeat 15 = .ok (.istore_n 3, 1) := by decide +kernel
theorem dX2_repeat_16 : decode cX2_repeat 16 = .ok (.iconst 0, 1) := by decide +kernel
theorem dX2_repeat_17 : decode cX2_repeat 17 = .ok (.istore 4, 2) := by decide +kernel
theorem dX2_repeat_19 : decode cX2_repeat 19 = .ok (.iload 4, 2) := by decide +kernel
theorem dX2_repeat_21 : decode cX2_repeat 21 = .ok (.aload_n 0, 1) := by decide +kernel
theorem dX2_repeat_22 : decode cX2_repeat 22 = .ok (.getfield 17, 3) := by decide +kernel
theorem dX2_repeat_25 : decode cX2_repeat 25 = .ok (.if_icmp .ge 62, 3) := by decide +kernel
theorem dX2_repeat_28 : decode cX2_repeat 28 = .ok (.iconst 0, 1) := by decide +kernel
theorem dX2_repeat_29 : decode cX2_repeat 29 = .ok (.istore 5, 2) := by decide +kernel
theorem dX2_repeat_31 : decode cX2_repeat 31 = .ok (.iload 5, 2) := by decide +kernel
theorem dX2_repeat_33 : decode cX2_repeat 33 = .ok (.aload_n 0, 1) := by decide +kernel
theorem dX2_repeat_34 : decode cX2_repeat 34 = .ok (.getfield 13, 3) := by decide +kernel
theorem dX2_repeat_37 : decode cX2_repeat 37 = .ok (.if_icmp .ge 44, 3) := by decide +kernel
theorem dX2_repeat_40 : decode cX2_repeat 40 = .ok (.aload_n 0, 1) := by decide +kernel
theorem dX2_repeat_41 : decode cX2_repeat 41 = .ok (.aload_n 0, 1) := by decide +kernel
theorem dX2_repeat_42 : decode cX2_repeat 42 = .ok (.iload 5, 2) := by decide +kernel
theorem dX2_repeat_44 : decode cX2_repeat 44 = .ok (.iload 4, 2) := by decide +kernel
theorem dX2_repeat_46 : decode cX2_repeat 46 = .ok (.invokevirtual 68, 3) := by decide +kernel
theorem dX2_repeat_49 : decode cX2_repeat 49 = .ok (.aload_n 0, 1) := by decide +kernel
theorem dX2_repeat_50 : decode cX2_repeat 50 = .ok (.getfield 20, 3) := by decide +kernel
theorem dX2_repeat_53 : decode cX2_repeat 53 = .ok (.aload_n 0, 1) := by decide +kernel
theorem dX2_repeat_54 : decode cX2_repeat 54 = .ok (.iload 5, 2) := by decide +kernel
theorem dX2_repeat_56 : decode cX2_repeat 56 = .ok (.iload_n 1, 1) := by decide +kernel
theorem dX2_repeat_57 : decode cX2_repeat 57 = .ok (.irem, 1) := by decide +kernel
theorem dX2_repeat_58 : decode cX2_repeat 58 = .ok (.iload 4, 2) := by decide +kernel
theorem dX2_repeat_60 : decode cX2_repeat 60 = .ok (.iload_n 2, 1) := by decide +kernel
theorem dX2_repeat_61 : decode cX2_repeat 61 = .ok (.irem, 1) := by decide +kernel
theorem dX2_repeat_62 : decode cX2_repeat 62 = .ok (.invokevirtual 68, 3) := by decide +kernel
theorem dX2_repeat_65 : decode cX2_repeat 65 = .ok (.iaload, 1) := by decide +kernel
theorem dX2_repeat_66 : decode cX2_repeat 66 = .ok (.invokevirtual 72, 3) := by decide +kernel
theorem dX2_repeat_69 : decode cX2_repeat 69 = .ok (.ifCond .eq 6, 3) := by decide +kernel
theorem dX2_repeat_72 : decode cX2_repeat 72 = .ok (.iinc 3 1, 3) := by decide +kernel
theorem dX2_repeat_75 : decode cX2_repeat 75 = .ok (.iinc 5 1, 3) := by decide +kernel
theorem dX2_repeat_78 : decode cX2_repeat 78 = .ok (.goto (-47), 3) := by decide +kernel
theorem dX2_repeat_81 : decode cX2_repeat 81 = .ok (.iinc 4 1, 3) := by decide +kernel
theorem dX2_repeat_84 : decode cX2_repeat 84 = .ok (.goto (-65), 3) := by decide +kernel
theorem dX2_repeat_87 : decode cX2_repeat 87 = .ok (.iload_n 3, 1) := by decide +kernel
theorem dX2_repeat_88 : decode cX2_repeat 88 = .ok (.ireturn, 1) := by decide +kernel
theorem dX2_merge_0 : decode cX2_merge 0 = .ok (.iload_n 1, 1) := by decide +kernel
theorem dX2_merge_1 : decode cX2_merge 1 = .ok (.iconst 0, 1) := by decide +kernel
theorem dX2_merge_2 : decode cX2_merge 2 = .ok (.iconst 3, 1) := by decide +kernel
theorem dX2_merge_3 : decode cX2_merge 3 = .ok (.invokestatic 64, 3) := by decide +kernel
theorem dX2_merge_6 : decode cX2_merge 6 = .ok (.iload_n 2, 1) := by decide +kernel
theorem dX2_merge_7 : decode cX2_merge 7 = .ok (.iconst 0, 1) := by decide +kernel
theorem dX2_merge_8 : decode cX2_merge 8 = .ok (.sipush 1000, 3) := by decide +kernel
theorem dX2_merge_11 : decode cX2_merge 11 = .ok (.invokestatic 64, 3) := by decide +kernel
theorem dX2_merge_14 : decode cX2_merge 14 = .ok (.iload_n 1, 1) := by decide +kernel
theorem dX2_merge_15 : decode cX2_merge 15 = .ok (.ifCond .ne 28, 3) := by decide +kernel
theorem dX2_merge_18 : decode cX2_merge 18 = .ok (.aload_n 0, 1) := by decide +kernel
theorem dX2_merge_19 : decode cX2_merge 19 = .ok (.getfield 20, 3) := by decide +kernel
theorem dX2_merge_22 : decode cX2_merge 22 = .ok (.iconst 0, 1) := by decide +kernel
theorem dX2_merge_23 : decode cX2_merge 23 = .ok (.aload_n 0, 1) := by decide +kernel
theorem dX2_merge_24 : decode cX2_merge 24 = .ok (.getfield 27, 3) := by decide +kernel
theorem dX2_merge_27 : decode cX2_merge 27 = .ok (.iconst 0, 1) := by decide +kernel
theorem dX2_merge_28 : decode cX2_merge 28 = .ok (.aload_n 0, 1) := by decide +kernel
theorem dX2_merge_29 : decode cX2_merge 29 = .ok (.getfield 20, 3) := by decide +kernel
theorem dX2_merge_32 : decode cX2_merge 32 = .ok (.arraylength, 1) := by decide +kernel
theorem dX2_merge_33 : decode cX2_merge 33 = .ok (.invokestatic 153, 3) := by decide +kernel
theorem dX2_merge_36 : decode cX2_merge 36 = .ok (.aload_n 0, 1) := by decide +kernel
theorem dX2_merge_37 : decode cX2_merge 37 = .ok (.iconst 1, 1) := by decide +kernel
theorem dX2_merge_38 : decode cX2_merge 38 = .ok (.putfield 47, 3) := by decide +kernel
theorem dX2_merge_41 : decode cX2_merge 41 = .ok (.iconst 0, 1) := by decide +kernel
theorem dX2_merge_42 : decode cX2_merge 42 = .ok (.ireturn, 1) := by decide +kernel
theorem dX2_merge_43 : decode cX2_merge 43 = .ok (.aload_n 0, 1) := by decide +kernel
theorem dX2_merge_44 : decode cX2_merge 44 = .ok (.getfield 47, 3) := by decide +kernel
theorem dX2_merge_47 : decode cX2_merge 47 = .ok (.ifCond .ne 13, 3) := by decide +kernel
theorem dX2_merge_50 : decode cX2_merge 50 = .ok (.new 87, 3) := by decide +kernel
theorem dX2_merge_53 : decode cX2_merge 53 = .ok (.dup, 1) := by decide +kernel
theorem dX2_merge_54 : decode cX2_merge 54 = .ok (.ldc 159, 2) := by decide +kernel
theorem dX2_merge_56 : decode cX2_merge 56 = .ok (.invokespecial 91, 3) := by decide +kernel
theorem dX2_merge_59 : decode cX2_merge 59 = .ok (.athrow, 1) := by decide +kernel
theorem dX2_merge_60 : decode cX2_merge 60 = .ok (.iconst 0, 1) := by decide +kernel
theorem dX2_merge_61 : decode cX2_merge 61 = .ok (.istore_n 3, 1) := by decide +kernel
theorem dX2_merge_62 : decode cX2_merge 62 = .ok (.iconst 0, 1) := by decide +kernel
theorem dX2_merge_63 : decode cX2_merge 63 = .ok (.istore 4, 2) := by decide +kernel
theorem dX2_merge_65 : decode cX2_merge 65 = .ok (.iload 4, 2) := by decide +kernel
theorem dX2_merge_67 : decode cX2_merge 67 = .ok (.aload_n 0, 1) := by decide +kernel
theorem dX2_merge_68 : decode cX2_merge 68 = .ok (.getfield 20, 3) := by decide +kernel
theorem dX2_merge_71 : decode cX2_merge 71 = .ok (.arraylength, 1) := by decide +kernel
theorem dX2_merge_72 : decode cX2_merge 72 = .ok (.if_icmp .ge 40, 3) := by decide +kernel
theorem dX2_merge_75 : decode cX2_merge 75 = .ok (.aload_n 0, 1) := by decide +kernel
theorem dX2_merge_76 : decode cX2_merge 76 = .ok (.iload 4, 2) := by decide +kernel
theorem dX2_merge_78 : decode cX2_merge 78 = .ok (.iload_n 1, 1) := by decide +kernel
theorem dX2_merge_79 : decode cX2_merge 79 = .ok (.aload_n 0, 1) := by decide +kernel
theorem dX2_merge_80 : decode cX2_merge 80 = .ok (.getfield 20, 3) := by decide +kernel
theorem dX2_merge_83 : decode cX2_merge 83 = .ok (.iload 4, 2) := by decide +kernel
theorem dX2_merge_85 : decode cX2_merge 85 = .ok (.iaload, 1) := by decide +kernel
theorem dX2_merge_86 : decode cX2_merge 86 = .ok (.aload_n 0, 1) := by decide +kernel
theorem dX2_merge_87 : decode cX2_merge 87 = .ok (.getfield 27, 3) := by decide +kernel
theorem dX2_merge_90 : decode cX2_merge 90 = .ok (.iload 4, 2) := by decide +kernel
theorem dX2_merge_92 : decode cX2_merge 92 = .ok (.iaload, 1) := by decide +kernel
theorem dX2_merge_93 : decode cX2_merge 93 = .ok (.iload_n 2, 1) := by decide +kernel
theorem dX2_merge_94 : decode cX2_merge 94 = .ok (.invokestatic 161, 3) := by decide +kernel
theorem dX2_merge_97 : decode cX2_merge 97 = .ok (.invokevirtual 72, 3) := by decide +kernel
theorem dX2_merge_100 : decode cX2_merge 100 = .ok (.ifCond .eq 6, 3) := by decide +kernel
theorem dX2_merge_103 : decode cX2_merge 103 = .ok (.iinc 3 1, 3) := by decide +kernel
theorem dX2_merge_106 : decode cX2_merge 106 = .ok (.iinc 4 1, 3) := by decide +kernel
theorem dX2_merge_109 : decode cX2_merge 109 = .ok (.goto (-44), 3) := by decide +kernel
theorem dX2_merge_112 : decode cX2_merge 112 = .ok (.iload_n 3, 1) := by decide +kernel
theorem dX2_merge_113 : decode cX2_merge 113 = .ok (.ireturn, 1) := by decide +kernel
theorem dX2_needPlace_0 : decode cX2_needPlace 0 = .ok (.iload_n 1, 1) := by decide +kernel
theorem dX2_needPlace_1 : decode cX2_needPlace 1 = .ok (.iconst 0, 1) := by decide +kernel
theorem dX2_needPlace_2 : decode cX2_needPlace 2 = .ok (.aload_n 0, 1) := by decide +kernel
theorem dX2_needPlace_3 : decode cX2_needPlace 3 = .ok (.getfield 13, 3) := by decide +kernel
theorem dX2_needPlace_6 : decode cX2_needPlace 6 = .ok (.iconst 1, 1) := by decide +kernel
theorem dX2_needPlace_7 : decode cX2_needPlace 7 = .ok (.isub, 1) := by decide +kernel
theorem dX2_needPlace_8 : decode cX2_needPlace 8 = .ok (.invokestatic 165, 3) := by decide +kernel
theorem dX2_needPlace_11 : decode cX2_needPlace 11 = .ok (.ifCond .eq 17, 3) := by decide +kernel
theorem dX2_needPlace_14 : decode cX2_needPlace 14 = .ok (.iload_n 2, 1) := by decide +kernel
theorem dX2_needPlace_15 : decode cX2_needPlace 15 = .ok (.iconst 0, 1) := by decide +kernel
theorem dX2_needPlace_16 : decode cX2_needPlace 16 = .ok (.aload_n 0, 1) := by decide +kernel
theorem dX2_needPlace_17 : decode cX2_needPlace 17 = .ok (.getfield 17, 3) := by decide +kernel
theorem dX2_needPlace_20 : decode cX2_needPlace 20 = .ok (.iconst 1, 1) := by decide +kernel
theorem dX2_needPlace_21 : decode cX2_needPlace 21 = .ok (.isub, 1) := by decide +kernel
theorem dX2_needPlace_22 : decode cX2_needPlace 22 = .ok (.invokestatic 165, 3) := by decide +kernel
theorem dX2_needPlace_25 : decode cX2_needPlace 25 = .ok (.ifCond .ne 13, 3) := by decide +kernel
theorem dX2_needPlace_28 : decode cX2_needPlace 28 = .ok (.new 135, 3) := by decide +kernel
theorem dX2_needPlace_31 : decode cX2_needPlace 31 = .ok (.dup, 1) := by decide +kernel
theorem dX2_needPlace_32 : decode cX2_needPlace 32 = .ok (.ldc 169, 2) := by decide +kernel
theorem dX2_needPlace_34 : decode cX2_needPlace 34 = .ok (.invokespecial 139, 3) := by decide +kernel
theorem dX2_needPlace_37 : decode cX2_needPlace 37 = .ok (.athrow, 1) := by decide +kernel
theorem dX2_needPlace_38 : decode cX2_needPlace 38 = .ok (.return_, 1) := by decide +kernel
theorem dX2_needTool_0 : decode cX2_needTool 0 = .ok (.iload_n 0, 1) := by decide +kernel
theorem dX2_needTool_1 : decode cX2_needTool 1 = .ok (.iconst 0, 1) := by decide +kernel
theorem dX2_needTool_2 : decode cX2_needTool 2 = .ok (.iconst 3, 1) := by decide +kernel
theorem dX2_needTool_3 : decode cX2_needTool 3 = .ok (.invokestatic 165, 3) := by decide +kernel
theorem dX2_needTool_6 : decode cX2_needTool 6 = .ok (.ifCond .ne 13, 3) := by decide +kernel
theorem dX2_needTool_9 : decode cX2_needTool 9 = .ok (.new 135, 3) := by decide +kernel
theorem dX2_needTool_12 : decode cX2_needTool 12 = .ok (.dup, 1) := by decide +kernel
theorem dX2_needTool_13 : decode cX2_needTool 13 = .ok (.ldc 171, 2) := by decide +kernel
theorem dX2_needTool_15 : decode cX2_needTool 15 = .ok (.invokespecial 139, 3) := by decide +kernel
theorem dX2_needTool_18 : decode cX2_needTool 18 = .ok (.athrow, 1) := by decide +kernel
theorem dX2_needTool_19 : decode cX2_needTool 19 = .ok (.return_, 1) := by decide +kernel
theorem dX2_needWithin_0 : decode cX2_needWithin 0 = .ok (.iload_n 0, 1) := by decide +kernel
theorem dX2_needWithin_1 : decode cX2_needWithin 1 = .ok (.iload_n 1, 1) := by decide +kernel
theorem dX2_needWithin_2 : decode cX2_needWithin 2 = .ok (.iload_n 2, 1) := by decide +kernel
theorem dX2_needWithin_3 : decode cX2_needWithin 3 = .ok (.invokestatic 165, 3) := by decide +kernel
theorem dX2_needWithin_6 : decode cX2_needWithin 6 = .ok (.ifCond .ne 13, 3) := by decide +kernel
theorem dX2_needWithin_9 : decode cX2_needWithin 9 = .ok (.new 173, 3) := by decide +kernel
theorem dX2_needWithin_12 : decode cX2_needWithin 12 = .ok (.dup, 1) := by decide +kernel
theorem dX2_needWithin_13 : decode cX2_needWithin 13 = .ok (.ldc 175, 2) := by decide +kernel
theorem dX2_needWithin_15 : decode cX2_needWithin 15 = .ok (.invokespecial 177, 3) := by decide +kernel
theorem dX2_needWithin_18 : decode cX2_needWithin 18 = .ok (.athrow, 1) := by decide +kernel
theorem dX2_needWithin_19 : decode cX2_needWithin 19 = .ok (.return_, 1) := by decide +kernel
theorem dX2_isWithin_0 : decode cX2_isWithin 0 = .ok (.iload_n 0, 1) := by decide +kernel
theorem dX2_isWithin_1 : decode cX2_isWithin 1 = .ok (.iload_n 1, 1) := by decide +kernel
theorem dX2_isWithin_2 : decode cX2_isWithin 2 = .ok (.if_icmp .lt 12, 3) := by decide +kernel
theorem dX2_isWithin_5 : decode cX2_isWithin 5 = .ok (.iload_n 0, 1) := by decide +kernel
theorem dX2_isWithin_6 : decode cX2_isWithin 6 = .ok (.iload_n 2, 1) := by decide +kernel
theorem dX2_isWithin_7 : decode cX2_isWithin 7 = .ok (.if_icmp .gt 7, 3) := by decide +kernel
theorem dX2_isWithin_10 : decode cX2_isWithin 10 = .ok (.iconst 1, 1) := by decide +kernel
theorem dX2_isWithin_11 : decode cX2_isWithin 11 = .ok (.goto 4, 3) := by decide +kernel
theorem dX2_isWithin_14 : decode cX2_isWithin 14 = .ok (.iconst 0, 1) := by decide +kernel
theorem dX2_isWithin_15 : decode cX2_isWithin 15 = .ok (.ireturn, 1) := by decide +kernel
theorem dX2_nearest_0 : decode cX2_nearest 0 = .ok (.iload_n 1, 1) := by decide +kernel
theorem dX2_nearest_1 : decode cX2_nearest 1 = .ok (.iload_n 2, 1) := by decide +kernel
theorem dX2_nearest_2 : decode cX2_nearest 2 = .ok (.iload_n 0, 1) := by decide +kernel
theorem dX2_nearest_3 : decode cX2_nearest 3 = .ok (.invokestatic 178, 3) := by decide +kernel
theorem dX2_nearest_6 : decode cX2_nearest 6 = .ok (.invokestatic 123, 3) := by decide +kernel
theorem dX2_nearest_9 : decode cX2_nearest 9 = .ok (.ireturn, 1) := by decide +kernel
theorem dX2_placeAt_0 : decode cX2_placeAt 0 = .ok (.iload_n 2, 1) := by decide +kernel
theorem dX2_placeAt_1 : decode cX2_placeAt 1 = .ok (.aload_n 0, 1) := by decide +kernel
theorem dX2_placeAt_2 : decode cX2_placeAt 2 = .ok (.getfield 13, 3) := by decide +kernel
theorem dX2_placeAt_5 : decode cX2_placeAt 5 = .ok (.imul, 1) := by decide +kernel
theorem dX2_placeAt_6 : decode cX2_placeAt 6 = .ok (.iload_n 1, 1) := by decide +kernel
theorem dX2_placeAt_7 : decode cX2_placeAt 7 = .ok (.iadd, 1) := by decide +kernel
theorem dX2_placeAt_8 : decode cX2_placeAt 8 = .ok (.ireturn, 1) := by decide +kernel
theorem dX2_leftAt_0 : decode cX2_leftAt 0 = .ok (.aload_n 0, 1) := by decide +kernel
theorem dX2_leftAt_1 : decode cX2_leftAt 1 = .ok (.getfield 24, 3) := by decide +kernel
theorem dX2_leftAt_4 : decode cX2_leftAt 4 = .ok (.iload_n 1, 1) := by decide +kernel
theorem dX2_leftAt_5 : decode cX2_leftAt 5 = .ok (.iaload, 1) := by decide +kernel
theorem dX2_leftAt_6 : decode cX2_leftAt 6 = .ok (.aload_n 0, 1) := by decide +kernel
theorem dX2_leftAt_7 : decode cX2_leftAt 7 = .ok (.getfield 20, 3) := by decide +kernel
theorem dX2_leftAt_10 : decode cX2_leftAt 10 = .ok (.iload_n 1, 1) := by decide +kernel
theorem dX2_leftAt_11 : decode cX2_leftAt 11 = .ok (.iaload, 1) := by decide +kernel
theorem dX2_leftAt_12 : decode cX2_leftAt 12 = .ok (.isub, 1) := by decide +kernel
theorem dX2_leftAt_13 : decode cX2_leftAt 13 = .ok (.ireturn, 1) := by decide +kernel
theorem dX2_setWanted_0 : decode cX2_setWanted 0 = .ok (.aload_n 0, 1) := by decide +kernel
theorem dX2_setWanted_1 : decode cX2_setWanted 1 = .ok (.getfield 20, 3) := by decide +kernel
theorem dX2_setWanted_4 : decode cX2_setWanted 4 = .ok (.iload_n 1, 1) := by decide +kernel
theorem dX2_setWanted_5 : decode cX2_setWanted 5 = .ok (.iaload, 1) := by decide +kernel
theorem dX2_setWanted_6 : decode cX2_setWanted 6 = .ok (.iload_n 2, 1) := by decide +kernel
theorem dX2_setWanted_7 : decode cX2_setWanted 7 = .ok (.if_icmp .eq 7, 3) := by decide +kernel
theorem dX2_setWanted_10 : decode cX2_setWanted 10 = .ok (.iconst 1, 1) := by decide +kernel
theorem dX2_setWanted_11 : decode cX2_setWanted 11 = .ok (.goto 4, 3) := by decide +kernel
theorem dX2_setWanted_14 : decode cX2_setWanted 14 = .ok (.iconst 0, 1) := by decide +kernel
theorem dX2_setWanted_15 : decode cX2_setWanted 15 = .ok (.istore_n 3, 1) := by decide +kernel
theorem dX2_setWanted_16 : decode cX2_setWanted 16 = .ok (.aload_n 0, 1) := by decide +kernel
theorem dX2_setWanted_17 : decode cX2_setWanted 17 = .ok (.getfield 20, 3) := by decide +kernel
theorem dX2_setWanted_20 : decode cX2_setWanted 20 = .ok (.iload_n 1, 1) := by decide +kernel
theorem dX2_setWanted_21 : decode cX2_setWanted 21 = .ok (.iload_n 2, 1) := by decide +kernel
theorem dX2_setWanted_22 : decode cX2_setWanted 22 = .ok (.iastore, 1) := by decide +kernel
theorem dX2_setWanted_23 : decode cX2_setWanted 23 = .ok (.iload_n 3, 1) := by decide +kernel
theorem dX2_setWanted_24 : decode cX2_setWanted 24 = .ok (.ireturn, 1) := by decide +kernel
theorem dX2_greatestWanted_0 : decode cX2_greatestWanted 0 = .ok (.iconst 0, 1) := by decide +kernel
theorem dX2_greatestWanted_1 : decode cX2_greatestWanted 1 = .ok (.istore_n 1, 1) := by decide +kernel
theorem dX2_greatestWanted_2 : decode cX2_greatestWanted 2 = .ok (.aload_n 0, 1) := by decide +kernel
theorem dX2_greatestWanted_3 : decode cX2_greatestWanted 3 = .ok (.getfield 20, 3) := by decide +kernel
theorem dX2_greatestWanted_6 : decode cX2_greatestWanted 6 = .ok (.astore_n 2, 1) := by decide +kernel
theorem dX2_greatestWanted_7 : decode cX2_greatestWanted 7 = .ok (.aload_n 2, 1) := by decide +kernel
theorem dX2_greatestWanted_8 : decode cX2_greatestWanted 8 = .ok (.arraylength, 1) := by decide +kernel
theorem dX2_greatestWanted_9 : decode cX2_greatestWanted 9 = .ok (.istore_n 3, 1) := by decide +kernel
theorem dX2_greatestWanted_10 : decode cX2_greatestWanted 10 = .ok (.iconst 0, 1) := by decide +kernel
theorem dX2_greatestWanted_11 : decode cX2_greatestWanted 11 = .ok (.istore 4, 2) := by decide +kernel
theorem dX2_greatestWanted_13 : decode cX2_greatestWanted 13 = .ok (.iload 4, 2) := by decide +kernel
theorem dX2_greatestWanted_15 : decode cX2_greatestWanted 15 = .ok (.iload_n 3, 1) := by decide +kernel
theorem dX2_greatestWanted_16 : decode cX2_greatestWanted 16 = .ok (.if_icmp .ge 22, 3) := by decide +kernel
theorem dX2_greatestWanted_19 : decode cX2_greatestWanted 19 = .ok (.aload_n 2, 1) := by decide +kernel
theorem dX2_greatestWanted_20 : decode cX2_greatestWanted 20 = .ok (.iload 4, 2) := by decide +kernel
theorem dX2_greatestWanted_22 : decode cX2_greatestWanted 22 = .ok (.iaload, 1) := by decide +kernel
theorem dX2_greatestWanted_23 : decode cX2_greatestWanted 23 = .ok (.istore 5, 2) := by decide +kernel
theorem dX2_greatestWanted_25 : decode cX2_greatestWanted 25 = .ok (.iload_n 1, 1) := by decide +kernel
theorem dX2_greatestWanted_26 : decode cX2_greatestWanted 26 = .ok (.iload 5, 2) := by decide +kernel
theorem dX2_greatestWanted_28 : decode cX2_greatestWanted 28 = .ok (.invokestatic 123, 3) := by decide +kernel
theorem dX2_greatestWanted_31 : decode cX2_greatestWanted 31 = .ok (.istore_n 1, 1) := by decide +kernel
theorem dX2_greatestWanted_32 : decode cX2_greatestWanted 32 = .ok (.iinc 4 1, 3) := by decide +kernel
theorem dX2_greatestWanted_35 : decode cX2_greatestWanted 35 = .ok (.goto (-22), 3) := by decide +kernel
theorem dX2_greatestWanted_38 : decode cX2_greatestWanted 38 = .ok (.iload_n 1, 1) := by decide +kernel
theorem dX2_greatestWanted_39 : decode cX2_greatestWanted 39 = .ok (.ireturn, 1) := by decide +kernel
theorem dX2_merged_0 : decode cX2_merged 0 = .ok (.iload_n 0, 1) := by decide +kernel
theorem dX2_merged_1 : decode cX2_merged 1 = .ok (.lookupswitch 39 #[(1, 27), (2, 33)], 27) := by decide +kernel
theorem dX2_merged_28 : decode cX2_merged 28 = .ok (.iload_n 1, 1) := by decide +kernel
theorem dX2_merged_29 : decode cX2_merged 29 = .ok (.iload_n 2, 1) := by decide +kernel
theorem dX2_merged_30 : decode cX2_merged 30 = .ok (.invokestatic 123, 3) := by decide +kernel
theorem dX2_merged_33 : decode cX2_merged 33 = .ok (.ireturn, 1) := by decide +kernel
theorem dX2_merged_34 : decode cX2_merged 34 = .ok (.iload_n 1, 1) := by decide +kernel
theorem dX2_merged_35 : decode cX2_merged 35 = .ok (.iload_n 2, 1) := by decide +kernel
theorem dX2_merged_36 : decode cX2_merged 36 = .ok (.invokestatic 178, 3) := by decide +kernel
theorem dX2_merged_39 : decode cX2_merged 39 = .ok (.ireturn, 1) := by decide +kernel
theorem dX2_merged_40 : decode cX2_merged 40 = .ok (.iload_n 1, 1) := by decide +kernel
theorem dX2_merged_41 : decode cX2_merged 41 = .ok (.iload_n 2, 1) := by decide +kernel
theorem dX2_merged_42 : decode cX2_merged 42 = .ok (.iadd, 1) := by decide +kernel
theorem dX2_merged_43 : decode cX2_merged 43 = .ok (.iload_n 3, 1) := by decide +kernel
theorem dX2_merged_44 : decode cX2_merged 44 = .ok (.isub, 1) := by decide +kernel
theorem dX2_merged_45 : decode cX2_merged 45 = .ok (.iconst 0, 1) := by decide +kernel
theorem dX2_merged_46 : decode cX2_merged 46 = .ok (.sipush 1000, 3) := by decide +kernel
theorem dX2_merged_49 : decode cX2_merged 49 = .ok (.invokestatic 9, 3) := by decide +kernel
theorem dX2_merged_52 : decode cX2_merged 52 = .ok (.ireturn, 1) := by decide +kernel
theorem dX2_liftOver_0 : decode cX2_liftOver 0 = .ok (.iconst 0, 1) := by decide +kernel
theorem dX2_liftOver_1 : decode cX2_liftOver 1 = .ok (.istore 4, 2) := by decide +kernel
theorem dX2_liftOver_3 : decode cX2_liftOver 3 = .ok (.aload_n 0, 1) := by decide +kernel
theorem dX2_liftOver_4 : decode cX2_liftOver 4 = .ok (.getfield 13, 3) := by decide +kernel
theorem dX2_liftOver_7 : decode cX2_liftOver 7 = .ok (.iconst 1, 1) := by decide +kernel
theorem dX2_liftOver_8 : decode cX2_liftOver 8 = .ok (.isub, 1) := by decide +kernel
theorem dX2_liftOver_9 : decode cX2_liftOver 9 = .ok (.iload_n 2, 1) := by decide +kernel
theorem dX2_liftOver_10 : decode cX2_liftOver 10 = .ok (.aload_n 1, 1) := by decide +kernel
theorem dX2_liftOver_11 : decode cX2_liftOver 11 = .ok (.getfield 181, 3) := by decide +kernel
theorem dX2_liftOver_14 : decode cX2_liftOver 14 = .ok (.iadd, 1) := by decide +kernel
theorem dX2_liftOver_15 : decode cX2_liftOver 15 = .ok (.invokestatic 178, 3) := by decide +kernel
theorem dX2_liftOver_18 : decode cX2_liftOver 18 = .ok (.istore 5, 2) := by decide +kernel
theorem dX2_liftOver_20 : decode cX2_liftOver 20 = .ok (.aload_n 0, 1) := by decide +kernel
theorem dX2_liftOver_21 : decode cX2_liftOver 21 = .ok (.getfield 17, 3) := by decide +kernel
theorem dX2_liftOver_24 : decode cX2_liftOver 24 = .ok (.iconst 1, 1) := by decide +kernel
theorem dX2_liftOver_25 : decode cX2_liftOver 25 = .ok (.isub, 1) := by decide +kernel
theorem dX2_liftOver_26 : decode cX2_liftOver 26 = .ok (.iload_n 3, 1) := by decide +kernel
theorem dX2_liftOver_27 : decode cX2_liftOver 27 = .ok (.aload_n 1, 1) := by decide +kernel
theorem dX2_liftOver_28 : decode cX2_liftOver 28 = .ok (.getfield 181, 3) := by decide +kernel
theorem dX2_liftOver_31 : decode cX2_liftOver 31 = .ok (.iadd, 1) := by decide +kernel
theorem dX2_liftOver_32 : decode cX2_liftOver 32 = .ok (.invokestatic 178, 3) := by decide +kernel
theorem dX2_liftOver_35 : decode cX2_liftOver 35 = .ok (.istore 6, 2) := by decide +kernel
theorem dX2_liftOver_37 : decode cX2_liftOver 37 = .ok (.iconst 0, 1) := by decide +kernel
theorem dX2_liftOver_38 : decode cX2_liftOver 38 = .ok (.iload_n 3, 1) := by decide +kernel
theorem dX2_liftOver_39 : decode cX2_liftOver 39 = .ok (.aload_n 1, 1) := by decide +kernel
theorem dX2_liftOver_40 : decode cX2_liftOver 40 = .ok (.getfield 181, 3) := by decide +kernel
theorem dX2_liftOver_43 : decode cX2_liftOver 43 = .ok (.isub, 1) := by decide +kernel
theorem dX2_liftOver_44 : decode cX2_liftOver 44 = .ok (.invokestatic 123, 3) := by decide +kernel
theorem dX2_liftOver_47 : decode cX2_liftOver 47 = .ok (.istore 7, 2) := by decide +kernel
theorem dX2_liftOver_49 : decode cX2_liftOver 49 = .ok (.iload 7, 2) := by decide +kernel
theorem dX2_liftOver_51 : decode cX2_liftOver 51 = .ok (.iload 6, 2) := by decide +kernel
theorem dX2_liftOver_53 : decode cX2_liftOver 53 = .ok (.if_icmp .gt 77, 3) := by decide +kernel
theorem dX2_liftOver_56 : decode cX2_liftOver 56 = .ok (.iconst 0, 1) := by decide +kernel
theorem dX2_liftOver_57 : decode cX2_liftOver 57 = .ok (.iload_n 2, 1) := by decide +kernel
theorem dX2_liftOver_58 : decode cX2_liftOver 58 = .ok (.aload_n 1, 1) := by decide +kernel
theorem dX2_liftOver_59 : decode cX2_liftOver 59 = .ok (.getfield 181, 3) := by decide +kernel
theorem dX2_liftOver_62 : decode cX2_liftOver 62 = .ok (.isub, 1) := by decide +kernel
theorem dX2_liftOver_63 : decode cX2_liftOver 63 = .ok (.invokestatic 123, 3) := by decide +kernel
theorem dX2_liftOver_66 : decode cX2_liftOver 66 = .ok (.istore 8, 2) := by decide +kernel
theorem dX2_liftOver_68 : decode cX2_liftOver 68 = .ok (.iload 8, 2) := by decide +kernel
theorem dX2_liftOver_70 : decode cX2_liftOver 70 = .ok (.iload 5, 2) := by decide +kernel
theorem dX2_liftOver_72 : decode cX2_liftOver 72 = .ok (.if_icmp .gt 52, 3) := by decide +kernel
theorem dX2_liftOver_75 : decode cX2_liftOver 75 = .ok (.aload_n 1, 1) := by decide +kernel
theorem dX2_liftOver_76 : decode cX2_liftOver 76 = .ok (.iload 8, 2) := by decide +kernel
theorem dX2_liftOver_78 : decode cX2_liftOver 78 = .ok (.iload_n 2, 1) := by decide +kernel
theorem dX2_liftOver_79 : decode cX2_liftOver 79 = .ok (.isub, 1) := by decide +kernel
theorem dX2_liftOver_80 : decode cX2_liftOver 80 = .ok (.iload 7, 2) := by decide +kernel
theorem dX2_liftOver_82 : decode cX2_liftOver 82 = .ok (.iload_n 3, 1) := by decide +kernel
theorem dX2_liftOver_83 : decode cX2_liftOver 83 = .ok (.isub, 1) := by decide +kernel
theorem dX2_liftOver_84 : decode cX2_liftOver 84 = .ok (.invokevirtual 98, 3) := by decide +kernel
theorem dX2_liftOver_87 : decode cX2_liftOver 87 = .ok (.istore 9, 2) := by decide +kernel
theorem dX2_liftOver_89 : decode cX2_liftOver 89 = .ok (.iload 9, 2) := by decide +kernel
theorem dX2_liftOver_91 : decode cX2_liftOver 91 = .ok (.iconst (-1), 1) := by decide +kernel
theorem dX2_liftOver_92 : decode cX2_liftOver 92 = .ok (.if_icmp .eq 26, 3) := by decide +kernel
theorem dX2_liftOver_95 : decode cX2_liftOver 95 = .ok (.iload 4, 2) := by decide +kernel
theorem dX2_liftOver_97 : decode cX2_liftOver 97 = .ok (.aload_n 0, 1) := by decide +kernel
theorem dX2_liftOver_98 : decode cX2_liftOver 98 = .ok (.getfield 20, 3) := by decide +kernel
theorem dX2_liftOver_101 : decode cX2_liftOver 101 = .ok (.aload_n 0, 1) := by decide +kernel
theorem dX2_liftOver_102 : decode cX2_liftOver 102 = .ok (.iload 8, 2) := by decide +kernel
theorem dX2_liftOver_104 : decode cX2_liftOver 104 = .ok (.iload 7, 2) := by decide +kernel
theorem dX2_liftOver_106 : decode cX2_liftOver 106 = .ok (.invokevirtual 68, 3) := by decide +kernel
theorem dX2_liftOver_109 : decode cX2_liftOver 109 = .ok (.iaload, 1) := by decide +kernel
theorem dX2_liftOver_110 : decode cX2_liftOver 110 = .ok (.iload 9, 2) := by decide +kernel
theorem dX2_liftOver_112 : decode cX2_liftOver 112 = .ok (.isub, 1) := by decide +kernel
theorem dX2_liftOver_113 : decode cX2_liftOver 113 = .ok (.invokestatic 123, 3) := by decide +kernel
theorem dX2_liftOver_116 : decode cX2_liftOver 116 = .ok (.istore 4, 2) := by decide +kernel
theorem dX2_liftOver_118 : decode cX2_liftOver 118 = .ok (.iinc 8 1, 3) := by decide +kernel
theorem dX2_liftOver_121 : decode cX2_liftOver 121 = .ok (.goto (-53), 3) := by decide +kernel
theorem dX2_liftOver_124 : decode cX2_liftOver 124 = .ok (.iinc 7 1, 3) := by decide +kernel
theorem dX2_liftOver_127 : decode cX2_liftOver 127 = .ok (.goto (-78), 3) := by decide +kernel
theorem dX2_liftOver_130 : decode cX2_liftOver 130 = .ok (.iload 4, 2) := by decide +kernel
theorem dX2_liftOver_132 : decode cX2_liftOver 132 = .ok (.ireturn, 1) := by decide +kernel
theorem dX2_carve_0 : decode cX2_carve 0 = .ok (.aload_n 0, 1) := by decide +kernel
theorem dX2_carve_1 : decode cX2_carve 1 = .ok (.getfield 13, 3) := by decide +kernel
theorem dX2_carve_4 : decode cX2_carve 4 = .ok (.iconst 1, 1) := by decide +kernel
theorem dX2_carve_5 : decode cX2_carve 5 = .ok (.isub, 1) := by decide +kernel
theorem dX2_carve_6 : decode cX2_carve 6 = .ok (.iload_n 2, 1) := by decide +kernel
theorem dX2_carve_7 : decode cX2_carve 7 = .ok (.aload_n 1, 1) := by decide +kernel
theorem dX2_carve_8 : decode cX2_carve 8 = .ok (.getfield 181, 3) := by decide +kernel
theorem dX2_carve_11 : decode cX2_carve 11 = .ok (.iadd, 1) := by decide +kernel
theorem dX2_carve_12 : decode cX2_carve 12 = .ok (.invokestatic 178, 3) := by decide +kernel
theorem dX2_carve_15 : decode cX2_carve 15 = .ok (.istore 5, 2) := by decide +kernel
theorem dX2_carve_17 : decode cX2_carve 17 = .ok (.aload_n 0, 1) := by decide +kernel
theorem dX2_carve_18 : decode cX2_carve 18 = .ok (.getfield 17, 3) := by decide +kernel
theorem dX2_carve_21 : decode cX2_carve 21 = .ok (.iconst 1, 1) := by decide +kernel
theorem dX2_carve_22 : decode cX2_carve 22 = .ok (.isub, 1) := by decide +kernel
theorem dX2_carve_23 : decode cX2_carve 23 = .ok (.iload_n 3, 1) := by decide +kernel
theorem dX2_carve_24 : decode cX2_carve 24 = .ok (.aload_n 1, 1) := by decide +kernel
theorem dX2_carve_25 : decode cX2_carve 25 = .ok (.getfield 181, 3) := by decide +kernel
theorem dX2_carve_28 : decode cX2_carve 28 = .ok (.iadd, 1) := by decide +kernel
theorem dX2_carve_29 : decode cX2_carve 29 = .ok (.invokestatic 178, 3) := by decide +kernel
theorem dX2_carve_32 : decode cX2_carve 32 = .ok (.istore 6, 2) := by decide +kernel
theorem dX2_carve_34 : decode cX2_carve 34 = .ok (.iconst 0, 1) := by decide +kernel
theorem dX2_carve_35 : decode cX2_carve 35 = .ok (.iload_n 3, 1) := by decide +kernel
theorem dX2_carve_36 : decode cX2_carve 36 = .ok (.aload_n 1, 1) := by decide +kernel
theorem dX2_carve_37 : decode cX2_carve 37 = .ok (.getfield 181, 3) := by decide +kernel
theorem dX2_carve_40 : decode cX2_carve 40 = .ok (.isub, 1) := by decide +kernel
theorem dX2_carve_41 : decode cX2_carve 41 = .ok (.invokestatic 123, 3) := by decide +kernel
theorem dX2_carve_44 : decode cX2_carve 44 = .ok (.istore 7, 2) := by decide +kernel
theorem dX2_carve_46 : decode cX2_carve 46 = .ok (.iload 7, 2) := by decide +kernel
theorem dX2_carve_48 : decode cX2_carve 48 = .ok (.iload 6, 2) := by decide +kernel
theorem dX2_carve_50 : decode cX2_carve 50 = .ok (.if_icmp .gt 91, 3) := by decide +kernel
theorem dX2_carve_53 : decode cX2_carve 53 = .ok (.iconst 0, 1) := by decide +kernel
theorem dX2_carve_54 : decode cX2_carve 54 = .ok (.iload_n 2, 1) := by decide +kernel
theorem dX2_carve_55 : decode cX2_carve 55 = .ok (.aload_n 1, 1) := by decide +kernel
theorem dX2_carve_56 : decode cX2_carve 56 = .ok (.getfield 181, 3) := by decide +kernel
theorem dX2_carve_59 : decode cX2_carve 59 = .ok (.isub, 1) := by decide +kernel
theorem dX2_carve_60 : decode cX2_carve 60 = .ok (.invokestatic 123, 3) := by decide +kernel
theorem dX2_carve_63 : decode cX2_carve 63 = .ok (.istore 8, 2) := by decide +kernel
theorem dX2_carve_65 : decode cX2_carve 65 = .ok (.iload 8, 2) := by decide +kernel
theorem dX2_carve_67 : decode cX2_carve 67 = .ok (.iload 5, 2) := by decide +kernel
theorem dX2_carve_69 : decode cX2_carve 69 = .ok (.if_icmp .gt 66, 3) := by decide +kernel
theorem dX2_carve_72 : decode cX2_carve 72 = .ok (.aload_n 1, 1) := by decide +kernel
theorem dX2_carve_73 : decode cX2_carve 73 = .ok (.iload 8, 2) := by decide +kernel
theorem dX2_carve_75 : decode cX2_carve 75 = .ok (.iload_n 2, 1) := by decide +kernel
theorem dX2_carve_76 : decode cX2_carve 76 = .ok (.isub, 1) := by decide +kernel
theorem dX2_carve_77 : decode cX2_carve 77 = .ok (.iload 7, 2) := by decide +kernel
theorem dX2_carve_79 : decode cX2_carve 79 = .ok (.iload_n 3, 1) := by decide +kernel
theorem dX2_carve_80 : decode cX2_carve 80 = .ok (.isub, 1) := by decide +kernel
theorem dX2_carve_81 : decode cX2_carve 81 = .ok (.invokevirtual 98, 3) := by decide +kernel
theorem dX2_carve_84 : decode cX2_carve 84 = .ok (.istore 9, 2) := by decide +kernel
theorem dX2_carve_86 : decode cX2_carve 86 = .ok (.aload_n 0, 1) := by decide +kernel
theorem dX2_carve_87 : decode cX2_carve 87 = .ok (.iload 8, 2) := by decide +kernel
theorem dX2_carve_89 : decode cX2_carve 89 = .ok (.iload 7, 2) := by decide +kernel
theorem dX2_carve_91 : decode cX2_carve 91 = .ok (.invokevirtual 68, 3) := by decide +kernel
theorem dX2_carve_94 : decode cX2_carve 94 = .ok (.istore 10, 2) := by decide +kernel
theorem dX2_carve_96 : decode cX2_carve 96 = .ok (.iload 9, 2) := by decide +kernel
theorem dX2_carve_98 : decode cX2_carve 98 = .ok (.iconst (-1), 1) := by decide +kernel
theorem dX2_carve_99 : decode cX2_carve 99 = .ok (.if_icmp .eq 30, 3) := by decide +kernel
theorem dX2_carve_102 : decode cX2_carve 102 = .ok (.iload 4, 2) := by decide +kernel
theorem dX2_carve_104 : decode cX2_carve 104 = .ok (.iload 9, 2) := by decide +kernel
theorem dX2_carve_106 : decode cX2_carve 106 = .ok (.iadd, 1) := by decide +kernel
theorem dX2_carve_107 : decode cX2_carve 107 = .ok (.aload_n 0, 1) := by decide +kernel
theorem dX2_carve_108 : decode cX2_carve 108 = .ok (.getfield 24, 3) := by decide +kernel
theorem dX2_carve_111 : decode cX2_carve 111 = .ok (.iload 10, 2) := by decide +kernel
theorem dX2_carve_113 : decode cX2_carve 113 = .ok (.iaload, 1) := by decide +kernel
theorem dX2_carve_114 : decode cX2_carve 114 = .ok (.if_icmp .ge 15, 3) := by decide +kernel
theorem dX2_carve_117 : decode cX2_carve 117 = .ok (.aload_n 0, 1) := by decide +kernel
theorem dX2_carve_118 : decode cX2_carve 118 = .ok (.getfield 24, 3) := by decide +kernel
theorem dX2_carve_121 : decode cX2_carve 121 = .ok (.iload 10, 2) := by decide +kernel
theorem dX2_carve_123 : decode cX2_carve 123 = .ok (.iload 4, 2) := by decide +kernel
theorem dX2_carve_125 : decode cX2_carve 125 = .ok (.iload 9, 2) := by decide +kernel
theorem dX2_carve_127 : decode cX2_carve 127 = .ok (.iadd, 1) := by decide +kernel
theorem dX2_carve_128 : decode cX2_carve 128 = .ok (.iastore, 1) := by decide +kernel
theorem dX2_carve_129 : decode cX2_carve 129 = .ok (.iinc 8 1, 3) := by decide +kernel
theorem dX2_carve_132 : decode cX2_carve 132 = .ok (.goto (-67), 3) := by decide +kernel
theorem dX2_carve_135 : decode cX2_carve 135 = .ok (.iinc 7 1, 3) := by decide +kernel
theorem dX2_carve_138 : decode cX2_carve 138 = .ok (.goto (-92), 3) := by decide +kernel
theorem dX2_carve_141 : decode cX2_carve 141 = .ok (.return_, 1) := by decide +kernel
theorem dX2_findLifts_0 : decode cX2_findLifts 0 = .ok (.iconst 0, 1) := by decide +kernel
theorem dX2_findLifts_1 : decode cX2_findLifts 1 = .ok (.istore_n 2, 1) := by decide +kernel
theorem dX2_findLifts_2 : decode cX2_findLifts 2 = .ok (.iload_n 2, 1) := by decide +kernel
theorem dX2_findLifts_3 : decode cX2_findLifts 3 = .ok (.aload_n 0, 1) := by decide +kernel
theorem dX2_findLifts_4 : decode cX2_findLifts 4 = .ok (.getfield 17, 3) := by decide +kernel
theorem dX2_findLifts_7 : decode cX2_findLifts 7 = .ok (.if_icmp .ge 43, 3) := by decide +kernel
theorem dX2_findLifts_10 : decode cX2_findLifts 10 = .ok (.iconst 0, 1) := by decide +kernel
theorem dX2_findLifts_11 : decode cX2_findLifts 11 = .ok (.istore_n 3, 1) := by decide +kernel
theorem dX2_findLifts_12 : decode cX2_findLifts 12 = .ok (.iload_n 3, 1) := by decide +kernel
theorem dX2_findLifts_13 : decode cX2_findLifts 13 = .ok (.aload_n 0, 1) := by decide +kernel
theorem dX2_findLifts_14 : decode cX2_findLifts 14 = .ok (.getfield 13, 3) := by decide +kernel
theorem dX2_findLifts_17 : decode cX2_findLifts 17 = .ok (.if_icmp .ge 27, 3) := by decide +kernel
theorem dX2_findLifts_20 : decode cX2_findLifts 20 = .ok (.aload_n 0, 1) := by decide +kernel
theorem dX2_findLifts_21 : decode cX2_findLifts 21 = .ok (.getfield 30, 3) := by decide +kernel
theorem dX2_findLifts_24 : decode cX2_findLifts 24 = .ok (.aload_n 0, 1) := by decide +kernel
theorem dX2_findLifts_25 : decode cX2_findLifts 25 = .ok (.iload_n 3, 1) := by decide +kernel
theorem dX2_findLifts_26 : decode cX2_findLifts 26 = .ok (.iload_n 2, 1) := by decide +kernel
theorem dX2_findLifts_27 : decode cX2_findLifts 27 = .ok (.invokevirtual 68, 3) := by decide +kernel
theorem dX2_findLifts_30 : decode cX2_findLifts 30 = .ok (.aload_n 0, 1) := by decide +kernel
theorem dX2_findLifts_31 : decode cX2_findLifts 31 = .ok (.aload_n 1, 1) := by decide +kernel
theorem dX2_findLifts_32 : decode cX2_findLifts 32 = .ok (.iload_n 3, 1) := by decide +kernel
theorem dX2_findLifts_33 : decode cX2_findLifts 33 = .ok (.iload_n 2, 1) := by decide +kernel
theorem dX2_findLifts_34 : decode cX2_findLifts 34 = .ok (.invokevirtual 94, 3) := by decide +kernel
theorem dX2_findLifts_37 : decode cX2_findLifts 37 = .ok (.iastore, 1) := by decide +kernel
theorem dX2_findLifts_38 : decode cX2_findLifts 38 = .ok (.iinc 3 1, 3) := by decide +kernel
theorem dX2_findLifts_41 : decode cX2_findLifts 41 = .ok (.goto (-29), 3) := by decide +kernel
theorem dX2_findLifts_44 : decode cX2_findLifts 44 = .ok (.iinc 2 1, 3) := by decide +kernel
theorem dX2_findLifts_47 : decode cX2_findLifts 47 = .ok (.goto (-45), 3) := by decide +kernel
theorem dX2_findLifts_50 : decode cX2_findLifts 50 = .ok (.return_, 1) := by decide +kernel
theorem dX2_goAlongLevel_0 : decode cX2_goAlongLevel 0 = .ok (.aload_n 0, 1) := by decide +kernel
theorem dX2_goAlongLevel_1 : decode cX2_goAlongLevel 1 = .ok (.getfield 43, 3) := by decide +kernel
theorem dX2_goAlongLevel_4 : decode cX2_goAlongLevel 4 = .ok (.getfield 128, 3) := by decide +kernel
theorem dX2_goAlongLevel_7 : decode cX2_goAlongLevel 7 = .ok (.istore 5, 2) := by decide +kernel
theorem dX2_goAlongLevel_9 : decode cX2_goAlongLevel 9 = .ok (.iload_n 2, 1) := by decide +kernel
theorem dX2_goAlongLevel_10 : decode cX2_goAlongLevel 10 = .ok (.iload_n 3, 1) := by decide +kernel
theorem dX2_goAlongLevel_11 : decode cX2_goAlongLevel 11 = .ok (.isub, 1) := by decide +kernel
theorem dX2_goAlongLevel_12 : decode cX2_goAlongLevel 12 = .ok (.istore 6, 2) := by decide +kernel
theorem dX2_goAlongLevel_14 : decode cX2_goAlongLevel 14 = .ok (.iconst 0, 1) := by decide +kernel
theorem dX2_goAlongLevel_15 : decode cX2_goAlongLevel 15 = .ok (.istore 7, 2) := by decide +kernel
theorem dX2_goAlongLevel_17 : decode cX2_goAlongLevel 17 = .ok (.iload 7, 2) := by decide +kernel
theorem dX2_goAlongLevel_19 : decode cX2_goAlongLevel 19 = .ok (.aload_n 0, 1) := by decide +kernel
theorem dX2_goAlongLevel_20 : decode cX2_goAlongLevel 20 = .ok (.getfield 17, 3) := by decide +kernel
theorem dX2_goAlongLevel_23 : decode cX2_goAlongLevel 23 = .ok (.if_icmp .ge 85, 3) := by decide +kernel
theorem dX2_goAlongLevel_26 : decode cX2_goAlongLevel 26 = .ok (.iconst 0, 1) := by decide +kernel
theorem dX2_goAlongLevel_27 : decode cX2_goAlongLevel 27 = .ok (.istore 8, 2) := by decide +kernel
theorem dX2_goAlongLevel_29 : decode cX2_goAlongLevel 29 = .ok (.iload 8, 2) := by decide +kernel
theorem dX2_goAlongLevel_31 : decode cX2_goAlongLevel 31 = .ok (.aload_n 0, 1) := by decide +kernel
theorem dX2_goAlongLevel_32 : decode cX2_goAlongLevel 32 = .ok (.getfield 13, 3) := by decide +kernel
theorem dX2_goAlongLevel_35 : decode cX2_goAlongLevel 35 = .ok (.if_icmp .ge 67, 3) := by decide +kernel
theorem dX2_goAlongLevel_38 : decode cX2_goAlongLevel 38 = .ok (.aload_n 0, 1) := by decide +kernel
theorem dX2_goAlongLevel_39 : decode cX2_goAlongLevel 39 = .ok (.getfield 30, 3) := by decide +kernel
theorem dX2_goAlongLevel_42 : decode cX2_goAlongLevel 42 = .ok (.aload_n 0, 1) := by decide +kernel
theorem dX2_goAlongLevel_43 : decode cX2_goAlongLevel 43 = .ok (.iload 8, 2) := by decide +kernel
theorem dX2_goAlongLevel_45 : decode cX2_goAlongLevel 45 = .ok (.iload 7, 2) := by decide +kernel
theorem dX2_goAlongLevel_47 : decode cX2_goAlongLevel 47 = .ok (.invokevirtual 68, 3) := by decide +kernel
theorem dX2_goAlongLevel_50 : decode cX2_goAlongLevel 50 = .ok (.iaload, 1) := by decide +kernel
theorem dX2_goAlongLevel_51 : decode cX2_goAlongLevel 51 = .ok (.iload 4, 2) := by decide +kernel
theorem dX2_goAlongLevel_53 : decode cX2_goAlongLevel 53 = .ok (.iadd, 1) := by decide +kernel
theorem dX2_goAlongLevel_54 : decode cX2_goAlongLevel 54 = .ok (.istore 9, 2) := by decide +kernel
theorem dX2_goAlongLevel_56 : decode cX2_goAlongLevel 56 = .ok (.iload 9, 2) := by decide +kernel
theorem dX2_goAlongLevel_58 : decode cX2_goAlongLevel 58 = .ok (.iload_n 2, 1) := by decide +kernel
theorem dX2_goAlongLevel_59 : decode cX2_goAlongLevel 59 = .ok (.if_icmp .gt 37, 3) := by decide +kernel
theorem dX2_goAlongLevel_62 : decode cX2_goAlongLevel 62 = .ok (.aload_n 0, 1) := by decide +kernel
theorem dX2_goAlongLevel_63 : decode cX2_goAlongLevel 63 = .ok (.getfield 43, 3) := by decide +kernel
theorem dX2_goAlongLevel_66 : decode cX2_goAlongLevel 66 = .ok (.iload 8, 2) := by decide +kernel
theorem dX2_goAlongLevel_68 : decode cX2_goAlongLevel 68 = .ok (.iload 7, 2) := by decide +kernel
theorem dX2_goAlongLevel_70 : decode cX2_goAlongLevel 70 = .ok (.iload_n 2, 1) := by decide +kernel
theorem dX2_goAlongLevel_71 : decode cX2_goAlongLevel 71 = .ok (.invokevirtual 184, 3) := by decide +kernel
theorem dX2_goAlongLevel_74 : decode cX2_goAlongLevel 74 = .ok (.iload 6, 2) := by decide +kernel
theorem dX2_goAlongLevel_76 : decode cX2_goAlongLevel 76 = .ok (.ifCond .le 10, 3) := by decide +kernel
theorem dX2_goAlongLevel_79 : decode cX2_goAlongLevel 79 = .ok (.iload 6, 2) := by decide +kernel
theorem dX2_goAlongLevel_81 : decode cX2_goAlongLevel 81 = .ok (.iload 9, 2) := by decide +kernel
theorem dX2_goAlongLevel_83 : decode cX2_goAlongLevel 83 = .ok (.if_icmp .ge 13, 3) := by decide +kernel
theorem dX2_goAlongLevel_86 : decode cX2_goAlongLevel 86 = .ok (.aload_n 0, 1) := by decide +kernel
theorem dX2_goAlongLevel_87 : decode cX2_goAlongLevel 87 = .ok (.aload_n 1, 1) := by decide +kernel
theorem dX2_goAlongLevel_88 : decode cX2_goAlongLevel 88 = .ok (.iload 8, 2) := by decide +kernel
theorem dX2_goAlongLevel_90 : decode cX2_goAlongLevel 90 = .ok (.iload 7, 2) := by decide +kernel
theorem dX2_goAlongLevel_92 : decode cX2_goAlongLevel 92 = .ok (.iload_n 2, 1) := by decide +kernel
theorem dX2_goAlongLevel_93 : decode cX2_goAlongLevel 93 = .ok (.invokevirtual 187, 3) := by decide +kernel
theorem dX2_goAlongLevel_96 : decode cX2_goAlongLevel 96 = .ok (.iinc 8 1, 3) := by decide +kernel
theorem dX2_goAlongLevel_99 : decode cX2_goAlongLevel 99 = .ok (.goto (-70), 3) := by decide +kernel
theorem dX2_goAlongLevel_102 : decode cX2_goAlongLevel 102 = .ok (.iinc 7 1, 3) := by decide +kernel
theorem dX2_goAlongLevel_105 : decode cX2_goAlongLevel 105 = .ok (.goto (-88), 3) := by decide +kernel
theorem dX2_goAlongLevel_108 : decode cX2_goAlongLevel 108 = .ok (.aload_n 0, 1) := by decide +kernel
theorem dX2_goAlongLevel_109 : decode cX2_goAlongLevel 109 = .ok (.getfield 43, 3) := by decide +kernel
theorem dX2_goAlongLevel_112 : decode cX2_goAlongLevel 112 = .ok (.getfield 128, 3) := by decide +kernel
theorem dX2_goAlongLevel_115 : decode cX2_goAlongLevel 115 = .ok (.iload 5, 2) := by decide +kernel
theorem dX2_goAlongLevel_117 : decode cX2_goAlongLevel 117 = .ok (.if_icmp .le 7, 3) := by decide +kernel
theorem dX2_goAlongLevel_120 : decode cX2_goAlongLevel 120 = .ok (.iconst 1, 1) := by decide +kernel
theorem dX2_goAlongLevel_121 : decode cX2_goAlongLevel 121 = .ok (.goto 4, 3) := by decide +kernel
theorem dX2_goAlongLevel_124 : decode cX2_goAlongLevel 124 = .ok (.iconst 0, 1) := by decide +kernel
theorem dX2_goAlongLevel_125 : decode cX2_goAlongLevel 125 = .ok (.ireturn, 1) := by decide +kernel
theorem dX2_goAlongRow_0 : decode cX2_goAlongRow 0 = .ok (.iconst 0, 1) := by decide +kernel
theorem dX2_goAlongRow_1 : decode cX2_goAlongRow 1 = .ok (.istore 4, 2) := by decide +kernel
theorem dX2_goAlongRow_3 : decode cX2_goAlongRow 3 = .ok (.iload 4, 2) := by decide +kernel
theorem dX2_goAlongRow_5 : decode cX2_goAlongRow 5 = .ok (.aload_n 0, 1) := by decide +kernel
theorem dX2_goAlongRow_6 : decode cX2_goAlongRow 6 = .ok (.getfield 13, 3) := by decide +kernel
theorem dX2_goAlongRow_9 : decode cX2_goAlongRow 9 = .ok (.if_icmp .ge 61, 3) := by decide +kernel
theorem dX2_goAlongRow_12 : decode cX2_goAlongRow 12 = .ok (.iload_n 3, 1) := by decide +kernel
theorem dX2_goAlongRow_13 : decode cX2_goAlongRow 13 = .ok (.ifCond .eq 8, 3) := by decide +kernel
theorem dX2_goAlongRow_16 : decode cX2_goAlongRow 16 = .ok (.iload 4, 2) := by decide +kernel
theorem dX2_goAlongRow_18 : decode cX2_goAlongRow 18 = .ok (.goto 12, 3) := by decide +kernel
theorem dX2_goAlongRow_21 : decode cX2_goAlongRow 21 = .ok (.aload_n 0, 1) := by decide +kernel
theorem dX2_goAlongRow_22 : decode cX2_goAlongRow 22 = .ok (.getfield 13, 3) := by decide +kernel
theorem dX2_goAlongRow_25 : decode cX2_goAlongRow 25 = .ok (.iconst 1, 1) := by decide +kernel
theorem dX2_goAlongRow_26 : decode cX2_goAlongRow 26 = .ok (.isub, 1) := by decide +kernel
theorem dX2_goAlongRow_27 : decode cX2_goAlongRow 27 = .ok (.iload 4, 2) := by decide +kernel
theorem dX2_goAlongRow_29 : decode cX2_goAlongRow 29 = .ok (.isub, 1) := by decide +kernel
theorem dX2_goAlongRow_30 : decode cX2_goAlongRow 30 = .ok (.istore 5, 2) := by decide +kernel
theorem dX2_goAlongRow_32 : decode cX2_goAlongRow 32 = .ok (.aload_n 0, 1) := by decide +kernel
theorem dX2_goAlongRow_33 : decode cX2_goAlongRow 33 = .ok (.aload_n 1, 1) := by decide +kernel
theorem dX2_goAlongRow_34 : decode cX2_goAlongRow 34 = .ok (.iload 5, 2) := by decide +kernel
theorem dX2_goAlongRow_36 : decode cX2_goAlongRow 36 = .ok (.iload_n 2, 1) := by decide +kernel
theorem dX2_goAlongRow_37 : decode cX2_goAlongRow 37 = .ok (.invokevirtual 94, 3) := by decide +kernel
theorem dX2_goAlongRow_40 : decode cX2_goAlongRow 40 = .ok (.istore 6, 2) := by decide +kernel
theorem dX2_goAlongRow_42 : decode cX2_goAlongRow 42 = .ok (.aload_n 0, 1) := by decide +kernel
theorem dX2_goAlongRow_43 : decode cX2_goAlongRow 43 = .ok (.getfield 43, 3) := by decide +kernel
theorem dX2_goAlongRow_46 : decode cX2_goAlongRow 46 = .ok (.iload 5, 2) := by decide +kernel
theorem dX2_goAlongRow_48 : decode cX2_goAlongRow 48 = .ok (.iload_n 2, 1) := by decide +kernel
theorem dX2_goAlongRow_49 : decode cX2_goAlongRow 49 = .ok (.iload 6, 2) := by decide +kernel
theorem dX2_goAlongRow_51 : decode cX2_goAlongRow 51 = .ok (.invokevirtual 184, 3) := by decide +kernel
theorem dX2_goAlongRow_54 : decode cX2_goAlongRow 54 = .ok (.aload_n 0, 1) := by decide +kernel
theorem dX2_goAlongRow_55 : decode cX2_goAlongRow 55 = .ok (.aload_n 1, 1) := by decide +kernel
theorem dX2_goAlongRow_56 : decode cX2_goAlongRow 56 = .ok (.iload 5, 2) := by decide +kernel
theorem dX2_goAlongRow_58 : decode cX2_goAlongRow 58 = .ok (.iload_n 2, 1) := by decide +kernel
theorem dX2_goAlongRow_59 : decode cX2_goAlongRow 59 = .ok (.iload 6, 2) := by decide +kernel
theorem dX2_goAlongRow_61 : decode cX2_goAlongRow 61 = .ok (.invokevirtual 187, 3) := by decide +kernel
theorem dX2_goAlongRow_64 : decode cX2_goAlongRow 64 = .ok (.iinc 4 1, 3) := by decide +kernel
theorem dX2_goAlongRow_67 : decode cX2_goAlongRow 67 = .ok (.goto (-64), 3) := by decide +kernel
theorem dX2_goAlongRow_70 : decode cX2_goAlongRow 70 = .ok (.return_, 1) := by decide +kernel
end
section
theorem dX3_init_0 : decode cX3_init 0 = .ok (.aload_n 0, 1) := by decide +kernel
theorem dX3_init_1 : decode cX3_init 1 = .ok (.invokespecial 1, 3) := by decide +kernel
theorem dX3_init_4 : decode cX3_init 4 = .ok (.aload_n 0, 1) := by decide +kernel
theorem dX3_init_5 : decode cX3_init 5 = .ok (.sipush 400, 3) := by decide +kernel
theorem dX3_init_8 : decode cX3_init 8 = .ok (.newarray .int, 2) := by decide +kernel
theorem dX3_init_10 : decode cX3_init 10 = .ok (.putfield 7, 3) := by decide +kernel
theorem dX3_init_13 : decode cX3_init 13 = .ok (.aload_n 0, 1) := by decide +kernel
theorem dX3_init_14 : decode cX3_init 14 = .ok (.sipush 400, 3) := by decide +kernel
theorem dX3_init_17 : decode cX3_init 17 = .ok (.newarray .int, 2) := by decide +kernel
theorem dX3_init_19 : decode cX3_init 19 = .ok (.putfield 13, 3) := by decide +kernel
theorem dX3_init_22 : decode cX3_init 22 = .ok (.aload_n 0, 1) := by decide +kernel
theorem dX3_init_23 : decode cX3_init 23 = .ok (.sipush 400, 3) := by decide +kernel
theorem dX3_init_26 : decode cX3_init 26 = .ok (.newarray .int, 2) := by decide +kernel
theorem dX3_init_28 : decode cX3_init 28 = .ok (.putfield 16, 3) := by decide +kernel
theorem dX3_init_31 : decode cX3_init 31 = .ok (.aload_n 0, 1) := by decide +kernel
theorem dX3_init_32 : decode cX3_init 32 = .ok (.sipush 1000, 3) := by decide +kernel
theorem dX3_init_35 : decode cX3_init 35 = .ok (.putfield 19, 3) := by decide +kernel
theorem dX3_init_38 : decode cX3_init 38 = .ok (.aload_n 0, 1) := by decide +kernel
theorem dX3_init_39 : decode cX3_init 39 = .ok (.iconst 4, 1) := by decide +kernel
theorem dX3_init_40 : decode cX3_init 40 = .ok (.newarray .int, 2) := by decide +kernel
theorem dX3_init_42 : decode cX3_init 42 = .ok (.putfield 23, 3) := by decide +kernel
theorem dX3_init_45 : decode cX3_init 45 = .ok (.aload_n 0, 1) := by decide +kernel
theorem dX3_init_46 : decode cX3_init 46 = .ok (.iconst 4, 1) := by decide +kernel
theorem dX3_init_47 : decode cX3_init 47 = .ok (.newarray .int, 2) := by decide +kernel
theorem dX3_init_49 : decode cX3_init 49 = .ok (.putfield 26, 3) := by decide +kernel
theorem dX3_init_52 : decode cX3_init 52 = .ok (.aload_n 0, 1) := by decide +kernel
theorem dX3_init_53 : decode cX3_init 53 = .ok (.sipush 400, 3) := by decide +kernel
theorem dX3_init_56 : decode cX3_init 56 = .ok (.newarray .int, 2) := by decide +kernel
theorem dX3_init_58 : decode cX3_init 58 = .ok (.putfield 29, 3) := by decide +kernel
theorem dX3_init_61 : decode cX3_init 61 = .ok (.aload_n 0, 1) := by decide +kernel
theorem dX3_init_62 : decode cX3_init 62 = .ok (.sipush 400, 3) := by decide +kernel
theorem dX3_init_65 : decode cX3_init 65 = .ok (.newarray .int, 2) := by decide +kernel
theorem dX3_init_67 : decode cX3_init 67 = .ok (.putfield 32, 3) := by decide +kernel
theorem dX3_init_70 : decode cX3_init 70 = .ok (.aload_n 0, 1) := by decide +kernel
theorem dX3_init_71 : decode cX3_init 71 = .ok (.sipush 6000, 3) := by decide +kernel
theorem dX3_init_74 : decode cX3_init 74 = .ok (.newarray .int, 2) := by decide +kernel
theorem dX3_init_76 : decode cX3_init 76 = .ok (.putfield 35, 3) := by decide +kernel
theorem dX3_init_79 : decode cX3_init 79 = .ok (.aload_n 0, 1) := by decide +kernel
theorem dX3_init_80 : decode cX3_init 80 = .ok (.iload_n 1, 1) := by decide +kernel
theorem dX3_init_81 : decode cX3_init 81 = .ok (.invokestatic 38, 3) := by decide +kernel
theorem dX3_init_84 : decode cX3_init 84 = .ok (.putfield 42, 3) := by decide +kernel
theorem dX3_init_87 : decode cX3_init 87 = .ok (.aload_n 0, 1) := by decide +kernel
theorem dX3_init_88 : decode cX3_init 88 = .ok (.iload_n 2, 1) := by decide +kernel
theorem dX3_init_89 : decode cX3_init 89 = .ok (.invokestatic 38, 3) := by decide +kernel
theorem dX3_init_92 : decode cX3_init 92 = .ok (.putfield 45, 3) := by decide +kernel
theorem dX3_init_95 : decode cX3_init 95 = .ok (.iconst 0, 1) := by decide +kernel
theorem dX3_init_96 : decode cX3_init 96 = .ok (.istore_n 3, 1) := by decide +kernel
theorem dX3_init_97 : decode cX3_init 97 = .ok (.iload_n 3, 1) := by decide +kernel
theorem dX3_init_98 : decode cX3_init 98 = .ok (.sipush 400, 3) := by decide +kernel
theorem dX3_init_101 : decode cX3_init 101 = .ok (.if_icmp .ge 18, 3) := by decide +kernel
theorem dX3_init_104 : decode cX3_init 104 = .ok (.aload_n 0, 1) := by decide +kernel
theorem dX3_init_105 : decode cX3_init 105 = .ok (.getfield 13, 3) := by decide +kernel
theorem dX3_init_108 : decode cX3_init 108 = .ok (.iload_n 3, 1) := by decide +kernel
theorem dX3_init_109 : decode cX3_init 109 = .ok (.sipush 1000, 3) := by decide +kernel
theorem dX3_init_112 : decode cX3_init 112 = .ok (.iastore, 1) := by decide +kernel
theorem dX3_init_113 : decode cX3_init 113 = .ok (.iinc 3 1, 3) := by decide +kernel
theorem dX3_init_116 : decode cX3_init 116 = .ok (.goto (-19), 3) := by decide +kernel
theorem dX3_init_119 : decode cX3_init 119 = .ok (.return_, 1) := by decide +kernel
theorem dX3_nearest_0 : decode cX3_nearest 0 = .ok (.iload_n 0, 1) := by decide +kernel
theorem dX3_nearest_1 : decode cX3_nearest 1 = .ok (.iconst 1, 1) := by decide +kernel
theorem dX3_nearest_2 : decode cX3_nearest 2 = .ok (.if_icmp .ge 7, 3) := by decide +kernel
theorem dX3_nearest_5 : decode cX3_nearest 5 = .ok (.iconst 1, 1) := by decide +kernel
theorem dX3_nearest_6 : decode cX3_nearest 6 = .ok (.goto 15, 3) := by decide +kernel
theorem dX3_nearest_9 : decode cX3_nearest 9 = .ok (.iload_n 0, 1) := by decide +kernel
theorem dX3_nearest_10 : decode cX3_nearest 10 = .ok (.bipush 20, 2) := by decide +kernel
theorem dX3_nearest_12 : decode cX3_nearest 12 = .ok (.if_icmp .le 8, 3) := by decide +kernel
theorem dX3_nearest_15 : decode cX3_nearest 15 = .ok (.bipush 20, 2) := by decide +kernel
theorem dX3_nearest_17 : decode cX3_nearest 17 = .ok (.goto 4, 3) := by decide +kernel
theorem dX3_nearest_20 : decode cX3_nearest 20 = .ok (.iload_n 0, 1) := by decide +kernel
theorem dX3_nearest_21 : decode cX3_nearest 21 = .ok (.ireturn, 1) := by decide +kernel
theorem dX3_thrown_0 : decode cX3_thrown 0 = .ok (.aload_n 0, 1) := by decide +kernel
theorem dX3_thrown_1 : decode cX3_thrown 1 = .ok (.getfield 48, 3) := by decide +kernel
theorem dX3_thrown_4 : decode cX3_thrown 4 = .ok (.ireturn, 1) := by decide +kernel
theorem dX3_isIn_0 : decode cX3_isIn 0 = .ok (.iload_n 0, 1) := by decide +kernel
theorem dX3_isIn_1 : decode cX3_isIn 1 = .ok (.iload_n 1, 1) := by decide +kernel
theorem dX3_isIn_2 : decode cX3_isIn 2 = .ok (.if_icmp .lt 12, 3) := by decide +kernel
theorem dX3_isIn_5 : decode cX3_isIn 5 = .ok (.iload_n 0, 1) := by decide +kernel
theorem dX3_isIn_6 : decode cX3_isIn 6 = .ok (.iload_n 2, 1) := by decide +kernel
theorem dX3_isIn_7 : decode cX3_isIn 7 = .ok (.if_icmp .gt 7, 3) := by decide +kernel
theorem dX3_isIn_10 : decode cX3_isIn 10 = .ok (.iconst 1, 1) := by decide +kernel
theorem dX3_isIn_11 : decode cX3_isIn 11 = .ok (.goto 4, 3) := by decide +kernel
theorem dX3_isIn_14 : decode cX3_isIn 14 = .ok (.iconst 0, 1) := by decide +kernel
theorem dX3_isIn_15 : decode cX3_isIn 15 = .ok (.ireturn, 1) := by decide +kernel
theorem dX3_isPlace_0 : decode cX3_isPlace 0 = .ok (.iload_n 1, 1) := by decide +kernel
theorem dX3_isPlace_1 : decode cX3_isPlace 1 = .ok (.ifCond .lt 27, 3) := by decide +kernel
theorem dX3_isPlace_4 : decode cX3_isPlace 4 = .ok (.iload_n 1, 1) := by decide +kernel
theorem dX3_isPlace_5 : decode cX3_isPlace 5 = .ok (.aload_n 0, 1) := by decide +kernel
theorem dX3_isPlace_6 : decode cX3_isPlace 6 = .ok (.getfield 42, 3) := by decide +kernel
theorem dX3_isPlace_9 : decode cX3_isPlace 9 = .ok (.if_icmp .ge 19, 3) := by decide +kernel
theorem dX3_isPlace_12 : decode cX3_isPlace 12 = .ok (.iload_n 2, 1) := by decide +kernel
theorem dX3_isPlace_13 : decode cX3_isPlace 13 = .ok (.ifCond .lt 15, 3) := by decide +kernel
theorem dX3_isPlace_16 : decode cX3_isPlace 16 = .ok (.iload_n 2, 1) := by decide +kernel
theorem dX3_isPlace_17 : decode cX3_isPlace 17 = .ok (.aload_n 0, 1) := by decide +kernel
theorem dX3_isPlace_18 : decode cX3_isPlace 18 = .ok (.getfield 45, 3) := by decide +kernel
theorem dX3_isPlace_21 : decode cX3_isPlace 21 = .ok (.if_icmp .ge 7, 3) := by decide +kernel
theorem dX3_isPlace_24 : decode cX3_isPlace 24 = .ok (.iconst 1, 1) := by decide +kernel
theorem dX3_isPlace_25 : decode cX3_isPlace 25 = .ok (.goto 4, 3) := by decide +kernel
theorem dX3_isPlace_28 : decode cX3_isPlace 28 = .ok (.iconst 0, 1) := by decide +kernel
theorem dX3_isPlace_29 : decode cX3_isPlace 29 = .ok (.ireturn, 1) := by decide +kernel
theorem dX3_put_0 : decode cX3_put 0 = .ok (.aload_n 0, 1) := by decide +kernel
theorem dX3_put_1 : decode cX3_put 1 = .ok (.aload_n 0, 1) := by decide +kernel
theorem dX3_put_2 : decode cX3_put 2 = .ok (.iload_n 1, 1) := by decide +kernel
theorem dX3_put_3 : decode cX3_put 3 = .ok (.iload_n 2, 1) := by decide +kernel
theorem dX3_put_4 : decode cX3_put 4 = .ok (.invokevirtual 51, 3) := by decide +kernel
theorem dX3_put_7 : decode cX3_put 7 = .ok (.ifCond .ne 7, 3) := by decide +kernel
theorem dX3_put_10 : decode cX3_put 10 = .ok (.iconst 1, 1) := by decide +kernel
theorem dX3_put_11 : decode cX3_put 11 = .ok (.goto 19, 3) := by decide +kernel
theorem dX3_put_14 : decode cX3_put 14 = .ok (.iload_n 3, 1) := by decide +kernel
theorem dX3_put_15 : decode cX3_put 15 = .ok (.iconst 0, 1) := by decide +kernel
theorem dX3_put_16 : decode cX3_put 16 = .ok (.sipush 1000, 3) := by decide +kernel
theorem dX3_put_19 : decode cX3_put 19 = .ok (.invokestatic 55, 3) := by decide +kernel
theorem dX3_put_22 : decode cX3_put 22 = .ok (.ifCond .eq 7, 3) := by decide +kernel
theorem dX3_put_25 : decode cX3_put 25 = .ok (.iconst 0, 1) := by decide +kernel
theorem dX3_put_26 : decode cX3_put 26 = .ok (.goto 4, 3) := by decide +kernel
theorem dX3_put_29 : decode cX3_put 29 = .ok (.iconst 2, 1) := by decide +kernel
theorem dX3_put_30 : decode cX3_put 30 = .ok (.putfield 48, 3) := by decide +kernel
theorem dX3_put_33 : decode cX3_put 33 = .ok (.aload_n 0, 1) := by decide +kernel
theorem dX3_put_34 : decode cX3_put 34 = .ok (.getfield 48, 3) := by decide +kernel
theorem dX3_put_37 : decode cX3_put 37 = .ok (.ifCond .gt 18, 3) := by decide +kernel
theorem dX3_put_40 : decode cX3_put 40 = .ok (.aload_n 0, 1) := by decide +kernel
theorem dX3_put_41 : decode cX3_put 41 = .ok (.getfield 7, 3) := by decide +kernel
theorem dX3_put_44 : decode cX3_put 44 = .ok (.bipush 20, 2) := by decide +kernel
theorem dX3_put_46 : decode cX3_put 46 = .ok (.iload_n 2, 1) := by decide +kernel
theorem dX3_put_47 : decode cX3_put 47 = .ok (.imul, 1) := by decide +kernel
theorem dX3_put_48 : decode cX3_put 48 = .ok (.iload_n 1, 1) := by decide +kernel
theorem dX3_put_49 : decode cX3_put 49 = .ok (.iadd, 1) := by decide +kernel
theorem dX3_put_50 : decode cX3_put 50 = .ok (.iaload, 1) := by decide +kernel
theorem dX3_put_51 : decode cX3_put 51 = .ok (.iload_n 3, 1) := by decide +kernel
theorem dX3_put_52 : decode cX3_put 52 = .ok (.if_icmp .ne 5, 3) := by decide +kernel
theorem dX3_put_55 : decode cX3_put 55 = .ok (.iconst 0, 1) := by decide +kernel
theorem dX3_put_56 : decode cX3_put 56 = .ok (.ireturn, 1) := by decide +kernel
theorem dX3_put_57 : decode cX3_put 57 = .ok (.aload_n 0, 1) := by decide +kernel
theorem dX3_put_58 : decode cX3_put 58 = .ok (.getfield 7, 3) := by decide +kernel
theorem dX3_put_61 : decode cX3_put 61 = .ok (.bipush 20, 2) := by decide +kernel
theorem dX3_put_63 : decode cX3_put 63 = .ok (.iload_n 2, 1) := by decide +kernel
theorem dX3_put_64 : decode cX3_put 64 = .ok (.imul, 1) := by decide +kernel
theorem dX3_put_65 : decode cX3_put 65 = .ok (.iload_n 1, 1) := by decide +kernel
theorem dX3_put_66 : decode cX3_put 66 = .ok (.iadd, 1) := by decide +kernel
theorem dX3_put_67 : decode cX3_put 67 = .ok (.iload_n 3, 1) := by decide +kernel
theorem dX3_put_68 : decode cX3_put 68 = .ok (.iastore, 1) := by decide +kernel
theorem dX3_put_69 : decode cX3_put 69 = .ok (.iconst 1, 1) := by decide +kernel
theorem dX3_put_70 : decode cX3_put 70 = .ok (.ireturn, 1) := by decide +kernel
theorem dX3_tool_0 : decode cX3_tool 0 = .ok (.aload_n 0, 1) := by decide +kernel
theorem dX3_tool_1 : decode cX3_tool 1 = .ok (.iload_n 1, 1) := by decide +kernel
theorem dX3_tool_2 : decode cX3_tool 2 = .ok (.iconst 0, 1) := by decide +kernel
theorem dX3_tool_3 : decode cX3_tool 3 = .ok (.iconst 3, 1) := by decide +kernel
theorem dX3_tool_4 : decode cX3_tool 4 = .ok (.invokestatic 55, 3) := by decide +kernel
theorem dX3_tool_7 : decode cX3_tool 7 = .ok (.ifCond .ne 7, 3) := by decide +kernel
theorem dX3_tool_10 : decode cX3_tool 10 = .ok (.iconst 1, 1) := by decide +kernel
theorem dX3_tool_11 : decode cX3_tool 11 = .ok (.goto 26, 3) := by decide +kernel
theorem dX3_tool_14 : decode cX3_tool 14 = .ok (.iload_n 2, 1) := by decide +kernel
theorem dX3_tool_15 : decode cX3_tool 15 = .ok (.iconst 0, 1) := by decide +kernel
theorem dX3_tool_16 : decode cX3_tool 16 = .ok (.iconst 2, 1) := by decide +kernel
theorem dX3_tool_17 : decode cX3_tool 17 = .ok (.invokestatic 55, 3) := by decide +kernel
theorem dX3_tool_20 : decode cX3_tool 20 = .ok (.ifCond .eq 16, 3) := by decide +kernel
theorem dX3_tool_23 : decode cX3_tool 23 = .ok (.iload_n 3, 1) := by decide +kernel
theorem dX3_tool_24 : decode cX3_tool 24 = .ok (.iconst 0, 1) := by decide +kernel
theorem dX3_tool_25 : decode cX3_tool 25 = .ok (.iconst 5, 1) := by decide +kernel
theorem dX3_tool_26 : decode cX3_tool 26 = .ok (.invokestatic 55, 3) := by decide +kernel
theorem dX3_tool_29 : decode cX3_tool 29 = .ok (.ifCond .eq 7, 3) := by decide +kernel
theorem dX3_tool_32 : decode cX3_tool 32 = .ok (.iconst 0, 1) := by decide +kernel
theorem dX3_tool_33 : decode cX3_tool 33 = .ok (.goto 4, 3) := by decide +kernel
theorem dX3_tool_36 : decode cX3_tool 36 = .ok (.iconst 2, 1) := by decide +kernel
theorem dX3_tool_37 : decode cX3_tool 37 = .ok (.putfield 48, 3) := by decide +kernel
theorem dX3_tool_40 : decode cX3_tool 40 = .ok (.aload_n 0, 1) := by decide +kernel
theorem dX3_tool_41 : decode cX3_tool 41 = .ok (.getfield 48, 3) := by decide +kernel
theorem dX3_tool_44 : decode cX3_tool 44 = .ok (.ifCond .gt 23, 3) := by decide +kernel
theorem dX3_tool_47 : decode cX3_tool 47 = .ok (.aload_n 0, 1) := by decide +kernel
theorem dX3_tool_48 : decode cX3_tool 48 = .ok (.getfield 23, 3) := by decide +kernel
theorem dX3_tool_51 : decode cX3_tool 51 = .ok (.iload_n 1, 1) := by decide +kernel
theorem dX3_tool_52 : decode cX3_tool 52 = .ok (.iaload, 1) := by decide +kernel
theorem dX3_tool_53 : decode cX3_tool 53 = .ok (.iload_n 2, 1) := by decide +kernel
theorem dX3_tool_54 : decode cX3_tool 54 = .ok (.if_icmp .ne 15, 3) := by decide +kernel
theorem dX3_tool_57 : decode cX3_tool 57 = .ok (.aload_n 0, 1) := by decide +kernel
theorem dX3_tool_58 : decode cX3_tool 58 = .ok (.getfield 26, 3) := by decide +kernel
theorem dX3_tool_61 : decode cX3_tool 61 = .ok (.iload_n 1, 1) := by decide +kernel
theorem dX3_tool_62 : decode cX3_tool 62 = .ok (.iaload, 1) := by decide +kernel
theorem dX3_tool_63 : decode cX3_tool 63 = .ok (.iload_n 3, 1) := by decide +kernel
theorem dX3_tool_64 : decode cX3_tool 64 = .ok (.if_icmp .ne 5, 3) := by decide +kernel
theorem dX3_tool_67 : decode cX3_tool 67 = .ok (.iconst 0, 1) := by decide +kernel
theorem dX3_tool_68 : decode cX3_tool 68 = .ok (.ireturn, 1) := by decide +kernel
theorem dX3_tool_69 : decode cX3_tool 69 = .ok (.aload_n 0, 1) := by decide +kernel
theorem dX3_tool_70 : decode cX3_tool 70 = .ok (.getfield 23, 3) := by decide +kernel
theorem dX3_tool_73 : decode cX3_tool 73 = .ok (.iload_n 1, 1) := by decide +kernel
theorem dX3_tool_74 : decode cX3_tool 74 = .ok (.iload_n 2, 1) := by decide +kernel
theorem dX3_tool_75 : decode cX3_tool 75 = .ok (.iastore, 1) := by decide +kernel
theorem dX3_tool_76 : decode cX3_tool 76 = .ok (.aload_n 0, 1) := by decide +kernel
theorem dX3_tool_77 : decode cX3_tool 77 = .ok (.getfield 26, 3) := by decide +kernel
theorem dX3_tool_80 : decode cX3_tool 80 = .ok (.iload_n 1, 1) := by decide +kernel
theorem dX3_tool_81 : decode cX3_tool 81 = .ok (.iload_n 3, 1) := by decide +kernel
theorem dX3_tool_82 : decode cX3_tool 82 = .ok (.iastore, 1) := by decide +kernel
theorem dX3_tool_83 : decode cX3_tool 83 = .ok (.iconst 1, 1) := by decide +kernel
theorem dX3_tool_84 : decode cX3_tool 84 = .ok (.ireturn, 1) := by decide +kernel
theorem dX3_greatest_0 : decode cX3_greatest 0 = .ok (.iconst 0, 1) := by decide +kernel
theorem dX3_greatest_1 : decode cX3_greatest 1 = .ok (.istore_n 1, 1) := by decide +kernel
theorem dX3_greatest_2 : decode cX3_greatest 2 = .ok (.iconst 0, 1) := by decide +kernel
theorem dX3_greatest_3 : decode cX3_greatest 3 = .ok (.istore_n 2, 1) := by decide +kernel
theorem dX3_greatest_4 : decode cX3_greatest 4 = .ok (.iload_n 2, 1) := by decide +kernel
theorem dX3_greatest_5 : decode cX3_greatest 5 = .ok (.aload_n 0, 1) := by decide +kernel
theorem dX3_greatest_6 : decode cX3_greatest 6 = .ok (.getfield 45, 3) := by decide +kernel
theorem dX3_greatest_9 : decode cX3_greatest 9 = .ok (.if_icmp .ge 56, 3) := by decide +kernel
theorem dX3_greatest_12 : decode cX3_greatest 12 = .ok (.iconst 0, 1) := by decide +kernel
theorem dX3_greatest_13 : decode cX3_greatest 13 = .ok (.istore_n 3, 1) := by decide +kernel
theorem dX3_greatest_14 : decode cX3_greatest 14 = .ok (.iload_n 3, 1) := by decide +kernel
theorem dX3_greatest_15 : decode cX3_greatest 15 = .ok (.aload_n 0, 1) := by decide +kernel
theorem dX3_greatest_16 : decode cX3_greatest 16 = .ok (.getfield 42, 3) := by decide +kernel
theorem dX3_greatest_19 : decode cX3_greatest 19 = .ok (.if_icmp .ge 40, 3) := by decide +kernel
theorem dX3_greatest_22 : decode cX3_greatest 22 = .ok (.aload_n 0, 1) := by decide +kernel
theorem dX3_greatest_23 : decode cX3_greatest 23 = .ok (.getfield 7, 3) := by decide +kernel
theorem dX3_greatest_26 : decode cX3_greatest 26 = .ok (.bipush 20, 2) := by decide +kernel
theorem dX3_greatest_28 : decode cX3_greatest 28 = .ok (.iload_n 2, 1) := by decide +kernel
theorem dX3_greatest_29 : decode cX3_greatest 29 = .ok (.imul, 1) := by decide +kernel
theorem dX3_greatest_30 : decode cX3_greatest 30 = .ok (.iload_n 3, 1) := by decide +kernel
theorem dX3_greatest_31 : decode cX3_greatest 31 = .ok (.iadd, 1) := by decide +kernel
theorem dX3_greatest_32 : decode cX3_greatest 32 = .ok (.iaload, 1) := by decide +kernel
theorem dX3_greatest_33 : decode cX3_greatest 33 = .ok (.iload_n 1, 1) := by decide +kernel
theorem dX3_greatest_34 : decode cX3_greatest 34 = .ok (.if_icmp .le 17, 3) := by decide +kernel
theorem dX3_greatest_37 : decode cX3_greatest 37 = .ok (.aload_n 0, 1) := by decide +kernel
theorem dX3_greatest_38 : decode cX3_greatest 38 = .ok (.getfield 7, 3) := by decide +kernel
theorem dX3_greatest_41 : decode cX3_greatest 41 = .ok (.bipush 20, 2) := by decide +kernel
theorem dX3_greatest_43 : decode cX3_greatest 43 = .ok (.iload_n 2, 1) := by decide +kernel
theorem dX3_greatest_44 : decode cX3_greatest 44 = .ok (.imul, 1) := by decide +kernel
theorem dX3_greatest_45 : decode cX3_greatest 45 = .ok (.iload_n 3, 1) := by decide +kernel
theorem dX3_greatest_46 : decode cX3_greatest 46 = .ok (.iadd, 1) := by decide +kernel
theorem dX3_greatest_47 : decode cX3_greatest 47 = .ok (.iaload, 1) := by decide +kernel
theorem dX3_greatest_48 : decode cX3_greatest 48 = .ok (.goto 4, 3) := by decide +kernel
theorem dX3_greatest_51 : decode cX3_greatest 51 = .ok (.iload_n 1, 1) := by decide +kernel
theorem dX3_greatest_52 : decode cX3_greatest 52 = .ok (.istore_n 1, 1) := by decide +kernel
theorem dX3_greatest_53 : decode cX3_greatest 53 = .ok (.iinc 3 1, 3) := by decide +kernel
theorem dX3_greatest_56 : decode cX3_greatest 56 = .ok (.goto (-42), 3) := by decide +kernel
theorem dX3_greatest_59 : decode cX3_greatest 59 = .ok (.iinc 2 1, 3) := by decide +kernel
theorem dX3_greatest_62 : decode cX3_greatest 62 = .ok (.goto (-58), 3) := by decide +kernel
theorem dX3_greatest_65 : decode cX3_greatest 65 = .ok (.iload_n 1, 1) := by decide +kernel
theorem dX3_greatest_66 : decode cX3_greatest 66 = .ok (.ireturn, 1) := by decide +kernel
theorem dX3_stock_0 : decode cX3_stock 0 = .ok (.aload_n 0, 1) := by decide +kernel
theorem dX3_stock_1 : decode cX3_stock 1 = .ok (.iload_n 1, 1) := by decide +kernel
theorem dX3_stock_2 : decode cX3_stock 2 = .ok (.iconst 1, 1) := by decide +kernel
theorem dX3_stock_3 : decode cX3_stock 3 = .ok (.sipush 1000, 3) := by decide +kernel
theorem dX3_stock_6 : decode cX3_stock 6 = .ok (.invokestatic 55, 3) := by decide +kernel
theorem dX3_stock_9 : decode cX3_stock 9 = .ok (.ifCond .ne 7, 3) := by decide +kernel
theorem dX3_stock_12 : decode cX3_stock 12 = .ok (.iconst 1, 1) := by decide +kernel
theorem dX3_stock_13 : decode cX3_stock 13 = .ok (.goto 16, 3) := by decide +kernel
theorem dX3_stock_16 : decode cX3_stock 16 = .ok (.aload_n 0, 1) := by decide +kernel
theorem dX3_stock_17 : decode cX3_stock 17 = .ok (.invokevirtual 59, 3) := by decide +kernel
theorem dX3_stock_20 : decode cX3_stock 20 = .ok (.iload_n 1, 1) := by decide +kernel
theorem dX3_stock_21 : decode cX3_stock 21 = .ok (.if_icmp .le 7, 3) := by decide +kernel
theorem dX3_stock_24 : decode cX3_stock 24 = .ok (.iconst 2, 1) := by decide +kernel
theorem dX3_stock_25 : decode cX3_stock 25 = .ok (.goto 4, 3) := by decide +kernel
theorem dX3_stock_28 : decode cX3_stock 28 = .ok (.iconst 0, 1) := by decide +kernel
theorem dX3_stock_29 : decode cX3_stock 29 = .ok (.putfield 48, 3) := by decide +kernel
theorem dX3_stock_32 : decode cX3_stock 32 = .ok (.aload_n 0, 1) := by decide +kernel
theorem dX3_stock_33 : decode cX3_stock 33 = .ok (.getfield 48, 3) := by decide +kernel
theorem dX3_stock_36 : decode cX3_stock 36 = .ok (.ifCond .le 5, 3) := by decide +kernel
theorem dX3_stock_39 : decode cX3_stock 39 = .ok (.iconst 0, 1) := by decide +kernel
theorem dX3_stock_40 : decode cX3_stock 40 = .ok (.ireturn, 1) := by decide +kernel
theorem dX3_stock_41 : decode cX3_stock 41 = .ok (.aload_n 0, 1) := by decide +kernel
theorem dX3_stock_42 : decode cX3_stock 42 = .ok (.iload_n 1, 1) := by decide +kernel
theorem dX3_stock_43 : decode cX3_stock 43 = .ok (.putfield 19, 3) := by decide +kernel
theorem dX3_stock_46 : decode cX3_stock 46 = .ok (.iconst 0, 1) := by decide +kernel
theorem dX3_stock_47 : decode cX3_stock 47 = .ok (.istore_n 2, 1) := by decide +kernel
theorem dX3_stock_48 : decode cX3_stock 48 = .ok (.iload_n 2, 1) := by decide +kernel
theorem dX3_stock_49 : decode cX3_stock 49 = .ok (.sipush 400, 3) := by decide +kernel
theorem dX3_stock_52 : decode cX3_stock 52 = .ok (.if_icmp .ge 16, 3) := by decide +kernel
theorem dX3_stock_55 : decode cX3_stock 55 = .ok (.aload_n 0, 1) := by decide +kernel
theorem dX3_stock_56 : decode cX3_stock 56 = .ok (.getfield 13, 3) := by decide +kernel
theorem dX3_stock_59 : decode cX3_stock 59 = .ok (.iload_n 2, 1) := by decide +kernel
theorem dX3_stock_60 : decode cX3_stock 60 = .ok (.iload_n 1, 1) := by decide +kernel
theorem dX3_stock_61 : decode cX3_stock 61 = .ok (.iastore, 1) := by decide +kernel
theorem dX3_stock_62 : decode cX3_stock 62 = .ok (.iinc 2 1, 3) := by decide +kernel
theorem dX3_stock_65 : decode cX3_stock 65 = .ok (.goto (-17), 3) := by decide +kernel
theorem dX3_stock_68 : decode cX3_stock 68 = .ok (.aload_n 0, 1) := by decide +kernel
theorem dX3_stock_69 : decode cX3_stock 69 = .ok (.invokevirtual 59, 3) := by decide +kernel
theorem dX3_stock_72 : decode cX3_stock 72 = .ok (.ireturn, 1) := by decide +kernel
theorem dX3_profileOf_0 : decode cX3_profileOf 0 = .ok (.aload_n 0, 1) := by decide +kernel
theorem dX3_profileOf_1 : decode cX3_profileOf 1 = .ok (.getfield 26, 3) := by decide +kernel
theorem dX3_profileOf_4 : decode cX3_profileOf 4 = .ok (.iload_n 1, 1) := by decide +kernel
theorem dX3_profileOf_5 : decode cX3_profileOf 5 = .ok (.iaload, 1) := by decide +kernel
theorem dX3_profileOf_6 : decode cX3_profileOf 6 = .ok (.istore 4, 2) := by decide +kernel
theorem dX3_profileOf_8 : decode cX3_profileOf 8 = .ok (.iload_n 2, 1) := by decide +kernel
theorem dX3_profileOf_9 : decode cX3_profileOf 9 = .ok (.iload 4, 2) := by decide +kernel
theorem dX3_profileOf_11 : decode cX3_profileOf 11 = .ok (.ineg, 1) := by decide +kernel
theorem dX3_profileOf_12 : decode cX3_profileOf 12 = .ok (.iload 4, 2) := by decide +kernel
theorem dX3_profileOf_14 : decode cX3_profileOf 14 = .ok (.invokestatic 55, 3) := by decide +kernel
theorem dX3_profileOf_17 : decode cX3_profileOf 17 = .ok (.ifCond .eq 30, 3) := by decide +kernel
theorem dX3_profileOf_20 : decode cX3_profileOf 20 = .ok (.iload_n 3, 1) := by decide +kernel
theorem dX3_profileOf_21 : decode cX3_profileOf 21 = .ok (.iload 4, 2) := by decide +kernel
theorem dX3_profileOf_23 : decode cX3_profileOf 23 = .ok (.ineg, 1) := by decide +kernel
theorem dX3_profileOf_24 : decode cX3_profileOf 24 = .ok (.iload 4, 2) := by decide +kernel
theorem dX3_profileOf_26 : decode cX3_profileOf 26 = .ok (.invokestatic 55, 3) := by decide +kernel
theorem dX3_profileOf_29 : decode cX3_profileOf 29 = .ok (.ifCond .eq 18, 3) := by decide +kernel
theorem dX3_profileOf_32 : decode cX3_profileOf 32 = .ok (.iload_n 2, 1) := by decide +kernel
theorem dX3_profileOf_33 : decode cX3_profileOf 33 = .ok (.iload_n 2, 1) := by decide +kernel
theorem dX3_profileOf_34 : decode cX3_profileOf 34 = .ok (.imul, 1) := by decide +kernel
theorem dX3_profileOf_35 : decode cX3_profileOf 35 = .ok (.iload_n 3, 1) := by decide +kernel
theorem dX3_profileOf_36 : decode cX3_profileOf 36 = .ok (.iload_n 3, 1) := by decide +kernel
theorem dX3_profileOf_37 : decode cX3_profileOf 37 = .ok (.imul, 1) := by decide +kernel
theorem dX3_profileOf_38 : decode cX3_profileOf 38 = .ok (.iadd, 1) := by decide +kernel
theorem dX3_profileOf_39 : decode cX3_profileOf 39 = .ok (.iload 4, 2) := by decide +kernel
theorem dX3_profileOf_41 : decode cX3_profileOf 41 = .ok (.iload 4, 2) := by decide +kernel
theorem dX3_profileOf_43 : decode cX3_profileOf 43 = .ok (.imul, 1) := by decide +kernel
theorem dX3_profileOf_44 : decode cX3_profileOf 44 = .ok (.if_icmp .le 5, 3) := by decide +kernel
theorem dX3_profileOf_47 : decode cX3_profileOf 47 = .ok (.iconst (-1), 1) := by decide +kernel
theorem dX3_profileOf_48 : decode cX3_profileOf 48 = .ok (.ireturn, 1) := by decide +kernel
theorem dX3_profileOf_49 : decode cX3_profileOf 49 = .ok (.iload_n 2, 1) := by decide +kernel
theorem dX3_profileOf_50 : decode cX3_profileOf 50 = .ok (.iload_n 2, 1) := by decide +kernel
theorem dX3_profileOf_51 : decode cX3_profileOf 51 = .ok (.imul, 1) := by decide +kernel
theorem dX3_profileOf_52 : decode cX3_profileOf 52 = .ok (.iload_n 3, 1) := by decide +kernel
theorem dX3_profileOf_53 : decode cX3_profileOf 53 = .ok (.iload_n 3, 1) := by decide +kernel
theorem dX3_profileOf_54 : decode cX3_profileOf 54 = .ok (.imul, 1) := by decide +kernel
theorem dX3_profileOf_55 : decode cX3_profileOf 55 = .ok (.iadd, 1) := by decide +kernel
theorem dX3_profileOf_56 : decode cX3_profileOf 56 = .ok (.istore 5, 2) := by decide +kernel
theorem dX3_profileOf_58 : decode cX3_profileOf 58 = .ok (.aload_n 0, 1) := by decide +kernel
theorem dX3_profileOf_59 : decode cX3_profileOf 59 = .ok (.getfield 23, 3) := by decide +kernel
theorem dX3_profileOf_62 : decode cX3_profileOf 62 = .ok (.iload_n 1, 1) := by decide +kernel
theorem dX3_profileOf_63 : decode cX3_profileOf 63 = .ok (.iaload, 1) := by decide +kernel
theorem dX3_profileOf_64 : decode cX3_profileOf 64 = .ok (.ifCond .ne 5, 3) := by decide +kernel
theorem dX3_profileOf_67 : decode cX3_profileOf 67 = .ok (.iconst 0, 1) := by decide +kernel
theorem dX3_profileOf_68 : decode cX3_profileOf 68 = .ok (.ireturn, 1) := by decide +kernel
theorem dX3_profileOf_69 : decode cX3_profileOf 69 = .ok (.iconst 0, 1) := by decide +kernel
theorem dX3_profileOf_70 : decode cX3_profileOf 70 = .ok (.istore 6, 2) := by decide +kernel
theorem dX3_profileOf_72 : decode cX3_profileOf 72 = .ok (.aload_n 0, 1) := by decide +kernel
theorem dX3_profileOf_73 : decode cX3_profileOf 73 = .ok (.getfield 23, 3) := by decide +kernel
theorem dX3_profileOf_76 : decode cX3_profileOf 76 = .ok (.iload_n 1, 1) := by decide +kernel
theorem dX3_profileOf_77 : decode cX3_profileOf 77 = .ok (.iaload, 1) := by decide +kernel
theorem dX3_profileOf_78 : decode cX3_profileOf 78 = .ok (.iconst 2, 1) := by decide +kernel
theorem dX3_profileOf_79 : decode cX3_profileOf 79 = .ok (.if_icmp .ne 22, 3) := by decide +kernel
theorem dX3_profileOf_82 : decode cX3_profileOf 82 = .ok (.iload 6, 2) := by decide +kernel
theorem dX3_profileOf_84 : decode cX3_profileOf 84 = .ok (.iload 6, 2) := by decide +kernel
theorem dX3_profileOf_86 : decode cX3_profileOf 86 = .ok (.imul, 1) := by decide +kernel
theorem dX3_profileOf_87 : decode cX3_profileOf 87 = .ok (.iload 5, 2) := by decide +kernel
theorem dX3_profileOf_89 : decode cX3_profileOf 89 = .ok (.if_icmp .ge 9, 3) := by decide +kernel
theorem dX3_profileOf_92 : decode cX3_profileOf 92 = .ok (.iinc 6 1, 3) := by decide +kernel
theorem dX3_profileOf_95 : decode cX3_profileOf 95 = .ok (.goto (-13), 3) := by decide +kernel
theorem dX3_profileOf_98 : decode cX3_profileOf 98 = .ok (.iload 6, 2) := by decide +kernel
theorem dX3_profileOf_100 : decode cX3_profileOf 100 = .ok (.ireturn, 1) := by decide +kernel
theorem dX3_profileOf_101 : decode cX3_profileOf 101 = .ok (.iload 6, 2) := by decide +kernel
theorem dX3_profileOf_103 : decode cX3_profileOf 103 = .ok (.iconst 1, 1) := by decide +kernel
theorem dX3_profileOf_104 : decode cX3_profileOf 104 = .ok (.iadd, 1) := by decide +kernel
theorem dX3_profileOf_105 : decode cX3_profileOf 105 = .ok (.iload 6, 2) := by decide +kernel
theorem dX3_profileOf_107 : decode cX3_profileOf 107 = .ok (.iconst 1, 1) := by decide +kernel
theorem dX3_profileOf_108 : decode cX3_profileOf 108 = .ok (.iadd, 1) := by decide +kernel
theorem dX3_profileOf_109 : decode cX3_profileOf 109 = .ok (.imul, 1) := by decide +kernel
theorem dX3_profileOf_110 : decode cX3_profileOf 110 = .ok (.iload 4, 2) := by decide +kernel
theorem dX3_profileOf_112 : decode cX3_profileOf 112 = .ok (.iload 4, 2) := by decide +kernel
theorem dX3_profileOf_114 : decode cX3_profileOf 114 = .ok (.imul, 1) := by decide +kernel
theorem dX3_profileOf_115 : decode cX3_profileOf 115 = .ok (.iload 5, 2) := by decide +kernel
theorem dX3_profileOf_117 : decode cX3_profileOf 117 = .ok (.isub, 1) := by decide +kernel
theorem dX3_profileOf_118 : decode cX3_profileOf 118 = .ok (.if_icmp .gt 9, 3) := by decide +kernel
theorem dX3_profileOf_121 : decode cX3_profileOf 121 = .ok (.iinc 6 1, 3) := by decide +kernel
theorem dX3_profileOf_124 : decode cX3_profileOf 124 = .ok (.goto (-23), 3) := by decide +kernel
theorem dX3_profileOf_127 : decode cX3_profileOf 127 = .ok (.iload 4, 2) := by decide +kernel
theorem dX3_profileOf_129 : decode cX3_profileOf 129 = .ok (.iload 6, 2) := by decide +kernel
theorem dX3_profileOf_131 : decode cX3_profileOf 131 = .ok (.isub, 1) := by decide +kernel
theorem dX3_profileOf_132 : decode cX3_profileOf 132 = .ok (.ireturn, 1) := by decide +kernel
theorem dX3_profile_0 : decode cX3_profile 0 = .ok (.aload_n 0, 1) := by decide +kernel
theorem dX3_profile_1 : decode cX3_profile 1 = .ok (.iload_n 1, 1) := by decide +kernel
theorem dX3_profile_2 : decode cX3_profile 2 = .ok (.iconst 0, 1) := by decide +kernel
theorem dX3_profile_3 : decode cX3_profile 3 = .ok (.iconst 3, 1) := by decide +kernel
theorem dX3_profile_4 : decode cX3_profile 4 = .ok (.invokestatic 55, 3) := by decide +kernel
theorem dX3_profile_7 : decode cX3_profile 7 = .ok (.ifCond .eq 7, 3) := by decide +kernel
theorem dX3_profile_10 : decode cX3_profile 10 = .ok (.iconst 0, 1) := by decide +kernel
theorem dX3_profile_11 : decode cX3_profile 11 = .ok (.goto 4, 3) := by decide +kernel
theorem dX3_profile_14 : decode cX3_profile 14 = .ok (.iconst 1, 1) := by decide +kernel
theorem dX3_profile_15 : decode cX3_profile 15 = .ok (.putfield 48, 3) := by decide +kernel
theorem dX3_profile_18 : decode cX3_profile 18 = .ok (.aload_n 0, 1) := by decide +kernel
theorem dX3_profile_19 : decode cX3_profile 19 = .ok (.getfield 48, 3) := by decide +kernel
theorem dX3_profile_22 : decode cX3_profile 22 = .ok (.ifCond .le 7, 3) := by decide +kernel
theorem dX3_profile_25 : decode cX3_profile 25 = .ok (.iconst 0, 1) := by decide +kernel
theorem dX3_profile_26 : decode cX3_profile 26 = .ok (.goto 10, 3) := by decide +kernel
theorem dX3_profile_29 : decode cX3_profile 29 = .ok (.aload_n 0, 1) := by decide +kernel
theorem dX3_profile_30 : decode cX3_profile 30 = .ok (.iload_n 1, 1) := by decide +kernel
theorem dX3_profile_31 : decode cX3_profile 31 = .ok (.iload_n 2, 1) := by decide +kernel
theorem dX3_profile_32 : decode cX3_profile 32 = .ok (.iload_n 3, 1) := by decide +kernel
theorem dX3_profile_33 : decode cX3_profile 33 = .ok (.invokevirtual 63, 3) := by decide +kernel
theorem dX3_profile_36 : decode cX3_profile 36 = .ok (.ireturn, 1) := by decide +kernel
theorem dX3_liftOf_0 : decode cX3_liftOf 0 = .ok (.iconst (-1), 1) := by decide +kernel
theorem dX3_liftOf_1 : decode cX3_liftOf 1 = .ok (.istore 4, 2) := by decide +kernel
theorem dX3_liftOf_3 : decode cX3_liftOf 3 = .ok (.aload_n 0, 1) := by decide +kernel
theorem dX3_liftOf_4 : decode cX3_liftOf 4 = .ok (.getfield 26, 3) := by decide +kernel
theorem dX3_liftOf_7 : decode cX3_liftOf 7 = .ok (.iload_n 3, 1) := by decide +kernel
theorem dX3_liftOf_8 : decode cX3_liftOf 8 = .ok (.iaload, 1) := by decide +kernel
theorem dX3_liftOf_9 : decode cX3_liftOf 9 = .ok (.istore 5, 2) := by decide +kernel
theorem dX3_liftOf_11 : decode cX3_liftOf 11 = .ok (.iload_n 2, 1) := by decide +kernel
theorem dX3_liftOf_12 : decode cX3_liftOf 12 = .ok (.iload 5, 2) := by decide +kernel
theorem dX3_liftOf_14 : decode cX3_liftOf 14 = .ok (.if_icmp .ge 7, 3) := by decide +kernel
theorem dX3_liftOf_17 : decode cX3_liftOf 17 = .ok (.iconst 0, 1) := by decide +kernel
theorem dX3_liftOf_18 : decode cX3_liftOf 18 = .ok (.goto 7, 3) := by decide +kernel
theorem dX3_liftOf_21 : decode cX3_liftOf 21 = .ok (.iload_n 2, 1) := by decide +kernel
theorem dX3_liftOf_22 : decode cX3_liftOf 22 = .ok (.iload 5, 2) := by decide +kernel
theorem dX3_liftOf_24 : decode cX3_liftOf 24 = .ok (.isub, 1) := by decide +kernel
theorem dX3_liftOf_25 : decode cX3_liftOf 25 = .ok (.istore 6, 2) := by decide +kernel
theorem dX3_liftOf_27 : decode cX3_liftOf 27 = .ok (.iload 6, 2) := by decide +kernel
theorem dX3_liftOf_29 : decode cX3_liftOf 29 = .ok (.aload_n 0, 1) := by decide +kernel
theorem dX3_liftOf_30 : decode cX3_liftOf 30 = .ok (.getfield 45, 3) := by decide +kernel
theorem dX3_liftOf_33 : decode cX3_liftOf 33 = .ok (.if_icmp .ge 122, 3) := by decide +kernel
theorem dX3_liftOf_36 : decode cX3_liftOf 36 = .ok (.iload 6, 2) := by decide +kernel
theorem dX3_liftOf_38 : decode cX3_liftOf 38 = .ok (.iload_n 2, 1) := by decide +kernel
theorem dX3_liftOf_39 : decode cX3_liftOf 39 = .ok (.iload 5, 2) := by decide +kernel
theorem dX3_liftOf_41 : decode cX3_liftOf 41 = .ok (.iadd, 1) := by decide +kernel
theorem dX3_liftOf_42 : decode cX3_liftOf 42 = .ok (.if_icmp .gt 113, 3) := by decide +kernel
theorem dX3_liftOf_45 : decode cX3_liftOf 45 = .ok (.iload_n 1, 1) := by decide +kernel
theorem dX3_liftOf_46 : decode cX3_liftOf 46 = .ok (.iload 5, 2) := by decide +kernel
theorem dX3_liftOf_48 : decode cX3_liftOf 48 = .ok (.if_icmp .ge 7, 3) := by decide +kernel
theorem dX3_liftOf_51 : decode cX3_liftOf 51 = .ok (.iconst 0, 1) := by decide +kernel
theorem dX3_liftOf_52 : decode cX3_liftOf 52 = .ok (.goto 7, 3) := by decide +kernel
theorem dX3_liftOf_55 : decode cX3_liftOf 55 = .ok (.iload_n 1, 1) := by decide +kernel
theorem dX3_liftOf_56 : decode cX3_liftOf 56 = .ok (.iload 5, 2) := by decide +kernel
theorem dX3_liftOf_58 : decode cX3_liftOf 58 = .ok (.isub, 1) := by decide +kernel
theorem dX3_liftOf_59 : decode cX3_liftOf 59 = .ok (.istore 7, 2) := by decide +kernel
theorem dX3_liftOf_61 : decode cX3_liftOf 61 = .ok (.iload 7, 2) := by decide +kernel
theorem dX3_liftOf_63 : decode cX3_liftOf 63 = .ok (.aload_n 0, 1) := by decide +kernel
theorem dX3_liftOf_64 : decode cX3_liftOf 64 = .ok (.getfield 42, 3) := by decide +kernel
theorem dX3_liftOf_67 : decode cX3_liftOf 67 = .ok (.if_icmp .ge 82, 3) := by decide +kernel
theorem dX3_liftOf_70 : decode cX3_liftOf 70 = .ok (.iload 7, 2) := by decide +kernel
theorem dX3_liftOf_72 : decode cX3_liftOf 72 = .ok (.iload_n 1, 1) := by decide +kernel
theorem dX3_liftOf_73 : decode cX3_liftOf 73 = .ok (.iload 5, 2) := by decide +kernel
theorem dX3_liftOf_75 : decode cX3_liftOf 75 = .ok (.iadd, 1) := by decide +kernel
theorem dX3_liftOf_76 : decode cX3_liftOf 76 = .ok (.if_icmp .gt 73, 3) := by decide +kernel
theorem dX3_liftOf_79 : decode cX3_liftOf 79 = .ok (.aload_n 0, 1) := by decide +kernel
theorem dX3_liftOf_80 : decode cX3_liftOf 80 = .ok (.iload_n 3, 1) := by decide +kernel
theorem dX3_liftOf_81 : decode cX3_liftOf 81 = .ok (.iload 7, 2) := by decide +kernel
theorem dX3_liftOf_83 : decode cX3_liftOf 83 = .ok (.iload_n 1, 1) := by decide +kernel
theorem dX3_liftOf_84 : decode cX3_liftOf 84 = .ok (.isub, 1) := by decide +kernel
theorem dX3_liftOf_85 : decode cX3_liftOf 85 = .ok (.iload 6, 2) := by decide +kernel
theorem dX3_liftOf_87 : decode cX3_liftOf 87 = .ok (.iload_n 2, 1) := by decide +kernel
theorem dX3_liftOf_88 : decode cX3_liftOf 88 = .ok (.isub, 1) := by decide +kernel
theorem dX3_liftOf_89 : decode cX3_liftOf 89 = .ok (.invokevirtual 63, 3) := by decide +kernel
theorem dX3_liftOf_92 : decode cX3_liftOf 92 = .ok (.istore 8, 2) := by decide +kernel
theorem dX3_liftOf_94 : decode cX3_liftOf 94 = .ok (.iload 8, 2) := by decide +kernel
theorem dX3_liftOf_96 : decode cX3_liftOf 96 = .ok (.ifCond .lt 43, 3) := by decide +kernel
theorem dX3_liftOf_99 : decode cX3_liftOf 99 = .ok (.aload_n 0, 1) := by decide +kernel
theorem dX3_liftOf_100 : decode cX3_liftOf 100 = .ok (.getfield 7, 3) := by decide +kernel
theorem dX3_liftOf_103 : decode cX3_liftOf 103 = .ok (.bipush 20, 2) := by decide +kernel
theorem dX3_liftOf_105 : decode cX3_liftOf 105 = .ok (.iload 6, 2) := by decide +kernel
theorem dX3_liftOf_107 : decode cX3_liftOf 107 = .ok (.imul, 1) := by decide +kernel
theorem dX3_liftOf_108 : decode cX3_liftOf 108 = .ok (.iload 7, 2) := by decide +kernel
theorem dX3_liftOf_110 : decode cX3_liftOf 110 = .ok (.iadd, 1) := by decide +kernel
theorem dX3_liftOf_111 : decode cX3_liftOf 111 = .ok (.iaload, 1) := by decide +kernel
theorem dX3_liftOf_112 : decode cX3_liftOf 112 = .ok (.iload 8, 2) := by decide +kernel
theorem dX3_liftOf_114 : decode cX3_liftOf 114 = .ok (.isub, 1) := by decide +kernel
theorem dX3_liftOf_115 : decode cX3_liftOf 115 = .ok (.iload 4, 2) := by decide +kernel
theorem dX3_liftOf_117 : decode cX3_liftOf 117 = .ok (.if_icmp .le 22, 3) := by decide +kernel
theorem dX3_liftOf_120 : decode cX3_liftOf 120 = .ok (.aload_n 0, 1) := by decide +kernel
theorem dX3_liftOf_121 : decode cX3_liftOf 121 = .ok (.getfield 7, 3) := by decide +kernel
theorem dX3_liftOf_124 : decode cX3_liftOf 124 = .ok (.bipush 20, 2) := by decide +kernel
theorem dX3_liftOf_126 : decode cX3_liftOf 126 = .ok (.iload 6, 2) := by decide +kernel
theorem dX3_liftOf_128 : decode cX3_liftOf 128 = .ok (.imul, 1) := by decide +kernel
theorem dX3_liftOf_129 : decode cX3_liftOf 129 = .ok (.iload 7, 2) := by decide +kernel
theorem dX3_liftOf_131 : decode cX3_liftOf 131 = .ok (.iadd, 1) := by decide +kernel
theorem dX3_liftOf_132 : decode cX3_liftOf 132 = .ok (.iaload, 1) := by decide +kernel
theorem dX3_liftOf_133 : decode cX3_liftOf 133 = .ok (.iload 8, 2) := by decide +kernel
theorem dX3_liftOf_135 : decode cX3_liftOf 135 = .ok (.isub, 1) := by decide +kernel
theorem dX3_liftOf_136 : decode cX3_liftOf 136 = .ok (.goto 5, 3) := by decide +kernel
theorem dX3_liftOf_139 : decode cX3_liftOf 139 = .ok (.iload 4, 2) := by decide +kernel
theorem dX3_liftOf_141 : decode cX3_liftOf 141 = .ok (.istore 4, 2) := by decide +kernel
theorem dX3_liftOf_143 : decode cX3_liftOf 143 = .ok (.iinc 7 1, 3) := by decide +kernel
theorem dX3_liftOf_146 : decode cX3_liftOf 146 = .ok (.goto (-85), 3) := by decide +kernel
theorem dX3_liftOf_149 : decode cX3_liftOf 149 = .ok (.iinc 6 1, 3) := by decide +kernel
theorem dX3_liftOf_152 : decode cX3_liftOf 152 = .ok (.goto (-125), 3) := by decide +kernel
theorem dX3_liftOf_155 : decode cX3_liftOf 155 = .ok (.iload 4, 2) := by decide +kernel
theorem dX3_liftOf_157 : decode cX3_liftOf 157 = .ok (.ireturn, 1) := by decide +kernel
theorem dX3_lift_0 : decode cX3_lift 0 = .ok (.aload_n 0, 1) := by decide +kernel
theorem dX3_lift_1 : decode cX3_lift 1 = .ok (.aload_n 0, 1) := by decide +kernel
theorem dX3_lift_2 : decode cX3_lift 2 = .ok (.iload_n 1, 1) := by decide +kernel
theorem dX3_lift_3 : decode cX3_lift 3 = .ok (.iload_n 2, 1) := by decide +kernel
theorem dX3_lift_4 : decode cX3_lift 4 = .ok (.invokevirtual 51, 3) := by decide +kernel
theorem dX3_lift_7 : decode cX3_lift 7 = .ok (.ifCond .eq 16, 3) := by decide +kernel
theorem dX3_lift_10 : decode cX3_lift 10 = .ok (.iload_n 3, 1) := by decide +kernel
theorem dX3_lift_11 : decode cX3_lift 11 = .ok (.iconst 0, 1) := by decide +kernel
theorem dX3_lift_12 : decode cX3_lift 12 = .ok (.iconst 3, 1) := by decide +kernel
theorem dX3_lift_13 : decode cX3_lift 13 = .ok (.invokestatic 55, 3) := by decide +kernel
theorem dX3_lift_16 : decode cX3_lift 16 = .ok (.ifCond .eq 7, 3) := by decide +kernel
theorem dX3_lift_19 : decode cX3_lift 19 = .ok (.iconst 0, 1) := by decide +kernel
theorem dX3_lift_20 : decode cX3_lift 20 = .ok (.goto 4, 3) := by decide +kernel
theorem dX3_lift_23 : decode cX3_lift 23 = .ok (.iconst 1, 1) := by decide +kernel
theorem dX3_lift_24 : decode cX3_lift 24 = .ok (.putfield 48, 3) := by decide +kernel
theorem dX3_lift_27 : decode cX3_lift 27 = .ok (.aload_n 0, 1) := by decide +kernel
theorem dX3_lift_28 : decode cX3_lift 28 = .ok (.getfield 48, 3) := by decide +kernel
theorem dX3_lift_31 : decode cX3_lift 31 = .ok (.ifCond .le 7, 3) := by decide +kernel
theorem dX3_lift_34 : decode cX3_lift 34 = .ok (.iconst 0, 1) := by decide +kernel
theorem dX3_lift_35 : decode cX3_lift 35 = .ok (.goto 10, 3) := by decide +kernel
theorem dX3_lift_38 : decode cX3_lift 38 = .ok (.aload_n 0, 1) := by decide +kernel
theorem dX3_lift_39 : decode cX3_lift 39 = .ok (.iload_n 1, 1) := by decide +kernel
theorem dX3_lift_40 : decode cX3_lift 40 = .ok (.iload_n 2, 1) := by decide +kernel
theorem dX3_lift_41 : decode cX3_lift 41 = .ok (.iload_n 3, 1) := by decide +kernel
theorem dX3_lift_42 : decode cX3_lift 42 = .ok (.invokevirtual 67, 3) := by decide +kernel
theorem dX3_lift_45 : decode cX3_lift 45 = .ok (.ireturn, 1) := by decide +kernel
theorem dX3_size_0 : decode cX3_size 0 = .ok (.iload_n 0, 1) := by decide +kernel
theorem dX3_size_1 : decode cX3_size 1 = .ok (.ifCond .ge 8, 3) := by decide +kernel
theorem dX3_size_4 : decode cX3_size 4 = .ok (.iload_n 0, 1) := by decide +kernel
theorem dX3_size_5 : decode cX3_size 5 = .ok (.ineg, 1) := by decide +kernel
theorem dX3_size_6 : decode cX3_size 6 = .ok (.goto 4, 3) := by decide +kernel
theorem dX3_size_9 : decode cX3_size 9 = .ok (.iload_n 0, 1) := by decide +kernel
theorem dX3_size_10 : decode cX3_size 10 = .ok (.ireturn, 1) := by decide +kernel
theorem dX3_begin_0 : decode cX3_begin 0 = .ok (.aload_n 0, 1) := by decide +kernel
theorem dX3_begin_1 : decode cX3_begin 1 = .ok (.iconst 0, 1) := by decide +kernel
theorem dX3_begin_2 : decode cX3_begin 2 = .ok (.putfield 70, 3) := by decide +kernel
theorem dX3_begin_5 : decode cX3_begin 5 = .ok (.aload_n 0, 1) := by decide +kernel
theorem dX3_begin_6 : decode cX3_begin 6 = .ok (.lconst 0, 1) := by decide +kernel
theorem dX3_begin_7 : decode cX3_begin 7 = .ok (.putfield 73, 3) := by decide +kernel
theorem dX3_begin_10 : decode cX3_begin 10 = .ok (.return_, 1) := by decide +kernel
theorem dX3_move3_0 : decode cX3_move3 0 = .ok (.aload_n 0, 1) := by decide +kernel
theorem dX3_move3_1 : decode cX3_move3 1 = .ok (.getfield 29, 3) := by decide +kernel
theorem dX3_move3_4 : decode cX3_move3 4 = .ok (.bipush 20, 2) := by decide +kernel
theorem dX3_move3_6 : decode cX3_move3 6 = .ok (.iload_n 2, 1) := by decide +kernel
theorem dX3_move3_7 : decode cX3_move3 7 = .ok (.imul, 1) := by decide +kernel
theorem dX3_move3_8 : decode cX3_move3 8 = .ok (.iload_n 1, 1) := by decide +kernel
theorem dX3_move3_9 : decode cX3_move3 9 = .ok (.iadd, 1) := by decide +kernel
theorem dX3_move3_10 : decode cX3_move3 10 = .ok (.iload_n 3, 1) := by decide +kernel
theorem dX3_move3_11 : decode cX3_move3 11 = .ok (.iastore, 1) := by decide +kernel
theorem dX3_move3_12 : decode cX3_move3 12 = .ok (.aload_n 0, 1) := by decide +kernel
theorem dX3_move3_13 : decode cX3_move3 13 = .ok (.getfield 70, 3) := by decide +kernel
theorem dX3_move3_16 : decode cX3_move3 16 = .ok (.ifCond .le 42, 3) := by decide +kernel
theorem dX3_move3_19 : decode cX3_move3 19 = .ok (.aload_n 0, 1) := by decide +kernel
theorem dX3_move3_20 : decode cX3_move3 20 = .ok (.dup, 1) := by decide +kernel
theorem dX3_move3_21 : decode cX3_move3 21 = .ok (.getfield 73, 3) := by decide +kernel
theorem dX3_move3_24 : decode cX3_move3 24 = .ok (.iload_n 1, 1) := by decide +kernel
theorem dX3_move3_25 : decode cX3_move3 25 = .ok (.aload_n 0, 1) := by decide +kernel
theorem dX3_move3_26 : decode cX3_move3 26 = .ok (.getfield 77, 3) := by decide +kernel
theorem dX3_move3_29 : decode cX3_move3 29 = .ok (.isub, 1) := by decide +kernel
theorem dX3_move3_30 : decode cX3_move3 30 = .ok (.invokestatic 80, 3) := by decide +kernel
theorem dX3_move3_33 : decode cX3_move3 33 = .ok (.iload_n 2, 1) := by decide +kernel
theorem dX3_move3_34 : decode cX3_move3 34 = .ok (.aload_n 0, 1) := by decide +kernel
theorem dX3_move3_35 : decode cX3_move3 35 = .ok (.getfield 83, 3) := by decide +kernel
theorem dX3_move3_38 : decode cX3_move3 38 = .ok (.isub, 1) := by decide +kernel
theorem dX3_move3_39 : decode cX3_move3 39 = .ok (.invokestatic 80, 3) := by decide +kernel
theorem dX3_move3_42 : decode cX3_move3 42 = .ok (.iadd, 1) := by decide +kernel
theorem dX3_move3_43 : decode cX3_move3 43 = .ok (.iload_n 3, 1) := by decide +kernel
theorem dX3_move3_44 : decode cX3_move3 44 = .ok (.aload_n 0, 1) := by decide +kernel
theorem dX3_move3_45 : decode cX3_move3 45 = .ok (.getfield 86, 3) := by decide +kernel
theorem dX3_move3_48 : decode cX3_move3 48 = .ok (.isub, 1) := by decide +kernel
theorem dX3_move3_49 : decode cX3_move3 49 = .ok (.invokestatic 80, 3) := by decide +kernel
theorem dX3_move3_52 : decode cX3_move3 52 = .ok (.iadd, 1) := by decide +kernel
theorem dX3_move3_53 : decode cX3_move3 53 = .ok (.i2l, 1) := by decide +kernel
theorem dX3_move3_54 : decode cX3_move3 54 = .ok (.ladd, 1) := by decide +kernel
theorem dX3_move3_55 : decode cX3_move3 55 = .ok (.putfield 73, 3) := by decide +kernel
theorem dX3_move3_58 : decode cX3_move3 58 = .ok (.aload_n 0, 1) := by decide +kernel
theorem dX3_move3_59 : decode cX3_move3 59 = .ok (.getfield 70, 3) := by decide +kernel
theorem dX3_move3_62 : decode cX3_move3 62 = .ok (.sipush 2000, 3) := by decide +kernel
theorem dX3_move3_65 : decode cX3_move3 65 = .ok (.if_icmp .ge 43, 3) := by decide +kernel
theorem dX3_move3_68 : decode cX3_move3 68 = .ok (.aload_n 0, 1) := by decide +kernel
theorem dX3_move3_69 : decode cX3_move3 69 = .ok (.getfield 35, 3) := by decide +kernel
theorem dX3_move3_72 : decode cX3_move3 72 = .ok (.iconst 3, 1) := by decide +kernel
theorem dX3_move3_73 : decode cX3_move3 73 = .ok (.aload_n 0, 1) := by decide +kernel
theorem dX3_move3_74 : decode cX3_move3 74 = .ok (.getfield 70, 3) := by decide +kernel
theorem dX3_move3_77 : decode cX3_move3 77 = .ok (.imul, 1) := by decide +kernel
theorem dX3_move3_78 : decode cX3_move3 78 = .ok (.iload_n 1, 1) := by decide +kernel
theorem dX3_move3_79 : decode cX3_move3 79 = .ok (.iastore, 1) := by decide +kernel
theorem dX3_move3_80 : decode cX3_move3 80 = .ok (.aload_n 0, 1) := by decide +kernel
theorem dX3_move3_81 : decode cX3_move3 81 = .ok (.getfield 35, 3) := by decide +kernel
theorem dX3_move3_84 : decode cX3_move3 84 = .ok (.iconst 3, 1) := by decide +kernel
theorem dX3_move3_85 : decode cX3_move3 85 = .ok (.aload_n 0, 1) := by decide +kernel
theorem dX3_move3_86 : decode cX3_move3 86 = .ok (.getfield 70, 3) := by decide +kernel
theorem dX3_move3_89 : decode cX3_move3 89 = .ok (.imul, 1) := by decide +kernel
theorem dX3_move3_90 : decode cX3_move3 90 = .ok (.iconst 1, 1) := by decide +kernel
theorem dX3_move3_91 : decode cX3_move3 91 = .ok (.iadd, 1) := by decide +kernel
theorem dX3_move3_92 : decode cX3_move3 92 = .ok (.iload_n 2, 1) := by decide +kernel
theorem dX3_move3_93 : decode cX3_move3 93 = .ok (.iastore, 1) := by decide +kernel
theorem dX3_move3_94 : decode cX3_move3 94 = .ok (.aload_n 0, 1) := by decide +kernel
theorem dX3_move3_95 : decode cX3_move3 95 = .ok (.getfield 35, 3) := by decide +kernel
theorem dX3_move3_98 : decode cX3_move3 98 = .ok (.iconst 3, 1) := by decide +kernel
theorem dX3_move3_99 : decode cX3_move3 99 = .ok (.aload_n 0, 1) := by decide +kernel
theorem dX3_move3_100 : decode cX3_move3 100 = .ok (.getfield 70, 3) := by decide +kernel
theorem dX3_move3_103 : decode cX3_move3 103 = .ok (.imul, 1) := by decide +kernel
theorem dX3_move3_104 : decode cX3_move3 104 = .ok (.iconst 2, 1) := by decide +kernel
theorem dX3_move3_105 : decode cX3_move3 105 = .ok (.iadd, 1) := by decide +kernel
theorem dX3_move3_106 : decode cX3_move3 106 = .ok (.iload_n 3, 1) := by decide +kernel
theorem dX3_move3_107 : decode cX3_move3 107 = .ok (.iastore, 1) := by decide +kernel
theorem dX3_move3_108 : decode cX3_move3 108 = .ok (.aload_n 0, 1) := by decide +kernel
theorem dX3_move3_109 : decode cX3_move3 109 = .ok (.dup, 1) := by decide +kernel
theorem dX3_move3_110 : decode cX3_move3 110 = .ok (.getfield 70, 3) := by decide +kernel
theorem dX3_move3_113 : decode cX3_move3 113 = .ok (.iconst 1, 1) := by decide +kernel
theorem dX3_move3_114 : decode cX3_move3 114 = .ok (.iadd, 1) := by decide +kernel
theorem dX3_move3_115 : decode cX3_move3 115 = .ok (.putfield 70, 3) := by decide +kernel
theorem dX3_move3_118 : decode cX3_move3 118 = .ok (.aload_n 0, 1) := by decide +kernel
theorem dX3_move3_119 : decode cX3_move3 119 = .ok (.iload_n 1, 1) := by decide +kernel
theorem dX3_move3_120 : decode cX3_move3 120 = .ok (.putfield 77, 3) := by decide +kernel
theorem dX3_move3_123 : decode cX3_move3 123 = .ok (.aload_n 0, 1) := by decide +kernel
theorem dX3_move3_124 : decode cX3_move3 124 = .ok (.iload_n 2, 1) := by decide +kernel
theorem dX3_move3_125 : decode cX3_move3 125 = .ok (.putfield 83, 3) := by decide +kernel
theorem dX3_move3_128 : decode cX3_move3 128 = .ok (.aload_n 0, 1) := by decide +kernel
theorem dX3_move3_129 : decode cX3_move3 129 = .ok (.iload_n 3, 1) := by decide +kernel
theorem dX3_move3_130 : decode cX3_move3 130 = .ok (.putfield 86, 3) := by decide +kernel
theorem dX3_move3_133 : decode cX3_move3 133 = .ok (.return_, 1) := by decide +kernel
theorem dX3_noTips_0 : decode cX3_noTips 0 = .ok (.iconst 0, 1) := by decide +kernel
theorem dX3_noTips_1 : decode cX3_noTips 1 = .ok (.istore_n 1, 1) := by decide +kernel
theorem dX3_noTips_2 : decode cX3_noTips 2 = .ok (.iload_n 1, 1) := by decide +kernel
theorem dX3_noTips_3 : decode cX3_noTips 3 = .ok (.sipush 400, 3) := by decide +kernel
theorem dX3_noTips_6 : decode cX3_noTips 6 = .ok (.if_icmp .ge 16, 3) := by decide +kernel
theorem dX3_noTips_9 : decode cX3_noTips 9 = .ok (.aload_n 0, 1) := by decide +kernel
theorem dX3_noTips_10 : decode cX3_noTips 10 = .ok (.getfield 29, 3) := by decide +kernel
theorem dX3_noTips_13 : decode cX3_noTips 13 = .ok (.iload_n 1, 1) := by decide +kernel
theorem dX3_noTips_14 : decode cX3_noTips 14 = .ok (.iconst (-1), 1) := by decide +kernel
theorem dX3_noTips_15 : decode cX3_noTips 15 = .ok (.iastore, 1) := by decide +kernel
theorem dX3_noTips_16 : decode cX3_noTips 16 = .ok (.iinc 1 1, 3) := by decide +kernel
theorem dX3_noTips_19 : decode cX3_noTips 19 = .ok (.goto (-17), 3) := by decide +kernel
theorem dX3_noTips_22 : decode cX3_noTips 22 = .ok (.return_, 1) := by decide +kernel
theorem dX3_carve_0 : decode cX3_carve 0 = .ok (.aload_n 0, 1) := by decide +kernel
theorem dX3_carve_1 : decode cX3_carve 1 = .ok (.getfield 26, 3) := by decide +kernel
theorem dX3_carve_4 : decode cX3_carve 4 = .ok (.iload_n 1, 1) := by decide +kernel
theorem dX3_carve_5 : decode cX3_carve 5 = .ok (.iaload, 1) := by decide +kernel
theorem dX3_carve_6 : decode cX3_carve 6 = .ok (.istore_n 2, 1) := by decide +kernel
theorem dX3_carve_7 : decode cX3_carve 7 = .ok (.iconst 0, 1) := by decide +kernel
theorem dX3_carve_8 : decode cX3_carve 8 = .ok (.istore_n 3, 1) := by decide +kernel
theorem dX3_carve_9 : decode cX3_carve 9 = .ok (.iload_n 3, 1) := by decide +kernel
theorem dX3_carve_10 : decode cX3_carve 10 = .ok (.aload_n 0, 1) := by decide +kernel
theorem dX3_carve_11 : decode cX3_carve 11 = .ok (.getfield 45, 3) := by decide +kernel
theorem dX3_carve_14 : decode cX3_carve 14 = .ok (.if_icmp .ge 179, 3) := by decide +kernel
theorem dX3_carve_17 : decode cX3_carve 17 = .ok (.iconst 0, 1) := by decide +kernel
theorem dX3_carve_18 : decode cX3_carve 18 = .ok (.istore 4, 2) := by decide +kernel
theorem dX3_carve_20 : decode cX3_carve 20 = .ok (.iload 4, 2) := by decide +kernel
theorem dX3_carve_22 : decode cX3_carve 22 = .ok (.aload_n 0, 1) := by decide +kernel
theorem dX3_carve_23 : decode cX3_carve 23 = .ok (.getfield 42, 3) := by decide +kernel
theorem dX3_carve_26 : decode cX3_carve 26 = .ok (.if_icmp .ge 161, 3) := by decide +kernel
theorem dX3_carve_29 : decode cX3_carve 29 = .ok (.iload_n 3, 1) := by decide +kernel
theorem dX3_carve_30 : decode cX3_carve 30 = .ok (.iload_n 2, 1) := by decide +kernel
theorem dX3_carve_31 : decode cX3_carve 31 = .ok (.isub, 1) := by decide +kernel
theorem dX3_carve_32 : decode cX3_carve 32 = .ok (.istore 5, 2) := by decide +kernel
theorem dX3_carve_34 : decode cX3_carve 34 = .ok (.iload 5, 2) := by decide +kernel
theorem dX3_carve_36 : decode cX3_carve 36 = .ok (.iload_n 3, 1) := by decide +kernel
theorem dX3_carve_37 : decode cX3_carve 37 = .ok (.iload_n 2, 1) := by decide +kernel
theorem dX3_carve_38 : decode cX3_carve 38 = .ok (.iadd, 1) := by decide +kernel
theorem dX3_carve_39 : decode cX3_carve 39 = .ok (.if_icmp .gt 142, 3) := by decide +kernel
theorem dX3_carve_42 : decode cX3_carve 42 = .ok (.iload 4, 2) := by decide +kernel
theorem dX3_carve_44 : decode cX3_carve 44 = .ok (.iload_n 2, 1) := by decide +kernel
theorem dX3_carve_45 : decode cX3_carve 45 = .ok (.isub, 1) := by decide +kernel
theorem dX3_carve_46 : decode cX3_carve 46 = .ok (.istore 6, 2) := by decide +kernel
theorem dX3_carve_48 : decode cX3_carve 48 = .ok (.iload 6, 2) := by decide +kernel
theorem dX3_carve_50 : decode cX3_carve 50 = .ok (.iload 4, 2) := by decide +kernel
theorem dX3_carve_52 : decode cX3_carve 52 = .ok (.iload_n 2, 1) := by decide +kernel
theorem dX3_carve_53 : decode cX3_carve 53 = .ok (.iadd, 1) := by decide +kernel
theorem dX3_carve_54 : decode cX3_carve 54 = .ok (.if_icmp .gt 121, 3) := by decide +kernel
theorem dX3_carve_57 : decode cX3_carve 57 = .ok (.aload_n 0, 1) := by decide +kernel
theorem dX3_carve_58 : decode cX3_carve 58 = .ok (.iload_n 1, 1) := by decide +kernel
theorem dX3_carve_59 : decode cX3_carve 59 = .ok (.iload 4, 2) := by decide +kernel
theorem dX3_carve_61 : decode cX3_carve 61 = .ok (.iload 6, 2) := by decide +kernel
theorem dX3_carve_63 : decode cX3_carve 63 = .ok (.isub, 1) := by decide +kernel
theorem dX3_carve_64 : decode cX3_carve 64 = .ok (.iload_n 3, 1) := by decide +kernel
theorem dX3_carve_65 : decode cX3_carve 65 = .ok (.iload 5, 2) := by decide +kernel
theorem dX3_carve_67 : decode cX3_carve 67 = .ok (.isub, 1) := by decide +kernel
theorem dX3_carve_68 : decode cX3_carve 68 = .ok (.invokevirtual 63, 3) := by decide +kernel
theorem dX3_carve_71 : decode cX3_carve 71 = .ok (.istore 7, 2) := by decide +kernel
theorem dX3_carve_73 : decode cX3_carve 73 = .ok (.iload 7, 2) := by decide +kernel
theorem dX3_carve_75 : decode cX3_carve 75 = .ok (.ifCond .lt 94, 3) := by decide +kernel
theorem dX3_carve_78 : decode cX3_carve 78 = .ok (.aload_n 0, 1) := by decide +kernel
theorem dX3_carve_79 : decode cX3_carve 79 = .ok (.iload 6, 2) := by decide +kernel
theorem dX3_carve_81 : decode cX3_carve 81 = .ok (.iload 5, 2) := by decide +kernel
theorem dX3_carve_83 : decode cX3_carve 83 = .ok (.invokevirtual 51, 3) := by decide +kernel
theorem dX3_carve_86 : decode cX3_carve 86 = .ok (.ifCond .eq 83, 3) := by decide +kernel
theorem dX3_carve_89 : decode cX3_carve 89 = .ok (.aload_n 0, 1) := by decide +kernel
theorem dX3_carve_90 : decode cX3_carve 90 = .ok (.getfield 29, 3) := by decide +kernel
theorem dX3_carve_93 : decode cX3_carve 93 = .ok (.bipush 20, 2) := by decide +kernel
theorem dX3_carve_95 : decode cX3_carve 95 = .ok (.iload 5, 2) := by decide +kernel
theorem dX3_carve_97 : decode cX3_carve 97 = .ok (.imul, 1) := by decide +kernel
theorem dX3_carve_98 : decode cX3_carve 98 = .ok (.iload 6, 2) := by decide +kernel
theorem dX3_carve_100 : decode cX3_carve 100 = .ok (.iadd, 1) := by decide +kernel
theorem dX3_carve_101 : decode cX3_carve 101 = .ok (.iaload, 1) := by decide +kernel
theorem dX3_carve_102 : decode cX3_carve 102 = .ok (.ifCond .lt 67, 3) := by decide +kernel
theorem dX3_carve_105 : decode cX3_carve 105 = .ok (.aload_n 0, 1) := by decide +kernel
theorem dX3_carve_106 : decode cX3_carve 106 = .ok (.getfield 29, 3) := by decide +kernel
theorem dX3_carve_109 : decode cX3_carve 109 = .ok (.bipush 20, 2) := by decide +kernel
theorem dX3_carve_111 : decode cX3_carve 111 = .ok (.iload 5, 2) := by decide +kernel
theorem dX3_carve_113 : decode cX3_carve 113 = .ok (.imul, 1) := by decide +kernel
theorem dX3_carve_114 : decode cX3_carve 114 = .ok (.iload 6, 2) := by decide +kernel
theorem dX3_carve_116 : decode cX3_carve 116 = .ok (.iadd, 1) := by decide +kernel
theorem dX3_carve_117 : decode cX3_carve 117 = .ok (.iaload, 1) := by decide +kernel
theorem dX3_carve_118 : decode cX3_carve 118 = .ok (.iload 7, 2) := by decide +kernel
theorem dX3_carve_120 : decode cX3_carve 120 = .ok (.iadd, 1) := by decide +kernel
theorem dX3_carve_121 : decode cX3_carve 121 = .ok (.istore 8, 2) := by decide +kernel
theorem dX3_carve_123 : decode cX3_carve 123 = .ok (.aload_n 0, 1) := by decide +kernel
theorem dX3_carve_124 : decode cX3_carve 124 = .ok (.getfield 13, 3) := by decide +kernel
theorem dX3_carve_127 : decode cX3_carve 127 = .ok (.bipush 20, 2) := by decide +kernel
theorem dX3_carve_129 : decode cX3_carve 129 = .ok (.iload_n 3, 1) := by decide +kernel
theorem dX3_carve_130 : decode cX3_carve 130 = .ok (.imul, 1) := by decide +kernel
theorem dX3_carve_131 : decode cX3_carve 131 = .ok (.iload 4, 2) := by decide +kernel
theorem dX3_carve_133 : decode cX3_carve 133 = .ok (.iadd, 1) := by decide +kernel
theorem dX3_carve_134 : decode cX3_carve 134 = .ok (.iload 8, 2) := by decide +kernel
theorem dX3_carve_136 : decode cX3_carve 136 = .ok (.aload_n 0, 1) := by decide +kernel
theorem dX3_carve_137 : decode cX3_carve 137 = .ok (.getfield 13, 3) := by decide +kernel
theorem dX3_carve_140 : decode cX3_carve 140 = .ok (.bipush 20, 2) := by decide +kernel
theorem dX3_carve_142 : decode cX3_carve 142 = .ok (.iload_n 3, 1) := by decide +kernel
theorem dX3_carve_143 : decode cX3_carve 143 = .ok (.imul, 1) := by decide +kernel
theorem dX3_carve_144 : decode cX3_carve 144 = .ok (.iload 4, 2) := by decide +kernel
theorem dX3_carve_146 : decode cX3_carve 146 = .ok (.iadd, 1) := by decide +kernel
theorem dX3_carve_147 : decode cX3_carve 147 = .ok (.iaload, 1) := by decide +kernel
theorem dX3_carve_148 : decode cX3_carve 148 = .ok (.if_icmp .ge 8, 3) := by decide +kernel
theorem dX3_carve_151 : decode cX3_carve 151 = .ok (.iload 8, 2) := by decide +kernel
theorem dX3_carve_153 : decode cX3_carve 153 = .ok (.goto 15, 3) := by decide +kernel
theorem dX3_carve_156 : decode cX3_carve 156 = .ok (.aload_n 0, 1) := by decide +kernel
theorem dX3_carve_157 : decode cX3_carve 157 = .ok (.getfield 13, 3) := by decide +kernel
theorem dX3_carve_160 : decode cX3_carve 160 = .ok (.bipush 20, 2) := by decide +kernel
theorem dX3_carve_162 : decode cX3_carve 162 = .ok (.iload_n 3, 1) := by decide +kernel
theorem dX3_carve_163 : decode cX3_carve 163 = .ok (.imul, 1) := by decide +kernel
theorem dX3_carve_164 : decode cX3_carve 164 = .ok (.iload 4, 2) := by decide +kernel
theorem dX3_carve_166 : decode cX3_carve 166 = .ok (.iadd, 1) := by decide +kernel
theorem dX3_carve_167 : decode cX3_carve 167 = .ok (.iaload, 1) := by decide +kernel
theorem dX3_carve_168 : decode cX3_carve 168 = .ok (.iastore, 1) := by decide +kernel
theorem dX3_carve_169 : decode cX3_carve 169 = .ok (.iinc 6 1, 3) := by decide +kernel
theorem dX3_carve_172 : decode cX3_carve 172 = .ok (.goto (-124), 3) := by decide +kernel
theorem dX3_carve_175 : decode cX3_carve 175 = .ok (.iinc 5 1, 3) := by decide +kernel
theorem dX3_carve_178 : decode cX3_carve 178 = .ok (.goto (-144), 3) := by decide +kernel
theorem dX3_carve_181 : decode cX3_carve 181 = .ok (.iinc 4 1, 3) := by decide +kernel
theorem dX3_carve_184 : decode cX3_carve 184 = .ok (.goto (-164), 3) := by decide +kernel
theorem dX3_carve_187 : decode cX3_carve 187 = .ok (.iinc 3 1, 3) := by decide +kernel
theorem dX3_carve_190 : decode cX3_carve 190 = .ok (.goto (-181), 3) := by decide +kernel
theorem dX3_carve_193 : decode cX3_carve 193 = .ok (.return_, 1) := by decide +kernel
theorem dX3_rough_0 : decode cX3_rough 0 = .ok (.aload_n 0, 1) := by decide +kernel
theorem dX3_rough_1 : decode cX3_rough 1 = .ok (.iload_n 1, 1) := by decide +kernel
theorem dX3_rough_2 : decode cX3_rough 2 = .ok (.iconst 0, 1) := by decide +kernel
theorem dX3_rough_3 : decode cX3_rough 3 = .ok (.iconst 3, 1) := by decide +kernel
theorem dX3_rough_4 : decode cX3_rough 4 = .ok (.invokestatic 55, 3) := by decide +kernel
theorem dX3_rough_7 : decode cX3_rough 7 = .ok (.ifCond .ne 7, 3) := by decide +kernel
theorem dX3_rough_10 : decode cX3_rough 10 = .ok (.iconst 1, 1) := by decide +kernel
theorem dX3_rough_11 : decode cX3_rough 11 = .ok (.goto 30, 3) := by decide +kernel
theorem dX3_rough_14 : decode cX3_rough 14 = .ok (.iload_n 2, 1) := by decide +kernel
theorem dX3_rough_15 : decode cX3_rough 15 = .ok (.iconst 1, 1) := by decide +kernel
theorem dX3_rough_16 : decode cX3_rough 16 = .ok (.sipush 1000, 3) := by decide +kernel
theorem dX3_rough_19 : decode cX3_rough 19 = .ok (.invokestatic 55, 3) := by decide +kernel
theorem dX3_rough_22 : decode cX3_rough 22 = .ok (.ifCond .eq 18, 3) := by decide +kernel
theorem dX3_rough_25 : decode cX3_rough 25 = .ok (.iload_n 3, 1) := by decide +kernel
theorem dX3_rough_26 : decode cX3_rough 26 = .ok (.iconst 0, 1) := by decide +kernel
theorem dX3_rough_27 : decode cX3_rough 27 = .ok (.sipush 1000, 3) := by decide +kernel
theorem dX3_rough_30 : decode cX3_rough 30 = .ok (.invokestatic 55, 3) := by decide +kernel
theorem dX3_rough_33 : decode cX3_rough 33 = .ok (.ifCond .eq 7, 3) := by decide +kernel
theorem dX3_rough_36 : decode cX3_rough 36 = .ok (.iconst 0, 1) := by decide +kernel
theorem dX3_rough_37 : decode cX3_rough 37 = .ok (.goto 4, 3) := by decide +kernel
theorem dX3_rough_40 : decode cX3_rough 40 = .ok (.iconst 2, 1) := by decide +kernel
theorem dX3_rough_41 : decode cX3_rough 41 = .ok (.putfield 48, 3) := by decide +kernel
theorem dX3_rough_44 : decode cX3_rough 44 = .ok (.aload_n 0, 1) := by decide +kernel
theorem dX3_rough_45 : decode cX3_rough 45 = .ok (.getfield 48, 3) := by decide +kernel
theorem dX3_rough_48 : decode cX3_rough 48 = .ok (.ifCond .le 5, 3) := by decide +kernel
theorem dX3_rough_51 : decode cX3_rough 51 = .ok (.iconst 0, 1) := by decide +kernel
theorem dX3_rough_52 : decode cX3_rough 52 = .ok (.ireturn, 1) := by decide +kernel
theorem dX3_rough_53 : decode cX3_rough 53 = .ok (.aload_n 0, 1) := by decide +kernel
theorem dX3_rough_54 : decode cX3_rough 54 = .ok (.invokevirtual 89, 3) := by decide +kernel
theorem dX3_rough_57 : decode cX3_rough 57 = .ok (.iconst 0, 1) := by decide +kernel
theorem dX3_rough_58 : decode cX3_rough 58 = .ok (.istore 4, 2) := by decide +kernel
theorem dX3_rough_60 : decode cX3_rough 60 = .ok (.iload 4, 2) := by decide +kernel
theorem dX3_rough_62 : decode cX3_rough 62 = .ok (.sipush 400, 3) := by decide +kernel
theorem dX3_rough_65 : decode cX3_rough 65 = .ok (.if_icmp .ge 59, 3) := by decide +kernel
theorem dX3_rough_68 : decode cX3_rough 68 = .ok (.aload_n 0, 1) := by decide +kernel
theorem dX3_rough_69 : decode cX3_rough 69 = .ok (.getfield 32, 3) := by decide +kernel
theorem dX3_rough_72 : decode cX3_rough 72 = .ok (.iload 4, 2) := by decide +kernel
theorem dX3_rough_74 : decode cX3_rough 74 = .ok (.iload 4, 2) := by decide +kernel
theorem dX3_rough_76 : decode cX3_rough 76 = .ok (.bipush 20, 2) := by decide +kernel
theorem dX3_rough_78 : decode cX3_rough 78 = .ok (.irem, 1) := by decide +kernel
theorem dX3_rough_79 : decode cX3_rough 79 = .ok (.aload_n 0, 1) := by decide +kernel
theorem dX3_rough_80 : decode cX3_rough 80 = .ok (.getfield 42, 3) := by decide +kernel
theorem dX3_rough_83 : decode cX3_rough 83 = .ok (.if_icmp .ge 33, 3) := by decide +kernel
theorem dX3_rough_86 : decode cX3_rough 86 = .ok (.iload 4, 2) := by decide +kernel
theorem dX3_rough_88 : decode cX3_rough 88 = .ok (.bipush 20, 2) := by decide +kernel
theorem dX3_rough_90 : decode cX3_rough 90 = .ok (.idiv, 1) := by decide +kernel
theorem dX3_rough_91 : decode cX3_rough 91 = .ok (.aload_n 0, 1) := by decide +kernel
theorem dX3_rough_92 : decode cX3_rough 92 = .ok (.getfield 45, 3) := by decide +kernel
theorem dX3_rough_95 : decode cX3_rough 95 = .ok (.if_icmp .ge 21, 3) := by decide +kernel
theorem dX3_rough_98 : decode cX3_rough 98 = .ok (.aload_n 0, 1) := by decide +kernel
theorem dX3_rough_99 : decode cX3_rough 99 = .ok (.iload 4, 2) := by decide +kernel
theorem dX3_rough_101 : decode cX3_rough 101 = .ok (.bipush 20, 2) := by decide +kernel
theorem dX3_rough_103 : decode cX3_rough 103 = .ok (.irem, 1) := by decide +kernel
theorem dX3_rough_104 : decode cX3_rough 104 = .ok (.iload 4, 2) := by decide +kernel
theorem dX3_rough_106 : decode cX3_rough 106 = .ok (.bipush 20, 2) := by decide +kernel
theorem dX3_rough_108 : decode cX3_rough 108 = .ok (.idiv, 1) := by decide +kernel
theorem dX3_rough_109 : decode cX3_rough 109 = .ok (.iload_n 1, 1) := by decide +kernel
theorem dX3_rough_110 : decode cX3_rough 110 = .ok (.invokevirtual 67, 3) := by decide +kernel
theorem dX3_rough_113 : decode cX3_rough 113 = .ok (.goto 4, 3) := by decide +kernel
theorem dX3_rough_116 : decode cX3_rough 116 = .ok (.iconst 0, 1) := by decide +kernel
theorem dX3_rough_117 : decode cX3_rough 117 = .ok (.iastore, 1) := by decide +kernel
theorem dX3_rough_118 : decode cX3_rough 118 = .ok (.iinc 4 1, 3) := by decide +kernel
theorem dX3_rough_121 : decode cX3_rough 121 = .ok (.goto (-61), 3) := by decide +kernel
theorem dX3_rough_124 : decode cX3_rough 124 = .ok (.iconst 0, 1) := by decide +kernel
theorem dX3_rough_125 : decode cX3_rough 125 = .ok (.istore 4, 2) := by decide +kernel
theorem dX3_rough_127 : decode cX3_rough 127 = .ok (.aload_n 0, 1) := by decide +kernel
theorem dX3_rough_128 : decode cX3_rough 128 = .ok (.getfield 19, 3) := by decide +kernel
theorem dX3_rough_131 : decode cX3_rough 131 = .ok (.iload_n 2, 1) := by decide +kernel
theorem dX3_rough_132 : decode cX3_rough 132 = .ok (.isub, 1) := by decide +kernel
theorem dX3_rough_133 : decode cX3_rough 133 = .ok (.istore 5, 2) := by decide +kernel
theorem dX3_rough_135 : decode cX3_rough 135 = .ok (.iload 5, 2) := by decide +kernel
theorem dX3_rough_137 : decode cX3_rough 137 = .ok (.ifCond .le 105, 3) := by decide +kernel
theorem dX3_rough_140 : decode cX3_rough 140 = .ok (.aload_n 0, 1) := by decide +kernel
theorem dX3_rough_141 : decode cX3_rough 141 = .ok (.getfield 70, 3) := by decide +kernel
theorem dX3_rough_144 : decode cX3_rough 144 = .ok (.istore 6, 2) := by decide +kernel
theorem dX3_rough_146 : decode cX3_rough 146 = .ok (.aload_n 0, 1) := by decide +kernel
theorem dX3_rough_147 : decode cX3_rough 147 = .ok (.invokevirtual 92, 3) := by decide +kernel
theorem dX3_rough_150 : decode cX3_rough 150 = .ok (.iconst 0, 1) := by decide +kernel
theorem dX3_rough_151 : decode cX3_rough 151 = .ok (.istore 7, 2) := by decide +kernel
theorem dX3_rough_153 : decode cX3_rough 153 = .ok (.iload 7, 2) := by decide +kernel
theorem dX3_rough_155 : decode cX3_rough 155 = .ok (.aload_n 0, 1) := by decide +kernel
theorem dX3_rough_156 : decode cX3_rough 156 = .ok (.getfield 45, 3) := by decide +kernel
theorem dX3_rough_159 : decode cX3_rough 159 = .ok (.if_icmp .ge 57, 3) := by decide +kernel
theorem dX3_rough_162 : decode cX3_rough 162 = .ok (.iconst 0, 1) := by decide +kernel
theorem dX3_rough_163 : decode cX3_rough 163 = .ok (.istore 8, 2) := by decide +kernel
theorem dX3_rough_165 : decode cX3_rough 165 = .ok (.iload 8, 2) := by decide +kernel
theorem dX3_rough_167 : decode cX3_rough 167 = .ok (.aload_n 0, 1) := by decide +kernel
theorem dX3_rough_168 : decode cX3_rough 168 = .ok (.getfield 42, 3) := by decide +kernel
theorem dX3_rough_171 : decode cX3_rough 171 = .ok (.if_icmp .ge 39, 3) := by decide +kernel
theorem dX3_rough_174 : decode cX3_rough 174 = .ok (.aload_n 0, 1) := by decide +kernel
theorem dX3_rough_175 : decode cX3_rough 175 = .ok (.getfield 32, 3) := by decide +kernel
theorem dX3_rough_178 : decode cX3_rough 178 = .ok (.bipush 20, 2) := by decide +kernel
theorem dX3_rough_180 : decode cX3_rough 180 = .ok (.iload 7, 2) := by decide +kernel
theorem dX3_rough_182 : decode cX3_rough 182 = .ok (.imul, 1) := by decide +kernel
theorem dX3_rough_183 : decode cX3_rough 183 = .ok (.iload 8, 2) := by decide +kernel
theorem dX3_rough_185 : decode cX3_rough 185 = .ok (.iadd, 1) := by decide +kernel
theorem dX3_rough_186 : decode cX3_rough 186 = .ok (.iaload, 1) := by decide +kernel
theorem dX3_rough_187 : decode cX3_rough 187 = .ok (.iload_n 3, 1) := by decide +kernel
theorem dX3_rough_188 : decode cX3_rough 188 = .ok (.iadd, 1) := by decide +kernel
theorem dX3_rough_189 : decode cX3_rough 189 = .ok (.iload 5, 2) := by decide +kernel
theorem dX3_rough_191 : decode cX3_rough 191 = .ok (.if_icmp .gt 13, 3) := by decide +kernel
theorem dX3_rough_194 : decode cX3_rough 194 = .ok (.aload_n 0, 1) := by decide +kernel
theorem dX3_rough_195 : decode cX3_rough 195 = .ok (.iload 8, 2) := by decide +kernel
theorem dX3_rough_197 : decode cX3_rough 197 = .ok (.iload 7, 2) := by decide +kernel
theorem dX3_rough_199 : decode cX3_rough 199 = .ok (.iload 5, 2) := by decide +kernel
theorem dX3_rough_201 : decode cX3_rough 201 = .ok (.invokevirtual 95, 3) := by decide +kernel
theorem dX3_rough_204 : decode cX3_rough 204 = .ok (.iinc 8 1, 3) := by decide +kernel
theorem dX3_rough_207 : decode cX3_rough 207 = .ok (.goto (-42), 3) := by decide +kernel
theorem dX3_rough_210 : decode cX3_rough 210 = .ok (.iinc 7 1, 3) := by decide +kernel
theorem dX3_rough_213 : decode cX3_rough 213 = .ok (.goto (-60), 3) := by decide +kernel
theorem dX3_rough_216 : decode cX3_rough 216 = .ok (.aload_n 0, 1) := by decide +kernel
theorem dX3_rough_217 : decode cX3_rough 217 = .ok (.getfield 70, 3) := by decide +kernel
theorem dX3_rough_220 : decode cX3_rough 220 = .ok (.iload 6, 2) := by decide +kernel
theorem dX3_rough_222 : decode cX3_rough 222 = .ok (.if_icmp .le 11, 3) := by decide +kernel
theorem dX3_rough_225 : decode cX3_rough 225 = .ok (.aload_n 0, 1) := by decide +kernel
theorem dX3_rough_226 : decode cX3_rough 226 = .ok (.iload_n 1, 1) := by decide +kernel
theorem dX3_rough_227 : decode cX3_rough 227 = .ok (.invokevirtual 99, 3) := by decide +kernel
theorem dX3_rough_230 : decode cX3_rough 230 = .ok (.iinc 4 1, 3) := by decide +kernel
theorem dX3_rough_233 : decode cX3_rough 233 = .ok (.iload 5, 2) := by decide +kernel
theorem dX3_rough_235 : decode cX3_rough 235 = .ok (.iload_n 2, 1) := by decide +kernel
theorem dX3_rough_236 : decode cX3_rough 236 = .ok (.isub, 1) := by decide +kernel
theorem dX3_rough_237 : decode cX3_rough 237 = .ok (.istore 5, 2) := by decide +kernel
theorem dX3_rough_239 : decode cX3_rough 239 = .ok (.goto (-104), 3) := by decide +kernel
theorem dX3_rough_242 : decode cX3_rough 242 = .ok (.iload 4, 2) := by decide +kernel
theorem dX3_rough_244 : decode cX3_rough 244 = .ok (.ireturn, 1) := by decide +kernel
theorem dX3_fine_0 : decode cX3_fine 0 = .ok (.aload_n 0, 1) := by decide +kernel
theorem dX3_fine_1 : decode cX3_fine 1 = .ok (.iload_n 1, 1) := by decide +kernel
theorem dX3_fine_2 : decode cX3_fine 2 = .ok (.iconst 0, 1) := by decide +kernel
theorem dX3_fine_3 : decode cX3_fine 3 = .ok (.iconst 3, 1) := by decide +kernel
theorem dX3_fine_4 : decode cX3_fine 4 = .ok (.invokestatic 55, 3) := by decide +kernel
theorem dX3_fine_7 : decode cX3_fine 7 = .ok (.ifCond .ne 7, 3) := by decide +kernel
theorem dX3_fine_10 : decode cX3_fine 10 = .ok (.iconst 1, 1) := by decide +kernel
theorem dX3_fine_11 : decode cX3_fine 11 = .ok (.goto 18, 3) := by decide +kernel
theorem dX3_fine_14 : decode cX3_fine 14 = .ok (.iload_n 2, 1) := by decide +kernel
theorem dX3_fine_15 : decode cX3_fine 15 = .ok (.iconst 1, 1) := by decide +kernel
theorem dX3_fine_16 : decode cX3_fine 16 = .ok (.bipush 20, 2) := by decide +kernel
theorem dX3_fine_18 : decode cX3_fine 18 = .ok (.invokestatic 55, 3) := by decide +kernel
theorem dX3_fine_21 : decode cX3_fine 21 = .ok (.ifCond .eq 7, 3) := by decide +kernel
theorem dX3_fine_24 : decode cX3_fine 24 = .ok (.iconst 0, 1) := by decide +kernel
theorem dX3_fine_25 : decode cX3_fine 25 = .ok (.goto 4, 3) := by decide +kernel
theorem dX3_fine_28 : decode cX3_fine 28 = .ok (.iconst 2, 1) := by decide +kernel
theorem dX3_fine_29 : decode cX3_fine 29 = .ok (.putfield 48, 3) := by decide +kernel
theorem dX3_fine_32 : decode cX3_fine 32 = .ok (.aload_n 0, 1) := by decide +kernel
theorem dX3_fine_33 : decode cX3_fine 33 = .ok (.getfield 48, 3) := by decide +kernel
theorem dX3_fine_36 : decode cX3_fine 36 = .ok (.ifCond .le 5, 3) := by decide +kernel
theorem dX3_fine_39 : decode cX3_fine 39 = .ok (.iconst 0, 1) := by decide +kernel
theorem dX3_fine_40 : decode cX3_fine 40 = .ok (.ireturn, 1) := by decide +kernel
theorem dX3_fine_41 : decode cX3_fine 41 = .ok (.aload_n 0, 1) := by decide +kernel
theorem dX3_fine_42 : decode cX3_fine 42 = .ok (.invokevirtual 89, 3) := by decide +kernel
theorem dX3_fine_45 : decode cX3_fine 45 = .ok (.aload_n 0, 1) := by decide +kernel
theorem dX3_fine_46 : decode cX3_fine 46 = .ok (.invokevirtual 92, 3) := by decide +kernel
theorem dX3_fine_49 : decode cX3_fine 49 = .ok (.iconst 0, 1) := by decide +kernel
theorem dX3_fine_50 : decode cX3_fine 50 = .ok (.istore_n 3, 1) := by decide +kernel
theorem dX3_fine_51 : decode cX3_fine 51 = .ok (.iconst 0, 1) := by decide +kernel
theorem dX3_fine_52 : decode cX3_fine 52 = .ok (.istore 4, 2) := by decide +kernel
theorem dX3_fine_54 : decode cX3_fine 54 = .ok (.iload 4, 2) := by decide +kernel
theorem dX3_fine_56 : decode cX3_fine 56 = .ok (.aload_n 0, 1) := by decide +kernel
theorem dX3_fine_57 : decode cX3_fine 57 = .ok (.getfield 45, 3) := by decide +kernel
theorem dX3_fine_60 : decode cX3_fine 60 = .ok (.if_icmp .ge 87, 3) := by decide +kernel
theorem dX3_fine_63 : decode cX3_fine 63 = .ok (.iload 4, 2) := by decide +kernel
theorem dX3_fine_65 : decode cX3_fine 65 = .ok (.iload_n 2, 1) := by decide +kernel
theorem dX3_fine_66 : decode cX3_fine 66 = .ok (.irem, 1) := by decide +kernel
theorem dX3_fine_67 : decode cX3_fine 67 = .ok (.ifCond .eq 14, 3) := by decide +kernel
theorem dX3_fine_70 : decode cX3_fine 70 = .ok (.iload 4, 2) := by decide +kernel
theorem dX3_fine_72 : decode cX3_fine 72 = .ok (.aload_n 0, 1) := by decide +kernel
theorem dX3_fine_73 : decode cX3_fine 73 = .ok (.getfield 45, 3) := by decide +kernel
theorem dX3_fine_76 : decode cX3_fine 76 = .ok (.iconst 1, 1) := by decide +kernel
theorem dX3_fine_77 : decode cX3_fine 77 = .ok (.isub, 1) := by decide +kernel
theorem dX3_fine_78 : decode cX3_fine 78 = .ok (.if_icmp .ne 63, 3) := by decide +kernel
theorem dX3_fine_81 : decode cX3_fine 81 = .ok (.iconst 0, 1) := by decide +kernel
theorem dX3_fine_82 : decode cX3_fine 82 = .ok (.istore 5, 2) := by decide +kernel
theorem dX3_fine_84 : decode cX3_fine 84 = .ok (.iload 5, 2) := by decide +kernel
theorem dX3_fine_86 : decode cX3_fine 86 = .ok (.aload_n 0, 1) := by decide +kernel
theorem dX3_fine_87 : decode cX3_fine 87 = .ok (.getfield 42, 3) := by decide +kernel
theorem dX3_fine_90 : decode cX3_fine 90 = .ok (.if_icmp .ge 48, 3) := by decide +kernel
theorem dX3_fine_93 : decode cX3_fine 93 = .ok (.iload_n 3, 1) := by decide +kernel
theorem dX3_fine_94 : decode cX3_fine 94 = .ok (.iconst 2, 1) := by decide +kernel
theorem dX3_fine_95 : decode cX3_fine 95 = .ok (.irem, 1) := by decide +kernel
theorem dX3_fine_96 : decode cX3_fine 96 = .ok (.ifCond .ne 8, 3) := by decide +kernel
theorem dX3_fine_99 : decode cX3_fine 99 = .ok (.iload 5, 2) := by decide +kernel
theorem dX3_fine_101 : decode cX3_fine 101 = .ok (.goto 12, 3) := by decide +kernel
theorem dX3_fine_104 : decode cX3_fine 104 = .ok (.aload_n 0, 1) := by decide +kernel
theorem dX3_fine_105 : decode cX3_fine 105 = .ok (.getfield 42, 3) := by decide +kernel
theorem dX3_fine_108 : decode cX3_fine 108 = .ok (.iconst 1, 1) := by decide +kernel
theorem dX3_fine_109 : decode cX3_fine 109 = .ok (.isub, 1) := by decide +kernel
theorem dX3_fine_110 : decode cX3_fine 110 = .ok (.iload 5, 2) := by decide +kernel
theorem dX3_fine_112 : decode cX3_fine 112 = .ok (.isub, 1) := by decide +kernel
theorem dX3_fine_113 : decode cX3_fine 113 = .ok (.istore 6, 2) := by decide +kernel
theorem dX3_fine_115 : decode cX3_fine 115 = .ok (.aload_n 0, 1) := by decide +kernel
theorem dX3_fine_116 : decode cX3_fine 116 = .ok (.iload 6, 2) := by decide +kernel
theorem dX3_fine_118 : decode cX3_fine 118 = .ok (.iload 4, 2) := by decide +kernel
theorem dX3_fine_120 : decode cX3_fine 120 = .ok (.aload_n 0, 1) := by decide +kernel
theorem dX3_fine_121 : decode cX3_fine 121 = .ok (.iload 6, 2) := by decide +kernel
theorem dX3_fine_123 : decode cX3_fine 123 = .ok (.iload 4, 2) := by decide +kernel
theorem dX3_fine_125 : decode cX3_fine 125 = .ok (.iload_n 1, 1) := by decide +kernel
theorem dX3_fine_126 : decode cX3_fine 126 = .ok (.invokevirtual 67, 3) := by decide +kernel
theorem dX3_fine_129 : decode cX3_fine 129 = .ok (.invokevirtual 95, 3) := by decide +kernel
theorem dX3_fine_132 : decode cX3_fine 132 = .ok (.iinc 5 1, 3) := by decide +kernel
theorem dX3_fine_135 : decode cX3_fine 135 = .ok (.goto (-51), 3) := by decide +kernel
theorem dX3_fine_138 : decode cX3_fine 138 = .ok (.iinc 3 1, 3) := by decide +kernel
theorem dX3_fine_141 : decode cX3_fine 141 = .ok (.iinc 4 1, 3) := by decide +kernel
theorem dX3_fine_144 : decode cX3_fine 144 = .ok (.goto (-90), 3) := by decide +kernel
theorem dX3_fine_147 : decode cX3_fine 147 = .ok (.aload_n 0, 1) := by decide +kernel
theorem dX3_fine_148 : decode cX3_fine 148 = .ok (.iload_n 1, 1) := by decide +kernel
theorem dX3_fine_149 : decode cX3_fine 149 = .ok (.invokevirtual 99, 3) := by decide +kernel
theorem dX3_fine_152 : decode cX3_fine 152 = .ok (.iload_n 3, 1) := by decide +kernel
theorem dX3_fine_153 : decode cX3_fine 153 = .ok (.ireturn, 1) := by decide +kernel
theorem dX3_made_0 : decode cX3_made 0 = .ok (.aload_n 0, 1) := by decide +kernel
theorem dX3_made_1 : decode cX3_made 1 = .ok (.aload_n 0, 1) := by decide +kernel
theorem dX3_made_2 : decode cX3_made 2 = .ok (.iload_n 1, 1) := by decide +kernel
theorem dX3_made_3 : decode cX3_made 3 = .ok (.iload_n 2, 1) := by decide +kernel
theorem dX3_made_4 : decode cX3_made 4 = .ok (.invokevirtual 51, 3) := by decide +kernel
theorem dX3_made_7 : decode cX3_made 7 = .ok (.ifCond .eq 7, 3) := by decide +kernel
theorem dX3_made_10 : decode cX3_made 10 = .ok (.iconst 0, 1) := by decide +kernel
theorem dX3_made_11 : decode cX3_made 11 = .ok (.goto 4, 3) := by decide +kernel
theorem dX3_made_14 : decode cX3_made 14 = .ok (.iconst 1, 1) := by decide +kernel
theorem dX3_made_15 : decode cX3_made 15 = .ok (.putfield 48, 3) := by decide +kernel
theorem dX3_made_18 : decode cX3_made 18 = .ok (.aload_n 0, 1) := by decide +kernel
theorem dX3_made_19 : decode cX3_made 19 = .ok (.getfield 48, 3) := by decide +kernel
theorem dX3_made_22 : decode cX3_made 22 = .ok (.ifCond .le 7, 3) := by decide +kernel
theorem dX3_made_25 : decode cX3_made 25 = .ok (.iconst 0, 1) := by decide +kernel
theorem dX3_made_26 : decode cX3_made 26 = .ok (.goto 14, 3) := by decide +kernel
theorem dX3_made_29 : decode cX3_made 29 = .ok (.aload_n 0, 1) := by decide +kernel
theorem dX3_made_30 : decode cX3_made 30 = .ok (.getfield 13, 3) := by decide +kernel
theorem dX3_made_33 : decode cX3_made 33 = .ok (.bipush 20, 2) := by decide +kernel
theorem dX3_made_35 : decode cX3_made 35 = .ok (.iload_n 2, 1) := by decide +kernel
theorem dX3_made_36 : decode cX3_made 36 = .ok (.imul, 1) := by decide +kernel
theorem dX3_made_37 : decode cX3_made 37 = .ok (.iload_n 1, 1) := by decide +kernel
theorem dX3_made_38 : decode cX3_made 38 = .ok (.iadd, 1) := by decide +kernel
theorem dX3_made_39 : decode cX3_made 39 = .ok (.iaload, 1) := by decide +kernel
theorem dX3_made_40 : decode cX3_made 40 = .ok (.ireturn, 1) := by decide +kernel
theorem dX3_leftAt_0 : decode cX3_leftAt 0 = .ok (.aload_n 0, 1) := by decide +kernel
theorem dX3_leftAt_1 : decode cX3_leftAt 1 = .ok (.getfield 13, 3) := by decide +kernel
theorem dX3_leftAt_4 : decode cX3_leftAt 4 = .ok (.iload_n 1, 1) := by decide +kernel
theorem dX3_leftAt_5 : decode cX3_leftAt 5 = .ok (.iaload, 1) := by decide +kernel
theorem dX3_leftAt_6 : decode cX3_leftAt 6 = .ok (.aload_n 0, 1) := by decide +kernel
theorem dX3_leftAt_7 : decode cX3_leftAt 7 = .ok (.getfield 7, 3) := by decide +kernel
theorem dX3_leftAt_10 : decode cX3_leftAt 10 = .ok (.iload_n 1, 1) := by decide +kernel
theorem dX3_leftAt_11 : decode cX3_leftAt 11 = .ok (.iaload, 1) := by decide +kernel
theorem dX3_leftAt_12 : decode cX3_leftAt 12 = .ok (.isub, 1) := by decide +kernel
theorem dX3_leftAt_13 : decode cX3_leftAt 13 = .ok (.ireturn, 1) := by decide +kernel
theorem dX3_below_0 : decode cX3_below 0 = .ok (.aload_n 0, 1) := by decide +kernel
theorem dX3_below_1 : decode cX3_below 1 = .ok (.iconst 0, 1) := by decide +kernel
theorem dX3_below_2 : decode cX3_below 2 = .ok (.putfield 48, 3) := by decide +kernel
theorem dX3_below_5 : decode cX3_below 5 = .ok (.iconst 0, 1) := by decide +kernel
theorem dX3_below_6 : decode cX3_below 6 = .ok (.istore_n 1, 1) := by decide +kernel
theorem dX3_below_7 : decode cX3_below 7 = .ok (.iconst 0, 1) := by decide +kernel
theorem dX3_below_8 : decode cX3_below 8 = .ok (.istore_n 2, 1) := by decide +kernel
theorem dX3_below_9 : decode cX3_below 9 = .ok (.iload_n 2, 1) := by decide +kernel
theorem dX3_below_10 : decode cX3_below 10 = .ok (.aload_n 0, 1) := by decide +kernel
theorem dX3_below_11 : decode cX3_below 11 = .ok (.getfield 45, 3) := by decide +kernel
theorem dX3_below_14 : decode cX3_below 14 = .ok (.if_icmp .ge 48, 3) := by decide +kernel
theorem dX3_below_17 : decode cX3_below 17 = .ok (.iconst 0, 1) := by decide +kernel
theorem dX3_below_18 : decode cX3_below 18 = .ok (.istore_n 3, 1) := by decide +kernel
theorem dX3_below_19 : decode cX3_below 19 = .ok (.iload_n 3, 1) := by decide +kernel
theorem dX3_below_20 : decode cX3_below 20 = .ok (.aload_n 0, 1) := by decide +kernel
theorem dX3_below_21 : decode cX3_below 21 = .ok (.getfield 42, 3) := by decide +kernel
theorem dX3_below_24 : decode cX3_below 24 = .ok (.if_icmp .ge 32, 3) := by decide +kernel
theorem dX3_below_27 : decode cX3_below 27 = .ok (.iload_n 1, 1) := by decide +kernel
theorem dX3_below_28 : decode cX3_below 28 = .ok (.ifCond .ne 16, 3) := by decide +kernel
theorem dX3_below_31 : decode cX3_below 31 = .ok (.aload_n 0, 1) := by decide +kernel
theorem dX3_below_32 : decode cX3_below 32 = .ok (.bipush 20, 2) := by decide +kernel
theorem dX3_below_34 : decode cX3_below 34 = .ok (.iload_n 2, 1) := by decide +kernel
theorem dX3_below_35 : decode cX3_below 35 = .ok (.imul, 1) := by decide +kernel
theorem dX3_below_36 : decode cX3_below 36 = .ok (.iload_n 3, 1) := by decide +kernel
theorem dX3_below_37 : decode cX3_below 37 = .ok (.iadd, 1) := by decide +kernel
theorem dX3_below_38 : decode cX3_below 38 = .ok (.invokevirtual 103, 3) := by decide +kernel
theorem dX3_below_41 : decode cX3_below 41 = .ok (.ifCond .ge 7, 3) := by decide +kernel
theorem dX3_below_44 : decode cX3_below 44 = .ok (.iconst 1, 1) := by decide +kernel
theorem dX3_below_45 : decode cX3_below 45 = .ok (.goto 4, 3) := by decide +kernel
theorem dX3_below_48 : decode cX3_below 48 = .ok (.iconst 0, 1) := by decide +kernel
theorem dX3_below_49 : decode cX3_below 49 = .ok (.istore_n 1, 1) := by decide +kernel
theorem dX3_below_50 : decode cX3_below 50 = .ok (.iinc 3 1, 3) := by decide +kernel
theorem dX3_below_53 : decode cX3_below 53 = .ok (.goto (-34), 3) := by decide +kernel
theorem dX3_below_56 : decode cX3_below 56 = .ok (.iinc 2 1, 3) := by decide +kernel
theorem dX3_below_59 : decode cX3_below 59 = .ok (.goto (-50), 3) := by decide +kernel
theorem dX3_below_62 : decode cX3_below 62 = .ok (.iload_n 1, 1) := by decide +kernel
theorem dX3_below_63 : decode cX3_below 63 = .ok (.ireturn, 1) := by decide +kernel
theorem dX3_rest_0 : decode cX3_rest 0 = .ok (.aload_n 0, 1) := by decide +kernel
theorem dX3_rest_1 : decode cX3_rest 1 = .ok (.iload_n 1, 1) := by decide +kernel
theorem dX3_rest_2 : decode cX3_rest 2 = .ok (.iconst 0, 1) := by decide +kernel
theorem dX3_rest_3 : decode cX3_rest 3 = .ok (.sipush 1000, 3) := by decide +kernel
theorem dX3_rest_6 : decode cX3_rest 6 = .ok (.invokestatic 55, 3) := by decide +kernel
theorem dX3_rest_9 : decode cX3_rest 9 = .ok (.ifCond .eq 12, 3) := by decide +kernel
theorem dX3_rest_12 : decode cX3_rest 12 = .ok (.iload_n 2, 1) := by decide +kernel
theorem dX3_rest_13 : decode cX3_rest 13 = .ok (.iconst (-1), 1) := by decide +kernel
theorem dX3_rest_14 : decode cX3_rest 14 = .ok (.if_icmp .lt 7, 3) := by decide +kernel
theorem dX3_rest_17 : decode cX3_rest 17 = .ok (.iconst 0, 1) := by decide +kernel
theorem dX3_rest_18 : decode cX3_rest 18 = .ok (.goto 4, 3) := by decide +kernel
theorem dX3_rest_21 : decode cX3_rest 21 = .ok (.iconst 1, 1) := by decide +kernel
theorem dX3_rest_22 : decode cX3_rest 22 = .ok (.putfield 48, 3) := by decide +kernel
theorem dX3_rest_25 : decode cX3_rest 25 = .ok (.aload_n 0, 1) := by decide +kernel
theorem dX3_rest_26 : decode cX3_rest 26 = .ok (.getfield 48, 3) := by decide +kernel
theorem dX3_rest_29 : decode cX3_rest 29 = .ok (.ifCond .le 5, 3) := by decide +kernel
theorem dX3_rest_32 : decode cX3_rest 32 = .ok (.iconst 0, 1) := by decide +kernel
theorem dX3_rest_33 : decode cX3_rest 33 = .ok (.ireturn, 1) := by decide +kernel
theorem dX3_rest_34 : decode cX3_rest 34 = .ok (.iconst 0, 1) := by decide +kernel
theorem dX3_rest_35 : decode cX3_rest 35 = .ok (.istore_n 3, 1) := by decide +kernel
theorem dX3_rest_36 : decode cX3_rest 36 = .ok (.iconst 0, 1) := by decide +kernel
theorem dX3_rest_37 : decode cX3_rest 37 = .ok (.istore 4, 2) := by decide +kernel
theorem dX3_rest_39 : decode cX3_rest 39 = .ok (.iload 4, 2) := by decide +kernel
theorem dX3_rest_41 : decode cX3_rest 41 = .ok (.aload_n 0, 1) := by decide +kernel
theorem dX3_rest_42 : decode cX3_rest 42 = .ok (.getfield 45, 3) := by decide +kernel
theorem dX3_rest_45 : decode cX3_rest 45 = .ok (.if_icmp .ge 60, 3) := by decide +kernel
theorem dX3_rest_48 : decode cX3_rest 48 = .ok (.iconst 0, 1) := by decide +kernel
theorem dX3_rest_49 : decode cX3_rest 49 = .ok (.istore 5, 2) := by decide +kernel
theorem dX3_rest_51 : decode cX3_rest 51 = .ok (.iload 5, 2) := by decide +kernel
theorem dX3_rest_53 : decode cX3_rest 53 = .ok (.aload_n 0, 1) := by decide +kernel
theorem dX3_rest_54 : decode cX3_rest 54 = .ok (.getfield 42, 3) := by decide +kernel
theorem dX3_rest_57 : decode cX3_rest 57 = .ok (.if_icmp .ge 42, 3) := by decide +kernel
theorem dX3_rest_60 : decode cX3_rest 60 = .ok (.aload_n 0, 1) := by decide +kernel
theorem dX3_rest_61 : decode cX3_rest 61 = .ok (.bipush 20, 2) := by decide +kernel
theorem dX3_rest_63 : decode cX3_rest 63 = .ok (.iload 4, 2) := by decide +kernel
theorem dX3_rest_65 : decode cX3_rest 65 = .ok (.imul, 1) := by decide +kernel
theorem dX3_rest_66 : decode cX3_rest 66 = .ok (.iload 5, 2) := by decide +kernel
theorem dX3_rest_68 : decode cX3_rest 68 = .ok (.iadd, 1) := by decide +kernel
theorem dX3_rest_69 : decode cX3_rest 69 = .ok (.invokevirtual 103, 3) := by decide +kernel
theorem dX3_rest_72 : decode cX3_rest 72 = .ok (.iload_n 1, 1) := by decide +kernel
theorem dX3_rest_73 : decode cX3_rest 73 = .ok (.if_icmp .le 20, 3) := by decide +kernel
theorem dX3_rest_76 : decode cX3_rest 76 = .ok (.iload_n 3, 1) := by decide +kernel
theorem dX3_rest_77 : decode cX3_rest 77 = .ok (.iload_n 2, 1) := by decide +kernel
theorem dX3_rest_78 : decode cX3_rest 78 = .ok (.if_icmp .ne 12, 3) := by decide +kernel
theorem dX3_rest_81 : decode cX3_rest 81 = .ok (.bipush 20, 2) := by decide +kernel
theorem dX3_rest_83 : decode cX3_rest 83 = .ok (.iload 4, 2) := by decide +kernel
theorem dX3_rest_85 : decode cX3_rest 85 = .ok (.imul, 1) := by decide +kernel
theorem dX3_rest_86 : decode cX3_rest 86 = .ok (.iload 5, 2) := by decide +kernel
theorem dX3_rest_88 : decode cX3_rest 88 = .ok (.iadd, 1) := by decide +kernel
theorem dX3_rest_89 : decode cX3_rest 89 = .ok (.ireturn, 1) := by decide +kernel
theorem dX3_rest_90 : decode cX3_rest 90 = .ok (.iinc 3 1, 3) := by decide +kernel
theorem dX3_rest_93 : decode cX3_rest 93 = .ok (.iinc 5 1, 3) := by decide +kernel
theorem dX3_rest_96 : decode cX3_rest 96 = .ok (.goto (-45), 3) := by decide +kernel
theorem dX3_rest_99 : decode cX3_rest 99 = .ok (.iinc 4 1, 3) := by decide +kernel
theorem dX3_rest_102 : decode cX3_rest 102 = .ok (.goto (-63), 3) := by decide +kernel
theorem dX3_rest_105 : decode cX3_rest 105 = .ok (.iload_n 2, 1) := by decide +kernel
theorem dX3_rest_106 : decode cX3_rest 106 = .ok (.iconst (-1), 1) := by decide +kernel
theorem dX3_rest_107 : decode cX3_rest 107 = .ok (.if_icmp .ne 7, 3) := by decide +kernel
theorem dX3_rest_110 : decode cX3_rest 110 = .ok (.iload_n 3, 1) := by decide +kernel
theorem dX3_rest_111 : decode cX3_rest 111 = .ok (.goto 4, 3) := by decide +kernel
theorem dX3_rest_114 : decode cX3_rest 114 = .ok (.iconst (-1), 1) := by decide +kernel
theorem dX3_rest_115 : decode cX3_rest 115 = .ok (.ireturn, 1) := by decide +kernel
theorem dX3_sum_0 : decode cX3_sum 0 = .ok (.aload_n 0, 1) := by decide +kernel
theorem dX3_sum_1 : decode cX3_sum 1 = .ok (.iconst 0, 1) := by decide +kernel
theorem dX3_sum_2 : decode cX3_sum 2 = .ok (.putfield 48, 3) := by decide +kernel
theorem dX3_sum_5 : decode cX3_sum 5 = .ok (.lconst 0, 1) := by decide +kernel
theorem dX3_sum_6 : decode cX3_sum 6 = .ok (.lstore_n 1, 1) := by decide +kernel
theorem dX3_sum_7 : decode cX3_sum 7 = .ok (.iconst 0, 1) := by decide +kernel
theorem dX3_sum_8 : decode cX3_sum 8 = .ok (.istore_n 3, 1) := by decide +kernel
theorem dX3_sum_9 : decode cX3_sum 9 = .ok (.iload_n 3, 1) := by decide +kernel
theorem dX3_sum_10 : decode cX3_sum 10 = .ok (.aload_n 0, 1) := by decide +kernel
theorem dX3_sum_11 : decode cX3_sum 11 = .ok (.getfield 45, 3) := by decide +kernel
theorem dX3_sum_14 : decode cX3_sum 14 = .ok (.if_icmp .ge 55, 3) := by decide +kernel
theorem dX3_sum_17 : decode cX3_sum 17 = .ok (.iconst 0, 1) := by decide +kernel
theorem dX3_sum_18 : decode cX3_sum 18 = .ok (.istore 4, 2) := by decide +kernel
theorem dX3_sum_20 : decode cX3_sum 20 = .ok (.iload 4, 2) := by decide +kernel
theorem dX3_sum_22 : decode cX3_sum 22 = .ok (.aload_n 0, 1) := by decide +kernel
theorem dX3_sum_23 : decode cX3_sum 23 = .ok (.getfield 42, 3) := by decide +kernel
theorem dX3_sum_26 : decode cX3_sum 26 = .ok (.if_icmp .ge 37, 3) := by decide +kernel
theorem dX3_sum_29 : decode cX3_sum 29 = .ok (.aload_n 0, 1) := by decide +kernel
theorem dX3_sum_30 : decode cX3_sum 30 = .ok (.bipush 20, 2) := by decide +kernel
theorem dX3_sum_32 : decode cX3_sum 32 = .ok (.iload_n 3, 1) := by decide +kernel
theorem dX3_sum_33 : decode cX3_sum 33 = .ok (.imul, 1) := by decide +kernel
theorem dX3_sum_34 : decode cX3_sum 34 = .ok (.iload 4, 2) := by decide +kernel
theorem dX3_sum_36 : decode cX3_sum 36 = .ok (.iadd, 1) := by decide +kernel
theorem dX3_sum_37 : decode cX3_sum 37 = .ok (.invokevirtual 103, 3) := by decide +kernel
theorem dX3_sum_40 : decode cX3_sum 40 = .ok (.istore 5, 2) := by decide +kernel
theorem dX3_sum_42 : decode cX3_sum 42 = .ok (.lload_n 1, 1) := by decide +kernel
theorem dX3_sum_43 : decode cX3_sum 43 = .ok (.iload 5, 2) := by decide +kernel
theorem dX3_sum_45 : decode cX3_sum 45 = .ok (.ifCond .le 9, 3) := by decide +kernel
theorem dX3_sum_48 : decode cX3_sum 48 = .ok (.iload 5, 2) := by decide +kernel
theorem dX3_sum_50 : decode cX3_sum 50 = .ok (.i2l, 1) := by decide +kernel
theorem dX3_sum_51 : decode cX3_sum 51 = .ok (.goto 4, 3) := by decide +kernel
theorem dX3_sum_54 : decode cX3_sum 54 = .ok (.lconst 0, 1) := by decide +kernel
theorem dX3_sum_55 : decode cX3_sum 55 = .ok (.ladd, 1) := by decide +kernel
theorem dX3_sum_56 : decode cX3_sum 56 = .ok (.lstore_n 1, 1) := by decide +kernel
theorem dX3_sum_57 : decode cX3_sum 57 = .ok (.iinc 4 1, 3) := by decide +kernel
theorem dX3_sum_60 : decode cX3_sum 60 = .ok (.goto (-40), 3) := by decide +kernel
theorem dX3_sum_63 : decode cX3_sum 63 = .ok (.iinc 3 1, 3) := by decide +kernel
theorem dX3_sum_66 : decode cX3_sum 66 = .ok (.goto (-57), 3) := by decide +kernel
theorem dX3_sum_69 : decode cX3_sum 69 = .ok (.lload_n 1, 1) := by decide +kernel
theorem dX3_sum_70 : decode cX3_sum 70 = .ok (.lreturn, 1) := by decide +kernel
theorem dX3_moves_0 : decode cX3_moves 0 = .ok (.aload_n 0, 1) := by decide +kernel
theorem dX3_moves_1 : decode cX3_moves 1 = .ok (.iconst 0, 1) := by decide +kernel
theorem dX3_moves_2 : decode cX3_moves 2 = .ok (.putfield 48, 3) := by decide +kernel
theorem dX3_moves_5 : decode cX3_moves 5 = .ok (.aload_n 0, 1) := by decide +kernel
theorem dX3_moves_6 : decode cX3_moves 6 = .ok (.getfield 70, 3) := by decide +kernel
theorem dX3_moves_9 : decode cX3_moves 9 = .ok (.ireturn, 1) := by decide +kernel
theorem dX3_move_0 : decode cX3_move 0 = .ok (.aload_n 0, 1) := by decide +kernel
theorem dX3_move_1 : decode cX3_move 1 = .ok (.iload_n 1, 1) := by decide +kernel
theorem dX3_move_2 : decode cX3_move 2 = .ok (.ifCond .lt 18, 3) := by decide +kernel
theorem dX3_move_5 : decode cX3_move 5 = .ok (.iload_n 1, 1) := by decide +kernel
theorem dX3_move_6 : decode cX3_move 6 = .ok (.aload_n 0, 1) := by decide +kernel
theorem dX3_move_7 : decode cX3_move 7 = .ok (.getfield 70, 3) := by decide +kernel
theorem dX3_move_10 : decode cX3_move 10 = .ok (.if_icmp .ge 10, 3) := by decide +kernel
theorem dX3_move_13 : decode cX3_move 13 = .ok (.iload_n 1, 1) := by decide +kernel
theorem dX3_move_14 : decode cX3_move 14 = .ok (.sipush 2000, 3) := by decide +kernel
theorem dX3_move_17 : decode cX3_move 17 = .ok (.if_icmp .lt 7, 3) := by decide +kernel
theorem dX3_move_20 : decode cX3_move 20 = .ok (.iconst 1, 1) := by decide +kernel
theorem dX3_move_21 : decode cX3_move 21 = .ok (.goto 17, 3) := by decide +kernel
theorem dX3_move_24 : decode cX3_move 24 = .ok (.iload_n 2, 1) := by decide +kernel
theorem dX3_move_25 : decode cX3_move 25 = .ok (.iconst 0, 1) := by decide +kernel
theorem dX3_move_26 : decode cX3_move 26 = .ok (.iconst 2, 1) := by decide +kernel
theorem dX3_move_27 : decode cX3_move 27 = .ok (.invokestatic 55, 3) := by decide +kernel
theorem dX3_move_30 : decode cX3_move 30 = .ok (.ifCond .eq 7, 3) := by decide +kernel
theorem dX3_move_33 : decode cX3_move 33 = .ok (.iconst 0, 1) := by decide +kernel
theorem dX3_move_34 : decode cX3_move 34 = .ok (.goto 4, 3) := by decide +kernel
theorem dX3_move_37 : decode cX3_move 37 = .ok (.iconst 2, 1) := by decide +kernel
theorem dX3_move_38 : decode cX3_move 38 = .ok (.putfield 48, 3) := by decide +kernel
theorem dX3_move_41 : decode cX3_move 41 = .ok (.aload_n 0, 1) := by decide +kernel
theorem dX3_move_42 : decode cX3_move 42 = .ok (.getfield 48, 3) := by decide +kernel
theorem dX3_move_45 : decode cX3_move 45 = .ok (.ifCond .le 7, 3) := by decide +kernel
theorem dX3_move_48 : decode cX3_move 48 = .ok (.iconst 0, 1) := by decide +kernel
theorem dX3_move_49 : decode cX3_move 49 = .ok (.goto 13, 3) := by decide +kernel
theorem dX3_move_52 : decode cX3_move 52 = .ok (.aload_n 0, 1) := by decide +kernel
theorem dX3_move_53 : decode cX3_move 53 = .ok (.getfield 35, 3) := by decide +kernel
theorem dX3_move_56 : decode cX3_move 56 = .ok (.iconst 3, 1) := by decide +kernel
theorem dX3_move_57 : decode cX3_move 57 = .ok (.iload_n 1, 1) := by decide +kernel
theorem dX3_move_58 : decode cX3_move 58 = .ok (.imul, 1) := by decide +kernel
theorem dX3_move_59 : decode cX3_move 59 = .ok (.iload_n 2, 1) := by decide +kernel
theorem dX3_move_60 : decode cX3_move 60 = .ok (.iadd, 1) := by decide +kernel
theorem dX3_move_61 : decode cX3_move 61 = .ok (.iaload, 1) := by decide +kernel
theorem dX3_move_62 : decode cX3_move 62 = .ok (.ireturn, 1) := by decide +kernel
theorem dX3_way_0 : decode cX3_way 0 = .ok (.aload_n 0, 1) := by decide +kernel
theorem dX3_way_1 : decode cX3_way 1 = .ok (.iconst 0, 1) := by decide +kernel
theorem dX3_way_2 : decode cX3_way 2 = .ok (.putfield 48, 3) := by decide +kernel
theorem dX3_way_5 : decode cX3_way 5 = .ok (.aload_n 0, 1) := by decide +kernel
theorem dX3_way_6 : decode cX3_way 6 = .ok (.getfield 73, 3) := by decide +kernel
theorem dX3_way_9 : decode cX3_way 9 = .ok (.lreturn, 1) := by decide +kernel
theorem dX3_repeat_0 : decode cX3_repeat 0 = .ok (.aload_n 0, 1) := by decide +kernel
theorem dX3_repeat_1 : decode cX3_repeat 1 = .ok (.iload_n 1, 1) := by decide +kernel
theorem dX3_repeat_2 : decode cX3_repeat 2 = .ok (.iconst 1, 1) := by decide +kernel
theorem dX3_repeat_3 : decode cX3_repeat 3 = .ok (.bipush 20, 2) := by decide +kernel
theorem dX3_repeat_5 : decode cX3_repeat 5 = .ok (.invokestatic 55, 3) := by decide +kernel
theorem dX3_repeat_8 : decode cX3_repeat 8 = .ok (.ifCond .eq 17, 3) := by decide +kernel
theorem dX3_repeat_11 : decode cX3_repeat 11 = .ok (.iload_n 2, 1) := by decide +kernel
theorem dX3_repeat_12 : decode cX3_repeat 12 = .ok (.iconst 1, 1) := by decide +kernel
theorem dX3_repeat_13 : decode cX3_repeat 13 = .ok (.bipush 20, 2) := by decide +kernel
theorem dX3_repeat_15 : decode cX3_repeat 15 = .ok (.invokestatic 55, 3) := by decide +kernel
theorem dX3_repeat_18 : decode cX3_repeat 18 = .ok (.ifCond .eq 7, 3) := by decide +kernel
theorem dX3_repeat_21 : decode cX3_repeat 21 = .ok (.iconst 0, 1) := by decide +kernel
theorem dX3_repeat_22 : decode cX3_repeat 22 = .ok (.goto 4, 3) := by decide +kernel
theorem dX3_repeat_25 : decode cX3_repeat 25 = .ok (.iconst 1, 1) := by decide +kernel
theorem dX3_repeat_26 : decode cX3_repeat 26 = .ok (.putfield 48, 3) := by decide +kernel
theorem dX3_repeat_29 : decode cX3_repeat 29 = .ok (.iconst 0, 1) := by decide +kernel
theorem dX3_repeat_30 : decode cX3_repeat 30 = .ok (.istore_n 3, 1) := by decide +kernel
theorem dX3_repeat_31 : decode cX3_repeat 31 = .ok (.aload_n 0, 1) := by decide +kernel
theorem dX3_repeat_32 : decode cX3_repeat 32 = .ok (.getfield 45, 3) := by decide +kernel
theorem dX3_repeat_35 : decode cX3_repeat 35 = .ok (.iconst 1, 1) := by decide +kernel
theorem dX3_repeat_36 : decode cX3_repeat 36 = .ok (.isub, 1) := by decide +kernel
theorem dX3_repeat_37 : decode cX3_repeat 37 = .ok (.istore 4, 2) := by decide +kernel
theorem dX3_repeat_39 : decode cX3_repeat 39 = .ok (.iload 4, 2) := by decide +kernel
theorem dX3_repeat_41 : decode cX3_repeat 41 = .ok (.ifCond .lt 95, 3) := by decide +kernel
theorem dX3_repeat_44 : decode cX3_repeat 44 = .ok (.aload_n 0, 1) := by decide +kernel
theorem dX3_repeat_45 : decode cX3_repeat 45 = .ok (.getfield 48, 3) := by decide +kernel
theorem dX3_repeat_48 : decode cX3_repeat 48 = .ok (.ifCond .ne 88, 3) := by decide +kernel
theorem dX3_repeat_51 : decode cX3_repeat 51 = .ok (.aload_n 0, 1) := by decide +kernel
theorem dX3_repeat_52 : decode cX3_repeat 52 = .ok (.getfield 42, 3) := by decide +kernel
theorem dX3_repeat_55 : decode cX3_repeat 55 = .ok (.iconst 1, 1) := by decide +kernel
theorem dX3_repeat_56 : decode cX3_repeat 56 = .ok (.isub, 1) := by decide +kernel
theorem dX3_repeat_57 : decode cX3_repeat 57 = .ok (.istore 5, 2) := by decide +kernel
theorem dX3_repeat_59 : decode cX3_repeat 59 = .ok (.iload 5, 2) := by decide +kernel
theorem dX3_repeat_61 : decode cX3_repeat 61 = .ok (.ifCond .lt 69, 3) := by decide +kernel
theorem dX3_repeat_64 : decode cX3_repeat 64 = .ok (.aload_n 0, 1) := by decide +kernel
theorem dX3_repeat_65 : decode cX3_repeat 65 = .ok (.getfield 7, 3) := by decide +kernel
theorem dX3_repeat_68 : decode cX3_repeat 68 = .ok (.bipush 20, 2) := by decide +kernel
theorem dX3_repeat_70 : decode cX3_repeat 70 = .ok (.iload 4, 2) := by decide +kernel
theorem dX3_repeat_72 : decode cX3_repeat 72 = .ok (.iload_n 2, 1) := by decide +kernel
theorem dX3_repeat_73 : decode cX3_repeat 73 = .ok (.irem, 1) := by decide +kernel
theorem dX3_repeat_74 : decode cX3_repeat 74 = .ok (.imul, 1) := by decide +kernel
theorem dX3_repeat_75 : decode cX3_repeat 75 = .ok (.iload 5, 2) := by decide +kernel
theorem dX3_repeat_77 : decode cX3_repeat 77 = .ok (.iload_n 1, 1) := by decide +kernel
theorem dX3_repeat_78 : decode cX3_repeat 78 = .ok (.irem, 1) := by decide +kernel
theorem dX3_repeat_79 : decode cX3_repeat 79 = .ok (.iadd, 1) := by decide +kernel
theorem dX3_repeat_80 : decode cX3_repeat 80 = .ok (.iaload, 1) := by decide +kernel
theorem dX3_repeat_81 : decode cX3_repeat 81 = .ok (.istore 6, 2) := by decide +kernel
theorem dX3_repeat_83 : decode cX3_repeat 83 = .ok (.aload_n 0, 1) := by decide +kernel
theorem dX3_repeat_84 : decode cX3_repeat 84 = .ok (.getfield 7, 3) := by decide +kernel
theorem dX3_repeat_87 : decode cX3_repeat 87 = .ok (.bipush 20, 2) := by decide +kernel
theorem dX3_repeat_89 : decode cX3_repeat 89 = .ok (.iload 4, 2) := by decide +kernel
theorem dX3_repeat_91 : decode cX3_repeat 91 = .ok (.imul, 1) := by decide +kernel
theorem dX3_repeat_92 : decode cX3_repeat 92 = .ok (.iload 5, 2) := by decide +kernel
theorem dX3_repeat_94 : decode cX3_repeat 94 = .ok (.iadd, 1) := by decide +kernel
theorem dX3_repeat_95 : decode cX3_repeat 95 = .ok (.iaload, 1) := by decide +kernel
theorem dX3_repeat_96 : decode cX3_repeat 96 = .ok (.iload 6, 2) := by decide +kernel
theorem dX3_repeat_98 : decode cX3_repeat 98 = .ok (.if_icmp .eq 9, 3) := by decide +kernel
theorem dX3_repeat_101 : decode cX3_repeat 101 = .ok (.iload_n 3, 1) := by decide +kernel
theorem dX3_repeat_102 : decode cX3_repeat 102 = .ok (.iconst 1, 1) := by decide +kernel
theorem dX3_repeat_103 : decode cX3_repeat 103 = .ok (.iadd, 1) := by decide +kernel
theorem dX3_repeat_104 : decode cX3_repeat 104 = .ok (.goto 4, 3) := by decide +kernel
theorem dX3_repeat_107 : decode cX3_repeat 107 = .ok (.iload_n 3, 1) := by decide +kernel
theorem dX3_repeat_108 : decode cX3_repeat 108 = .ok (.istore_n 3, 1) := by decide +kernel
theorem dX3_repeat_109 : decode cX3_repeat 109 = .ok (.aload_n 0, 1) := by decide +kernel
theorem dX3_repeat_110 : decode cX3_repeat 110 = .ok (.getfield 7, 3) := by decide +kernel
theorem dX3_repeat_113 : decode cX3_repeat 113 = .ok (.bipush 20, 2) := by decide +kernel
theorem dX3_repeat_115 : decode cX3_repeat 115 = .ok (.iload 4, 2) := by decide +kernel
theorem dX3_repeat_117 : decode cX3_repeat 117 = .ok (.imul, 1) := by decide +kernel
theorem dX3_repeat_118 : decode cX3_repeat 118 = .ok (.iload 5, 2) := by decide +kernel
theorem dX3_repeat_120 : decode cX3_repeat 120 = .ok (.iadd, 1) := by decide +kernel
theorem dX3_repeat_121 : decode cX3_repeat 121 = .ok (.iload 6, 2) := by decide +kernel
theorem dX3_repeat_123 : decode cX3_repeat 123 = .ok (.iastore, 1) := by decide +kernel
theorem dX3_repeat_124 : decode cX3_repeat 124 = .ok (.iinc 5 (-1), 3) := by decide +kernel
theorem dX3_repeat_127 : decode cX3_repeat 127 = .ok (.goto (-68), 3) := by decide +kernel
theorem dX3_repeat_130 : decode cX3_repeat 130 = .ok (.iinc 4 (-1), 3) := by decide +kernel
theorem dX3_repeat_133 : decode cX3_repeat 133 = .ok (.goto (-94), 3) := by decide +kernel
theorem dX3_repeat_136 : decode cX3_repeat 136 = .ok (.iload_n 3, 1) := by decide +kernel
theorem dX3_repeat_137 : decode cX3_repeat 137 = .ok (.ireturn, 1) := by decide +kernel
theorem dX3_merge_0 : decode cX3_merge 0 = .ok (.aload_n 0, 1) := by decide +kernel
theorem dX3_merge_1 : decode cX3_merge 1 = .ok (.iload_n 1, 1) := by decide +kernel
theorem dX3_merge_2 : decode cX3_merge 2 = .ok (.iconst 0, 1) := by decide +kernel
theorem dX3_merge_3 : decode cX3_merge 3 = .ok (.iconst 3, 1) := by decide +kernel
theorem dX3_merge_4 : decode cX3_merge 4 = .ok (.invokestatic 55, 3) := by decide +kernel
theorem dX3_merge_7 : decode cX3_merge 7 = .ok (.ifCond .eq 14, 3) := by decide +kernel
theorem dX3_merge_10 : decode cX3_merge 10 = .ok (.iload_n 2, 1) := by decide +kernel
theorem dX3_merge_11 : decode cX3_merge 11 = .ok (.iconst 0, 1) := by decide +kernel
theorem dX3_merge_12 : decode cX3_merge 12 = .ok (.sipush 1000, 3) := by decide +kernel
theorem dX3_merge_15 : decode cX3_merge 15 = .ok (.invokestatic 55, 3) := by decide +kernel
theorem dX3_merge_18 : decode cX3_merge 18 = .ok (.ifCond .ne 7, 3) := by decide +kernel
theorem dX3_merge_21 : decode cX3_merge 21 = .ok (.iconst 1, 1) := by decide +kernel
theorem dX3_merge_22 : decode cX3_merge 22 = .ok (.goto 19, 3) := by decide +kernel
theorem dX3_merge_25 : decode cX3_merge 25 = .ok (.iload_n 1, 1) := by decide +kernel
theorem dX3_merge_26 : decode cX3_merge 26 = .ok (.ifCond .le 14, 3) := by decide +kernel
theorem dX3_merge_29 : decode cX3_merge 29 = .ok (.aload_n 0, 1) := by decide +kernel
theorem dX3_merge_30 : decode cX3_merge 30 = .ok (.getfield 106, 3) := by decide +kernel
theorem dX3_merge_33 : decode cX3_merge 33 = .ok (.ifCond .ne 7, 3) := by decide +kernel
theorem dX3_merge_36 : decode cX3_merge 36 = .ok (.iconst 2, 1) := by decide +kernel
theorem dX3_merge_37 : decode cX3_merge 37 = .ok (.goto 4, 3) := by decide +kernel
theorem dX3_merge_40 : decode cX3_merge 40 = .ok (.iconst 0, 1) := by decide +kernel
theorem dX3_merge_41 : decode cX3_merge 41 = .ok (.putfield 48, 3) := by decide +kernel
theorem dX3_merge_44 : decode cX3_merge 44 = .ok (.iconst 0, 1) := by decide +kernel
theorem dX3_merge_45 : decode cX3_merge 45 = .ok (.istore_n 3, 1) := by decide +kernel
theorem dX3_merge_46 : decode cX3_merge 46 = .ok (.iconst 0, 1) := by decide +kernel
theorem dX3_merge_47 : decode cX3_merge 47 = .ok (.istore 4, 2) := by decide +kernel
theorem dX3_merge_49 : decode cX3_merge 49 = .ok (.iload 4, 2) := by decide +kernel
theorem dX3_merge_51 : decode cX3_merge 51 = .ok (.sipush 400, 3) := by decide +kernel
theorem dX3_merge_54 : decode cX3_merge 54 = .ok (.if_icmp .ge 206, 3) := by decide +kernel
theorem dX3_merge_57 : decode cX3_merge 57 = .ok (.aload_n 0, 1) := by decide +kernel
theorem dX3_merge_58 : decode cX3_merge 58 = .ok (.getfield 48, 3) := by decide +kernel
theorem dX3_merge_61 : decode cX3_merge 61 = .ok (.ifCond .ne 199, 3) := by decide +kernel
theorem dX3_merge_64 : decode cX3_merge 64 = .ok (.iload_n 1, 1) := by decide +kernel
theorem dX3_merge_65 : decode cX3_merge 65 = .ok (.ifCond .ne 17, 3) := by decide +kernel
theorem dX3_merge_68 : decode cX3_merge 68 = .ok (.aload_n 0, 1) := by decide +kernel
theorem dX3_merge_69 : decode cX3_merge 69 = .ok (.getfield 16, 3) := by decide +kernel
theorem dX3_merge_72 : decode cX3_merge 72 = .ok (.iload 4, 2) := by decide +kernel
theorem dX3_merge_74 : decode cX3_merge 74 = .ok (.aload_n 0, 1) := by decide +kernel
theorem dX3_merge_75 : decode cX3_merge 75 = .ok (.getfield 7, 3) := by decide +kernel
theorem dX3_merge_78 : decode cX3_merge 78 = .ok (.iload 4, 2) := by decide +kernel
theorem dX3_merge_80 : decode cX3_merge 80 = .ok (.iaload, 1) := by decide +kernel
theorem dX3_merge_81 : decode cX3_merge 81 = .ok (.iastore, 1) := by decide +kernel
theorem dX3_merge_82 : decode cX3_merge 82 = .ok (.iload 4, 2) := by decide +kernel
theorem dX3_merge_84 : decode cX3_merge 84 = .ok (.bipush 20, 2) := by decide +kernel
theorem dX3_merge_86 : decode cX3_merge 86 = .ok (.irem, 1) := by decide +kernel
theorem dX3_merge_87 : decode cX3_merge 87 = .ok (.aload_n 0, 1) := by decide +kernel
theorem dX3_merge_88 : decode cX3_merge 88 = .ok (.getfield 42, 3) := by decide +kernel
theorem dX3_merge_91 : decode cX3_merge 91 = .ok (.if_icmp .ge 163, 3) := by decide +kernel
theorem dX3_merge_94 : decode cX3_merge 94 = .ok (.iload 4, 2) := by decide +kernel
theorem dX3_merge_96 : decode cX3_merge 96 = .ok (.bipush 20, 2) := by decide +kernel
theorem dX3_merge_98 : decode cX3_merge 98 = .ok (.idiv, 1) := by decide +kernel
theorem dX3_merge_99 : decode cX3_merge 99 = .ok (.aload_n 0, 1) := by decide +kernel
theorem dX3_merge_100 : decode cX3_merge 100 = .ok (.getfield 45, 3) := by decide +kernel
theorem dX3_merge_103 : decode cX3_merge 103 = .ok (.if_icmp .ge 151, 3) := by decide +kernel
theorem dX3_merge_106 : decode cX3_merge 106 = .ok (.aload_n 0, 1) := by decide +kernel
theorem dX3_merge_107 : decode cX3_merge 107 = .ok (.getfield 7, 3) := by decide +kernel
theorem dX3_merge_110 : decode cX3_merge 110 = .ok (.iload 4, 2) := by decide +kernel
theorem dX3_merge_112 : decode cX3_merge 112 = .ok (.iaload, 1) := by decide +kernel
theorem dX3_merge_113 : decode cX3_merge 113 = .ok (.istore 5, 2) := by decide +kernel
theorem dX3_merge_115 : decode cX3_merge 115 = .ok (.iload 5, 2) := by decide +kernel
theorem dX3_merge_117 : decode cX3_merge 117 = .ok (.aload_n 0, 1) := by decide +kernel
theorem dX3_merge_118 : decode cX3_merge 118 = .ok (.getfield 16, 3) := by decide +kernel
theorem dX3_merge_121 : decode cX3_merge 121 = .ok (.iload 4, 2) := by decide +kernel
theorem dX3_merge_123 : decode cX3_merge 123 = .ok (.iaload, 1) := by decide +kernel
theorem dX3_merge_124 : decode cX3_merge 124 = .ok (.iadd, 1) := by decide +kernel
theorem dX3_merge_125 : decode cX3_merge 125 = .ok (.iload_n 2, 1) := by decide +kernel
theorem dX3_merge_126 : decode cX3_merge 126 = .ok (.isub, 1) := by decide +kernel
theorem dX3_merge_127 : decode cX3_merge 127 = .ok (.istore 6, 2) := by decide +kernel
theorem dX3_merge_129 : decode cX3_merge 129 = .ok (.iload_n 1, 1) := by decide +kernel
theorem dX3_merge_130 : decode cX3_merge 130 = .ok (.iconst 1, 1) := by decide +kernel
theorem dX3_merge_131 : decode cX3_merge 131 = .ok (.if_icmp .ne 30, 3) := by decide +kernel
theorem dX3_merge_134 : decode cX3_merge 134 = .ok (.aload_n 0, 1) := by decide +kernel
theorem dX3_merge_135 : decode cX3_merge 135 = .ok (.getfield 16, 3) := by decide +kernel
theorem dX3_merge_138 : decode cX3_merge 138 = .ok (.iload 4, 2) := by decide +kernel
theorem dX3_merge_140 : decode cX3_merge 140 = .ok (.iaload, 1) := by decide +kernel
theorem dX3_merge_141 : decode cX3_merge 141 = .ok (.iload 5, 2) := by decide +kernel
theorem dX3_merge_143 : decode cX3_merge 143 = .ok (.if_icmp .le 13, 3) := by decide +kernel
theorem dX3_merge_146 : decode cX3_merge 146 = .ok (.aload_n 0, 1) := by decide +kernel
theorem dX3_merge_147 : decode cX3_merge 147 = .ok (.getfield 16, 3) := by decide +kernel
theorem dX3_merge_150 : decode cX3_merge 150 = .ok (.iload 4, 2) := by decide +kernel
theorem dX3_merge_152 : decode cX3_merge 152 = .ok (.iaload, 1) := by decide +kernel
theorem dX3_merge_153 : decode cX3_merge 153 = .ok (.goto 75, 3) := by decide +kernel
theorem dX3_merge_156 : decode cX3_merge 156 = .ok (.iload 5, 2) := by decide +kernel
theorem dX3_merge_158 : decode cX3_merge 158 = .ok (.goto 70, 3) := by decide +kernel
theorem dX3_merge_161 : decode cX3_merge 161 = .ok (.iload_n 1, 1) := by decide +kernel
theorem dX3_merge_162 : decode cX3_merge 162 = .ok (.iconst 2, 1) := by decide +kernel
theorem dX3_merge_163 : decode cX3_merge 163 = .ok (.if_icmp .ne 30, 3) := by decide +kernel
theorem dX3_merge_166 : decode cX3_merge 166 = .ok (.aload_n 0, 1) := by decide +kernel
theorem dX3_merge_167 : decode cX3_merge 167 = .ok (.getfield 16, 3) := by decide +kernel
theorem dX3_merge_170 : decode cX3_merge 170 = .ok (.iload 4, 2) := by decide +kernel
theorem dX3_merge_172 : decode cX3_merge 172 = .ok (.iaload, 1) := by decide +kernel
theorem dX3_merge_173 : decode cX3_merge 173 = .ok (.iload 5, 2) := by decide +kernel
theorem dX3_merge_175 : decode cX3_merge 175 = .ok (.if_icmp .ge 13, 3) := by decide +kernel
theorem dX3_merge_178 : decode cX3_merge 178 = .ok (.aload_n 0, 1) := by decide +kernel
theorem dX3_merge_179 : decode cX3_merge 179 = .ok (.getfield 16, 3) := by decide +kernel
theorem dX3_merge_182 : decode cX3_merge 182 = .ok (.iload 4, 2) := by decide +kernel
theorem dX3_merge_184 : decode cX3_merge 184 = .ok (.iaload, 1) := by decide +kernel
theorem dX3_merge_185 : decode cX3_merge 185 = .ok (.goto 43, 3) := by decide +kernel
theorem dX3_merge_188 : decode cX3_merge 188 = .ok (.iload 5, 2) := by decide +kernel
theorem dX3_merge_190 : decode cX3_merge 190 = .ok (.goto 38, 3) := by decide +kernel
theorem dX3_merge_193 : decode cX3_merge 193 = .ok (.iload_n 1, 1) := by decide +kernel
theorem dX3_merge_194 : decode cX3_merge 194 = .ok (.iconst 3, 1) := by decide +kernel
theorem dX3_merge_195 : decode cX3_merge 195 = .ok (.if_icmp .ne 31, 3) := by decide +kernel
theorem dX3_merge_198 : decode cX3_merge 198 = .ok (.iload 6, 2) := by decide +kernel
theorem dX3_merge_200 : decode cX3_merge 200 = .ok (.ifCond .ge 7, 3) := by decide +kernel
theorem dX3_merge_203 : decode cX3_merge 203 = .ok (.iconst 0, 1) := by decide +kernel
theorem dX3_merge_204 : decode cX3_merge 204 = .ok (.goto 24, 3) := by decide +kernel
theorem dX3_merge_207 : decode cX3_merge 207 = .ok (.iload 6, 2) := by decide +kernel
theorem dX3_merge_209 : decode cX3_merge 209 = .ok (.sipush 1000, 3) := by decide +kernel
theorem dX3_merge_212 : decode cX3_merge 212 = .ok (.if_icmp .le 9, 3) := by decide +kernel
theorem dX3_merge_215 : decode cX3_merge 215 = .ok (.sipush 1000, 3) := by decide +kernel
theorem dX3_merge_218 : decode cX3_merge 218 = .ok (.goto 10, 3) := by decide +kernel
theorem dX3_merge_221 : decode cX3_merge 221 = .ok (.iload 6, 2) := by decide +kernel
theorem dX3_merge_223 : decode cX3_merge 223 = .ok (.goto 5, 3) := by decide +kernel
theorem dX3_merge_226 : decode cX3_merge 226 = .ok (.iload 5, 2) := by decide +kernel
theorem dX3_merge_228 : decode cX3_merge 228 = .ok (.istore 7, 2) := by decide +kernel
theorem dX3_merge_230 : decode cX3_merge 230 = .ok (.iload 7, 2) := by decide +kernel
theorem dX3_merge_232 : decode cX3_merge 232 = .ok (.iload 5, 2) := by decide +kernel
theorem dX3_merge_234 : decode cX3_merge 234 = .ok (.if_icmp .eq 9, 3) := by decide +kernel
theorem dX3_merge_237 : decode cX3_merge 237 = .ok (.iload_n 3, 1) := by decide +kernel
theorem dX3_merge_238 : decode cX3_merge 238 = .ok (.iconst 1, 1) := by decide +kernel
theorem dX3_merge_239 : decode cX3_merge 239 = .ok (.iadd, 1) := by decide +kernel
theorem dX3_merge_240 : decode cX3_merge 240 = .ok (.goto 4, 3) := by decide +kernel
theorem dX3_merge_243 : decode cX3_merge 243 = .ok (.iload_n 3, 1) := by decide +kernel
theorem dX3_merge_244 : decode cX3_merge 244 = .ok (.istore_n 3, 1) := by decide +kernel
theorem dX3_merge_245 : decode cX3_merge 245 = .ok (.aload_n 0, 1) := by decide +kernel
theorem dX3_merge_246 : decode cX3_merge 246 = .ok (.getfield 7, 3) := by decide +kernel
theorem dX3_merge_249 : decode cX3_merge 249 = .ok (.iload 4, 2) := by decide +kernel
theorem dX3_merge_251 : decode cX3_merge 251 = .ok (.iload 7, 2) := by decide +kernel
theorem dX3_merge_253 : decode cX3_merge 253 = .ok (.iastore, 1) := by decide +kernel
theorem dX3_merge_254 : decode cX3_merge 254 = .ok (.iinc 4 1, 3) := by decide +kernel
theorem dX3_merge_257 : decode cX3_merge 257 = .ok (.goto (-208), 3) := by decide +kernel
theorem dX3_merge_260 : decode cX3_merge 260 = .ok (.aload_n 0, 1) := by decide +kernel
theorem dX3_merge_261 : decode cX3_merge 261 = .ok (.aload_n 0, 1) := by decide +kernel
theorem dX3_merge_262 : decode cX3_merge 262 = .ok (.getfield 106, 3) := by decide +kernel
theorem dX3_merge_265 : decode cX3_merge 265 = .ok (.ifCond .ne 10, 3) := by decide +kernel
theorem dX3_merge_268 : decode cX3_merge 268 = .ok (.aload_n 0, 1) := by decide +kernel
theorem dX3_merge_269 : decode cX3_merge 269 = .ok (.getfield 48, 3) := by decide +kernel
theorem dX3_merge_272 : decode cX3_merge 272 = .ok (.ifCond .ne 7, 3) := by decide +kernel
theorem dX3_merge_275 : decode cX3_merge 275 = .ok (.iconst 1, 1) := by decide +kernel
theorem dX3_merge_276 : decode cX3_merge 276 = .ok (.goto 4, 3) := by decide +kernel
theorem dX3_merge_279 : decode cX3_merge 279 = .ok (.iconst 0, 1) := by decide +kernel
theorem dX3_merge_280 : decode cX3_merge 280 = .ok (.putfield 106, 3) := by decide +kernel
theorem dX3_merge_283 : decode cX3_merge 283 = .ok (.iload_n 3, 1) := by decide +kernel
theorem dX3_merge_284 : decode cX3_merge 284 = .ok (.ireturn, 1) := by decide +kernel
end
section
theorem dL_cell_0 : decode cL_cell 0 = .ok (.iload_n 1, 1) := by decide +kernel
theorem dL_cell_1 : decode cL_cell 1 = .ok (.aload_n 0, 1) := by decide +kernel
theorem dL_cell_2 : decode cL_cell 2 = .ok (.arraylength, 1) := by decide +kernel
theorem dL_cell_3 : decode cL_cell 3 = .ok (.if_icmp .ge 9, 3) := by decide +kernel
theorem dL_cell_6 : decode cL_cell 6 = .ok (.aload_n 0, 1) := by decide +kernel
theorem dL_cell_7 : decode cL_cell 7 = .ok (.iload_n 1, 1) := by decide +kernel
theorem dL_cell_8 : decode cL_cell 8 = .ok (.iaload, 1) := by decide +kernel
theorem dL_cell_9 : decode cL_cell 9 = .ok (.goto 4, 3) := by decide +kernel
theorem dL_cell_12 : decode cL_cell 12 = .ok (.iconst 0, 1) := by decide +kernel
theorem dL_cell_13 : decode cL_cell 13 = .ok (.ireturn, 1) := by decide +kernel
theorem dL_put_0 : decode cL_put 0 = .ok (.aload 4, 2) := by decide +kernel
theorem dL_put_2 : decode cL_put 2 = .ok (.iconst 0, 1) := by decide +kernel
theorem dL_put_3 : decode cL_put 3 = .ok (.aload_n 0, 1) := by decide +kernel
theorem dL_put_4 : decode cL_put 4 = .ok (.iload_n 1, 1) := by decide +kernel
theorem dL_put_5 : decode cL_put 5 = .ok (.iload_n 2, 1) := by decide +kernel
theorem dL_put_6 : decode cL_put 6 = .ok (.iload_n 3, 1) := by decide +kernel
theorem dL_put_7 : decode cL_put 7 = .ok (.invokevirtual 7, 3) := by decide +kernel
theorem dL_put_10 : decode cL_put 10 = .ok (.ifCond .eq 7, 3) := by decide +kernel
theorem dL_put_13 : decode cL_put 13 = .ok (.lconst 1, 1) := by decide +kernel
theorem dL_put_14 : decode cL_put 14 = .ok (.goto 4, 3) := by decide +kernel
theorem dL_put_17 : decode cL_put 17 = .ok (.lconst 0, 1) := by decide +kernel
theorem dL_put_18 : decode cL_put 18 = .ok (.lastore, 1) := by decide +kernel
theorem dL_put_19 : decode cL_put 19 = .ok (.goto 11, 3) := by decide +kernel
theorem dL_put_22 : decode cL_put 22 = .ok (.astore 5, 2) := by decide +kernel
theorem dL_put_24 : decode cL_put 24 = .ok (.iconst 1, 1) := by decide +kernel
theorem dL_put_25 : decode cL_put 25 = .ok (.ireturn, 1) := by decide +kernel
theorem dL_put_26 : decode cL_put 26 = .ok (.astore 5, 2) := by decide +kernel
theorem dL_put_28 : decode cL_put 28 = .ok (.iconst 2, 1) := by decide +kernel
theorem dL_put_29 : decode cL_put 29 = .ok (.ireturn, 1) := by decide +kernel
theorem dL_put_30 : decode cL_put 30 = .ok (.iconst 0, 1) := by decide +kernel
theorem dL_put_31 : decode cL_put 31 = .ok (.ireturn, 1) := by decide +kernel
theorem dL_tool_0 : decode cL_tool 0 = .ok (.aload 4, 2) := by decide +kernel
theorem dL_tool_2 : decode cL_tool 2 = .ok (.iconst 0, 1) := by decide +kernel
theorem dL_tool_3 : decode cL_tool 3 = .ok (.aload_n 0, 1) := by decide +kernel
theorem dL_tool_4 : decode cL_tool 4 = .ok (.iload_n 1, 1) := by decide +kernel
theorem dL_tool_5 : decode cL_tool 5 = .ok (.iload_n 2, 1) := by decide +kernel
theorem dL_tool_6 : decode cL_tool 6 = .ok (.iload_n 3, 1) := by decide +kernel
theorem dL_tool_7 : decode cL_tool 7 = .ok (.invokevirtual 17, 3) := by decide +kernel
theorem dL_tool_10 : decode cL_tool 10 = .ok (.ifCond .eq 7, 3) := by decide +kernel
theorem dL_tool_13 : decode cL_tool 13 = .ok (.lconst 1, 1) := by decide +kernel
theorem dL_tool_14 : decode cL_tool 14 = .ok (.goto 4, 3) := by decide +kernel
theorem dL_tool_17 : decode cL_tool 17 = .ok (.lconst 0, 1) := by decide +kernel
theorem dL_tool_18 : decode cL_tool 18 = .ok (.lastore, 1) := by decide +kernel
theorem dL_tool_19 : decode cL_tool 19 = .ok (.goto 11, 3) := by decide +kernel
theorem dL_tool_22 : decode cL_tool 22 = .ok (.astore 5, 2) := by decide +kernel
theorem dL_tool_24 : decode cL_tool 24 = .ok (.iconst 1, 1) := by decide +kernel
theorem dL_tool_25 : decode cL_tool 25 = .ok (.ireturn, 1) := by decide +kernel
theorem dL_tool_26 : decode cL_tool 26 = .ok (.astore 5, 2) := by decide +kernel
theorem dL_tool_28 : decode cL_tool 28 = .ok (.iconst 2, 1) := by decide +kernel
theorem dL_tool_29 : decode cL_tool 29 = .ok (.ireturn, 1) := by decide +kernel
theorem dL_tool_30 : decode cL_tool 30 = .ok (.iconst 0, 1) := by decide +kernel
theorem dL_tool_31 : decode cL_tool 31 = .ok (.ireturn, 1) := by decide +kernel
theorem dL_stock_0 : decode cL_stock 0 = .ok (.aload_n 2, 1) := by decide +kernel
theorem dL_stock_1 : decode cL_stock 1 = .ok (.iconst 0, 1) := by decide +kernel
theorem dL_stock_2 : decode cL_stock 2 = .ok (.aload_n 0, 1) := by decide +kernel
theorem dL_stock_3 : decode cL_stock 3 = .ok (.iload_n 1, 1) := by decide +kernel
theorem dL_stock_4 : decode cL_stock 4 = .ok (.invokevirtual 20, 3) := by decide +kernel
theorem dL_stock_7 : decode cL_stock 7 = .ok (.i2l, 1) := by decide +kernel
theorem dL_stock_8 : decode cL_stock 8 = .ok (.lastore, 1) := by decide +kernel
theorem dL_stock_9 : decode cL_stock 9 = .ok (.goto 9, 3) := by decide +kernel
theorem dL_stock_12 : decode cL_stock 12 = .ok (.astore_n 3, 1) := by decide +kernel
theorem dL_stock_13 : decode cL_stock 13 = .ok (.iconst 1, 1) := by decide +kernel
theorem dL_stock_14 : decode cL_stock 14 = .ok (.ireturn, 1) := by decide +kernel
theorem dL_stock_15 : decode cL_stock 15 = .ok (.astore_n 3, 1) := by decide +kernel
theorem dL_stock_16 : decode cL_stock 16 = .ok (.iconst 2, 1) := by decide +kernel
theorem dL_stock_17 : decode cL_stock 17 = .ok (.ireturn, 1) := by decide +kernel
theorem dL_stock_18 : decode cL_stock 18 = .ok (.iconst 0, 1) := by decide +kernel
theorem dL_stock_19 : decode cL_stock 19 = .ok (.ireturn, 1) := by decide +kernel
theorem dL_lift_0 : decode cL_lift 0 = .ok (.aload 4, 2) := by decide +kernel
theorem dL_lift_2 : decode cL_lift 2 = .ok (.iconst 0, 1) := by decide +kernel
theorem dL_lift_3 : decode cL_lift 3 = .ok (.aload_n 0, 1) := by decide +kernel
theorem dL_lift_4 : decode cL_lift 4 = .ok (.iload_n 1, 1) := by decide +kernel
theorem dL_lift_5 : decode cL_lift 5 = .ok (.iload_n 2, 1) := by decide +kernel
theorem dL_lift_6 : decode cL_lift 6 = .ok (.iload_n 3, 1) := by decide +kernel
theorem dL_lift_7 : decode cL_lift 7 = .ok (.invokevirtual 26, 3) := by decide +kernel
theorem dL_lift_10 : decode cL_lift 10 = .ok (.i2l, 1) := by decide +kernel
theorem dL_lift_11 : decode cL_lift 11 = .ok (.lastore, 1) := by decide +kernel
theorem dL_lift_12 : decode cL_lift 12 = .ok (.goto 7, 3) := by decide +kernel
theorem dL_lift_15 : decode cL_lift 15 = .ok (.astore 5, 2) := by decide +kernel
theorem dL_lift_17 : decode cL_lift 17 = .ok (.iconst 1, 1) := by decide +kernel
theorem dL_lift_18 : decode cL_lift 18 = .ok (.ireturn, 1) := by decide +kernel
theorem dL_lift_19 : decode cL_lift 19 = .ok (.iconst 0, 1) := by decide +kernel
theorem dL_lift_20 : decode cL_lift 20 = .ok (.ireturn, 1) := by decide +kernel
theorem dL_profile_0 : decode cL_profile 0 = .ok (.aload 4, 2) := by decide +kernel
theorem dL_profile_2 : decode cL_profile 2 = .ok (.iconst 0, 1) := by decide +kernel
theorem dL_profile_3 : decode cL_profile 3 = .ok (.aload_n 0, 1) := by decide +kernel
theorem dL_profile_4 : decode cL_profile 4 = .ok (.iload_n 1, 1) := by decide +kernel
theorem dL_profile_5 : decode cL_profile 5 = .ok (.iload_n 2, 1) := by decide +kernel
theorem dL_profile_6 : decode cL_profile 6 = .ok (.iload_n 3, 1) := by decide +kernel
theorem dL_profile_7 : decode cL_profile 7 = .ok (.invokevirtual 30, 3) := by decide +kernel
theorem dL_profile_10 : decode cL_profile 10 = .ok (.i2l, 1) := by decide +kernel
theorem dL_profile_11 : decode cL_profile 11 = .ok (.lastore, 1) := by decide +kernel
theorem dL_profile_12 : decode cL_profile 12 = .ok (.goto 7, 3) := by decide +kernel
theorem dL_profile_15 : decode cL_profile 15 = .ok (.astore 5, 2) := by decide +kernel
theorem dL_profile_17 : decode cL_profile 17 = .ok (.iconst 1, 1) := by decide +kernel
theorem dL_profile_18 : decode cL_profile 18 = .ok (.ireturn, 1) := by decide +kernel
theorem dL_profile_19 : decode cL_profile 19 = .ok (.iconst 0, 1) := by decide +kernel
theorem dL_profile_20 : decode cL_profile 20 = .ok (.ireturn, 1) := by decide +kernel
theorem dL_rough_0 : decode cL_rough 0 = .ok (.aload 4, 2) := by decide +kernel
theorem dL_rough_2 : decode cL_rough 2 = .ok (.iconst 0, 1) := by decide +kernel
theorem dL_rough_3 : decode cL_rough 3 = .ok (.aload_n 0, 1) := by decide +kernel
theorem dL_rough_4 : decode cL_rough 4 = .ok (.iload_n 1, 1) := by decide +kernel
theorem dL_rough_5 : decode cL_rough 5 = .ok (.iload_n 2, 1) := by decide +kernel
theorem dL_rough_6 : decode cL_rough 6 = .ok (.iload_n 3, 1) := by decide +kernel
theorem dL_rough_7 : decode cL_rough 7 = .ok (.invokevirtual 33, 3) := by decide +kernel
theorem dL_rough_10 : decode cL_rough 10 = .ok (.i2l, 1) := by decide +kernel
theorem dL_rough_11 : decode cL_rough 11 = .ok (.lastore, 1) := by decide +kernel
theorem dL_rough_12 : decode cL_rough 12 = .ok (.goto 11, 3) := by decide +kernel
theorem dL_rough_15 : decode cL_rough 15 = .ok (.astore 5, 2) := by decide +kernel
theorem dL_rough_17 : decode cL_rough 17 = .ok (.iconst 1, 1) := by decide +kernel
theorem dL_rough_18 : decode cL_rough 18 = .ok (.ireturn, 1) := by decide +kernel
theorem dL_rough_19 : decode cL_rough 19 = .ok (.astore 5, 2) := by decide +kernel
theorem dL_rough_21 : decode cL_rough 21 = .ok (.iconst 2, 1) := by decide +kernel
theorem dL_rough_22 : decode cL_rough 22 = .ok (.ireturn, 1) := by decide +kernel
theorem dL_rough_23 : decode cL_rough 23 = .ok (.iconst 0, 1) := by decide +kernel
theorem dL_rough_24 : decode cL_rough 24 = .ok (.ireturn, 1) := by decide +kernel
theorem dL_fine_0 : decode cL_fine 0 = .ok (.aload_n 3, 1) := by decide +kernel
theorem dL_fine_1 : decode cL_fine 1 = .ok (.iconst 0, 1) := by decide +kernel
theorem dL_fine_2 : decode cL_fine 2 = .ok (.aload_n 0, 1) := by decide +kernel
theorem dL_fine_3 : decode cL_fine 3 = .ok (.iload_n 1, 1) := by decide +kernel
theorem dL_fine_4 : decode cL_fine 4 = .ok (.iload_n 2, 1) := by decide +kernel
theorem dL_fine_5 : decode cL_fine 5 = .ok (.invokevirtual 36, 3) := by decide +kernel
theorem dL_fine_8 : decode cL_fine 8 = .ok (.i2l, 1) := by decide +kernel
theorem dL_fine_9 : decode cL_fine 9 = .ok (.lastore, 1) := by decide +kernel
theorem dL_fine_10 : decode cL_fine 10 = .ok (.goto 11, 3) := by decide +kernel
theorem dL_fine_13 : decode cL_fine 13 = .ok (.astore 4, 2) := by decide +kernel
theorem dL_fine_15 : decode cL_fine 15 = .ok (.iconst 1, 1) := by decide +kernel
theorem dL_fine_16 : decode cL_fine 16 = .ok (.ireturn, 1) := by decide +kernel
theorem dL_fine_17 : decode cL_fine 17 = .ok (.astore 4, 2) := by decide +kernel
theorem dL_fine_19 : decode cL_fine 19 = .ok (.iconst 2, 1) := by decide +kernel
theorem dL_fine_20 : decode cL_fine 20 = .ok (.ireturn, 1) := by decide +kernel
theorem dL_fine_21 : decode cL_fine 21 = .ok (.iconst 0, 1) := by decide +kernel
theorem dL_fine_22 : decode cL_fine 22 = .ok (.ireturn, 1) := by decide +kernel
theorem dL_made_0 : decode cL_made 0 = .ok (.aload_n 3, 1) := by decide +kernel
theorem dL_made_1 : decode cL_made 1 = .ok (.iconst 0, 1) := by decide +kernel
theorem dL_made_2 : decode cL_made 2 = .ok (.aload_n 0, 1) := by decide +kernel
theorem dL_made_3 : decode cL_made 3 = .ok (.iload_n 1, 1) := by decide +kernel
theorem dL_made_4 : decode cL_made 4 = .ok (.iload_n 2, 1) := by decide +kernel
theorem dL_made_5 : decode cL_made 5 = .ok (.invokevirtual 40, 3) := by decide +kernel
theorem dL_made_8 : decode cL_made 8 = .ok (.i2l, 1) := by decide +kernel
theorem dL_made_9 : decode cL_made 9 = .ok (.lastore, 1) := by decide +kernel
theorem dL_made_10 : decode cL_made 10 = .ok (.goto 7, 3) := by decide +kernel
theorem dL_made_13 : decode cL_made 13 = .ok (.astore 4, 2) := by decide +kernel
theorem dL_made_15 : decode cL_made 15 = .ok (.iconst 1, 1) := by decide +kernel
theorem dL_made_16 : decode cL_made 16 = .ok (.ireturn, 1) := by decide +kernel
theorem dL_made_17 : decode cL_made 17 = .ok (.iconst 0, 1) := by decide +kernel
theorem dL_made_18 : decode cL_made 18 = .ok (.ireturn, 1) := by decide +kernel
theorem dL_rest_0 : decode cL_rest 0 = .ok (.aload_n 3, 1) := by decide +kernel
theorem dL_rest_1 : decode cL_rest 1 = .ok (.iconst 0, 1) := by decide +kernel
theorem dL_rest_2 : decode cL_rest 2 = .ok (.aload_n 0, 1) := by decide +kernel
theorem dL_rest_3 : decode cL_rest 3 = .ok (.iload_n 1, 1) := by decide +kernel
theorem dL_rest_4 : decode cL_rest 4 = .ok (.iload_n 2, 1) := by decide +kernel
theorem dL_rest_5 : decode cL_rest 5 = .ok (.invokevirtual 43, 3) := by decide +kernel
theorem dL_rest_8 : decode cL_rest 8 = .ok (.i2l, 1) := by decide +kernel
theorem dL_rest_9 : decode cL_rest 9 = .ok (.lastore, 1) := by decide +kernel
theorem dL_rest_10 : decode cL_rest 10 = .ok (.goto 7, 3) := by decide +kernel
theorem dL_rest_13 : decode cL_rest 13 = .ok (.astore 4, 2) := by decide +kernel
theorem dL_rest_15 : decode cL_rest 15 = .ok (.iconst 1, 1) := by decide +kernel
theorem dL_rest_16 : decode cL_rest 16 = .ok (.ireturn, 1) := by decide +kernel
theorem dL_rest_17 : decode cL_rest 17 = .ok (.iconst 0, 1) := by decide +kernel
theorem dL_rest_18 : decode cL_rest 18 = .ok (.ireturn, 1) := by decide +kernel
theorem dL_move_0 : decode cL_move 0 = .ok (.aload_n 3, 1) := by decide +kernel
theorem dL_move_1 : decode cL_move 1 = .ok (.iconst 0, 1) := by decide +kernel
theorem dL_move_2 : decode cL_move 2 = .ok (.aload_n 0, 1) := by decide +kernel
theorem dL_move_3 : decode cL_move 3 = .ok (.iload_n 1, 1) := by decide +kernel
theorem dL_move_4 : decode cL_move 4 = .ok (.iload_n 2, 1) := by decide +kernel
theorem dL_move_5 : decode cL_move 5 = .ok (.invokevirtual 46, 3) := by decide +kernel
theorem dL_move_8 : decode cL_move 8 = .ok (.i2l, 1) := by decide +kernel
theorem dL_move_9 : decode cL_move 9 = .ok (.lastore, 1) := by decide +kernel
theorem dL_move_10 : decode cL_move 10 = .ok (.goto 11, 3) := by decide +kernel
theorem dL_move_13 : decode cL_move 13 = .ok (.astore 4, 2) := by decide +kernel
theorem dL_move_15 : decode cL_move 15 = .ok (.iconst 1, 1) := by decide +kernel
theorem dL_move_16 : decode cL_move 16 = .ok (.ireturn, 1) := by decide +kernel
theorem dL_move_17 : decode cL_move 17 = .ok (.astore 4, 2) := by decide +kernel
theorem dL_move_19 : decode cL_move 19 = .ok (.iconst 2, 1) := by decide +kernel
theorem dL_move_20 : decode cL_move 20 = .ok (.ireturn, 1) := by decide +kernel
theorem dL_move_21 : decode cL_move 21 = .ok (.iconst 0, 1) := by decide +kernel
theorem dL_move_22 : decode cL_move 22 = .ok (.ireturn, 1) := by decide +kernel
theorem dL_repeat_0 : decode cL_repeat 0 = .ok (.aload_n 3, 1) := by decide +kernel
theorem dL_repeat_1 : decode cL_repeat 1 = .ok (.iconst 0, 1) := by decide +kernel
theorem dL_repeat_2 : decode cL_repeat 2 = .ok (.aload_n 0, 1) := by decide +kernel
theorem dL_repeat_3 : decode cL_repeat 3 = .ok (.iload_n 1, 1) := by decide +kernel
theorem dL_repeat_4 : decode cL_repeat 4 = .ok (.iload_n 2, 1) := by decide +kernel
theorem dL_repeat_5 : decode cL_repeat 5 = .ok (.invokevirtual 49, 3) := by decide +kernel
theorem dL_repeat_8 : decode cL_repeat 8 = .ok (.i2l, 1) := by decide +kernel
theorem dL_repeat_9 : decode cL_repeat 9 = .ok (.lastore, 1) := by decide +kernel
theorem dL_repeat_10 : decode cL_repeat 10 = .ok (.goto 7, 3) := by decide +kernel
theorem dL_repeat_13 : decode cL_repeat 13 = .ok (.astore 4, 2) := by decide +kernel
theorem dL_repeat_15 : decode cL_repeat 15 = .ok (.iconst 1, 1) := by decide +kernel
theorem dL_repeat_16 : decode cL_repeat 16 = .ok (.ireturn, 1) := by decide +kernel
theorem dL_repeat_17 : decode cL_repeat 17 = .ok (.iconst 0, 1) := by decide +kernel
theorem dL_repeat_18 : decode cL_repeat 18 = .ok (.ireturn, 1) := by decide +kernel
theorem dL_merge_0 : decode cL_merge 0 = .ok (.aload_n 3, 1) := by decide +kernel
theorem dL_merge_1 : decode cL_merge 1 = .ok (.iconst 0, 1) := by decide +kernel
theorem dL_merge_2 : decode cL_merge 2 = .ok (.aload_n 0, 1) := by decide +kernel
theorem dL_merge_3 : decode cL_merge 3 = .ok (.iload_n 1, 1) := by decide +kernel
theorem dL_merge_4 : decode cL_merge 4 = .ok (.iload_n 2, 1) := by decide +kernel
theorem dL_merge_5 : decode cL_merge 5 = .ok (.invokevirtual 52, 3) := by decide +kernel
theorem dL_merge_8 : decode cL_merge 8 = .ok (.i2l, 1) := by decide +kernel
theorem dL_merge_9 : decode cL_merge 9 = .ok (.lastore, 1) := by decide +kernel
theorem dL_merge_10 : decode cL_merge 10 = .ok (.goto 11, 3) := by decide +kernel
theorem dL_merge_13 : decode cL_merge 13 = .ok (.astore 4, 2) := by decide +kernel
theorem dL_merge_15 : decode cL_merge 15 = .ok (.iconst 1, 1) := by decide +kernel
theorem dL_merge_16 : decode cL_merge 16 = .ok (.ireturn, 1) := by decide +kernel
theorem dL_merge_17 : decode cL_merge 17 = .ok (.astore 4, 2) := by decide +kernel
theorem dL_merge_19 : decode cL_merge 19 = .ok (.iconst 2, 1) := by decide +kernel
theorem dL_merge_20 : decode cL_merge 20 = .ok (.ireturn, 1) := by decide +kernel
theorem dL_merge_21 : decode cL_merge 21 = .ok (.iconst 0, 1) := by decide +kernel
theorem dL_merge_22 : decode cL_merge 22 = .ok (.ireturn, 1) := by decide +kernel
theorem dL_law_0 : decode cL_law 0 = .ok (.new 8, 3) := by decide +kernel
theorem dL_law_3 : decode cL_law 3 = .ok (.dup, 1) := by decide +kernel
theorem dL_law_4 : decode cL_law 4 = .ok (.aload_n 0, 1) := by decide +kernel
theorem dL_law_5 : decode cL_law 5 = .ok (.iconst 0, 1) := by decide +kernel
theorem dL_law_6 : decode cL_law 6 = .ok (.invokestatic 55, 3) := by decide +kernel
theorem dL_law_9 : decode cL_law 9 = .ok (.aload_n 0, 1) := by decide +kernel
theorem dL_law_10 : decode cL_law 10 = .ok (.iconst 1, 1) := by decide +kernel
theorem dL_law_11 : decode cL_law 11 = .ok (.invokestatic 55, 3) := by decide +kernel
theorem dL_law_14 : decode cL_law 14 = .ok (.invokespecial 61, 3) := by decide +kernel
theorem dL_law_17 : decode cL_law 17 = .ok (.astore_n 1, 1) := by decide +kernel
theorem dL_law_18 : decode cL_law 18 = .ok (.new 64, 3) := by decide +kernel
theorem dL_law_21 : decode cL_law 21 = .ok (.dup, 1) := by decide +kernel
theorem dL_law_22 : decode cL_law 22 = .ok (.aload_n 0, 1) := by decide +kernel
theorem dL_law_23 : decode cL_law 23 = .ok (.iconst 0, 1) := by decide +kernel
theorem dL_law_24 : decode cL_law 24 = .ok (.invokestatic 55, 3) := by decide +kernel
theorem dL_law_27 : decode cL_law 27 = .ok (.aload_n 0, 1) := by decide +kernel
theorem dL_law_28 : decode cL_law 28 = .ok (.iconst 1, 1) := by decide +kernel
theorem dL_law_29 : decode cL_law 29 = .ok (.invokestatic 55, 3) := by decide +kernel
theorem dL_law_32 : decode cL_law 32 = .ok (.invokespecial 66, 3) := by decide +kernel
theorem dL_law_35 : decode cL_law 35 = .ok (.astore_n 2, 1) := by decide +kernel
theorem dL_law_36 : decode cL_law 36 = .ok (.iconst 1, 1) := by decide +kernel
theorem dL_law_37 : decode cL_law 37 = .ok (.newarray .long, 2) := by decide +kernel
theorem dL_law_39 : decode cL_law 39 = .ok (.astore_n 3, 1) := by decide +kernel
theorem dL_law_40 : decode cL_law 40 = .ok (.iconst 2, 1) := by decide +kernel
theorem dL_law_41 : decode cL_law 41 = .ok (.istore 4, 2) := by decide +kernel
theorem dL_law_43 : decode cL_law 43 = .ok (.iload 4, 2) := by decide +kernel
theorem dL_law_45 : decode cL_law 45 = .ok (.aload_n 0, 1) := by decide +kernel
theorem dL_law_46 : decode cL_law 46 = .ok (.arraylength, 1) := by decide +kernel
theorem dL_law_47 : decode cL_law 47 = .ok (.iconst 4, 1) := by decide +kernel
theorem dL_law_48 : decode cL_law 48 = .ok (.isub, 1) := by decide +kernel
theorem dL_law_49 : decode cL_law 49 = .ok (.if_icmp .gt 1025, 3) := by decide +kernel
theorem dL_law_52 : decode cL_law 52 = .ok (.aload_n 0, 1) := by decide +kernel
theorem dL_law_53 : decode cL_law 53 = .ok (.iload 4, 2) := by decide +kernel
theorem dL_law_55 : decode cL_law 55 = .ok (.iaload, 1) := by decide +kernel
theorem dL_law_56 : decode cL_law 56 = .ok (.bipush 15, 2) := by decide +kernel
theorem dL_law_58 : decode cL_law 58 = .ok (.iand, 1) := by decide +kernel
theorem dL_law_59 : decode cL_law 59 = .ok (.tableswitch 1009 0 15 #[77, 164, 251, 307, 387, 467, 547, 615, 683, 696, 764, 778, 791, 859, 873, 941], 77) := by decide +kernel
theorem dL_law_136 : decode cL_law 136 = .ok (.aload_n 1, 1) := by decide +kernel
theorem dL_law_137 : decode cL_law 137 = .ok (.aload_n 0, 1) := by decide +kernel
theorem dL_law_138 : decode cL_law 138 = .ok (.iload 4, 2) := by decide +kernel
theorem dL_law_140 : decode cL_law 140 = .ok (.iconst 1, 1) := by decide +kernel
theorem dL_law_141 : decode cL_law 141 = .ok (.iadd, 1) := by decide +kernel
theorem dL_law_142 : decode cL_law 142 = .ok (.iaload, 1) := by decide +kernel
theorem dL_law_143 : decode cL_law 143 = .ok (.aload_n 0, 1) := by decide +kernel
theorem dL_law_144 : decode cL_law 144 = .ok (.iload 4, 2) := by decide +kernel
theorem dL_law_146 : decode cL_law 146 = .ok (.iconst 2, 1) := by decide +kernel
theorem dL_law_147 : decode cL_law 147 = .ok (.iadd, 1) := by decide +kernel
theorem dL_law_148 : decode cL_law 148 = .ok (.iaload, 1) := by decide +kernel
theorem dL_law_149 : decode cL_law 149 = .ok (.aload_n 0, 1) := by decide +kernel
theorem dL_law_150 : decode cL_law 150 = .ok (.iload 4, 2) := by decide +kernel
theorem dL_law_152 : decode cL_law 152 = .ok (.iconst 3, 1) := by decide +kernel
theorem dL_law_153 : decode cL_law 153 = .ok (.iadd, 1) := by decide +kernel
theorem dL_law_154 : decode cL_law 154 = .ok (.iaload, 1) := by decide +kernel
theorem dL_law_155 : decode cL_law 155 = .ok (.aload_n 3, 1) := by decide +kernel
theorem dL_law_156 : decode cL_law 156 = .ok (.invokestatic 67, 3) := by decide +kernel
theorem dL_law_159 : decode cL_law 159 = .ok (.istore 5, 2) := by decide +kernel
theorem dL_law_161 : decode cL_law 161 = .ok (.aload_n 2, 1) := by decide +kernel
theorem dL_law_162 : decode cL_law 162 = .ok (.aload_n 0, 1) := by decide +kernel
theorem dL_law_163 : decode cL_law 163 = .ok (.iload 4, 2) := by decide +kernel
theorem dL_law_165 : decode cL_law 165 = .ok (.iconst 1, 1) := by decide +kernel
theorem dL_law_166 : decode cL_law 166 = .ok (.iadd, 1) := by decide +kernel
theorem dL_law_167 : decode cL_law 167 = .ok (.iaload, 1) := by decide +kernel
theorem dL_law_168 : decode cL_law 168 = .ok (.aload_n 0, 1) := by decide +kernel
theorem dL_law_169 : decode cL_law 169 = .ok (.iload 4, 2) := by decide +kernel
theorem dL_law_171 : decode cL_law 171 = .ok (.iconst 2, 1) := by decide +kernel
theorem dL_law_172 : decode cL_law 172 = .ok (.iadd, 1) := by decide +kernel
theorem dL_law_173 : decode cL_law 173 = .ok (.iaload, 1) := by decide +kernel
theorem dL_law_174 : decode cL_law 174 = .ok (.aload_n 0, 1) := by decide +kernel
theorem dL_law_175 : decode cL_law 175 = .ok (.iload 4, 2) := by decide +kernel
theorem dL_law_177 : decode cL_law 177 = .ok (.iconst 3, 1) := by decide +kernel
theorem dL_law_178 : decode cL_law 178 = .ok (.iadd, 1) := by decide +kernel
theorem dL_law_179 : decode cL_law 179 = .ok (.iaload, 1) := by decide +kernel
theorem dL_law_180 : decode cL_law 180 = .ok (.invokevirtual 70, 3) := by decide +kernel
theorem dL_law_183 : decode cL_law 183 = .ok (.istore 6, 2) := by decide +kernel
theorem dL_law_185 : decode cL_law 185 = .ok (.aload_n 2, 1) := by decide +kernel
theorem dL_law_186 : decode cL_law 186 = .ok (.invokevirtual 71, 3) := by decide +kernel
theorem dL_law_189 : decode cL_law 189 = .ok (.iload 5, 2) := by decide +kernel
theorem dL_law_191 : decode cL_law 191 = .ok (.if_icmp .eq 5, 3) := by decide +kernel
theorem dL_law_194 : decode cL_law 194 = .ok (.iconst 0, 1) := by decide +kernel
theorem dL_law_195 : decode cL_law 195 = .ok (.ireturn, 1) := by decide +kernel
theorem dL_law_196 : decode cL_law 196 = .ok (.iload 5, 2) := by decide +kernel
theorem dL_law_198 : decode cL_law 198 = .ok (.ifCond .ne 22, 3) := by decide +kernel
theorem dL_law_201 : decode cL_law 201 = .ok (.aload_n 3, 1) := by decide +kernel
theorem dL_law_202 : decode cL_law 202 = .ok (.iconst 0, 1) := by decide +kernel
theorem dL_law_203 : decode cL_law 203 = .ok (.laload, 1) := by decide +kernel
theorem dL_law_204 : decode cL_law 204 = .ok (.iload 6, 2) := by decide +kernel
theorem dL_law_206 : decode cL_law 206 = .ok (.ifCond .eq 7, 3) := by decide +kernel
theorem dL_law_209 : decode cL_law 209 = .ok (.lconst 1, 1) := by decide +kernel
theorem dL_law_210 : decode cL_law 210 = .ok (.goto 4, 3) := by decide +kernel
theorem dL_law_213 : decode cL_law 213 = .ok (.lconst 0, 1) := by decide +kernel
theorem dL_law_214 : decode cL_law 214 = .ok (.lcmp, 1) := by decide +kernel
theorem dL_law_215 : decode cL_law 215 = .ok (.ifCond .eq 5, 3) := by decide +kernel
theorem dL_law_218 : decode cL_law 218 = .ok (.iconst 0, 1) := by decide +kernel
theorem dL_law_219 : decode cL_law 219 = .ok (.ireturn, 1) := by decide +kernel
theorem dL_law_220 : decode cL_law 220 = .ok (.goto 848, 3) := by decide +kernel
theorem dL_law_223 : decode cL_law 223 = .ok (.aload_n 1, 1) := by decide +kernel
theorem dL_law_224 : decode cL_law 224 = .ok (.aload_n 0, 1) := by decide +kernel
theorem dL_law_225 : decode cL_law 225 = .ok (.iload 4, 2) := by decide +kernel
theorem dL_law_227 : decode cL_law 227 = .ok (.iconst 1, 1) := by decide +kernel
theorem dL_law_228 : decode cL_law 228 = .ok (.iadd, 1) := by decide +kernel
theorem dL_law_229 : decode cL_law 229 = .ok (.iaload, 1) := by decide +kernel
theorem dL_law_230 : decode cL_law 230 = .ok (.aload_n 0, 1) := by decide +kernel
theorem dL_law_231 : decode cL_law 231 = .ok (.iload 4, 2) := by decide +kernel
theorem dL_law_233 : decode cL_law 233 = .ok (.iconst 2, 1) := by decide +kernel
theorem dL_law_234 : decode cL_law 234 = .ok (.iadd, 1) := by decide +kernel
theorem dL_law_235 : decode cL_law 235 = .ok (.iaload, 1) := by decide +kernel
theorem dL_law_236 : decode cL_law 236 = .ok (.aload_n 0, 1) := by decide +kernel
theorem dL_law_237 : decode cL_law 237 = .ok (.iload 4, 2) := by decide +kernel
theorem dL_law_239 : decode cL_law 239 = .ok (.iconst 3, 1) := by decide +kernel
theorem dL_law_240 : decode cL_law 240 = .ok (.iadd, 1) := by decide +kernel
theorem dL_law_241 : decode cL_law 241 = .ok (.iaload, 1) := by decide +kernel
theorem dL_law_242 : decode cL_law 242 = .ok (.aload_n 3, 1) := by decide +kernel
theorem dL_law_243 : decode cL_law 243 = .ok (.invokestatic 75, 3) := by decide +kernel
theorem dL_law_246 : decode cL_law 246 = .ok (.istore 5, 2) := by decide +kernel
theorem dL_law_248 : decode cL_law 248 = .ok (.aload_n 2, 1) := by decide +kernel
theorem dL_law_249 : decode cL_law 249 = .ok (.aload_n 0, 1) := by decide +kernel
theorem dL_law_250 : decode cL_law 250 = .ok (.iload 4, 2) := by decide +kernel
theorem dL_law_252 : decode cL_law 252 = .ok (.iconst 1, 1) := by decide +kernel
theorem dL_law_253 : decode cL_law 253 = .ok (.iadd, 1) := by decide +kernel
theorem dL_law_254 : decode cL_law 254 = .ok (.iaload, 1) := by decide +kernel
theorem dL_law_255 : decode cL_law 255 = .ok (.aload_n 0, 1) := by decide +kernel
theorem dL_law_256 : decode cL_law 256 = .ok (.iload 4, 2) := by decide +kernel
theorem dL_law_258 : decode cL_law 258 = .ok (.iconst 2, 1) := by decide +kernel
theorem dL_law_259 : decode cL_law 259 = .ok (.iadd, 1) := by decide +kernel
theorem dL_law_260 : decode cL_law 260 = .ok (.iaload, 1) := by decide +kernel
theorem dL_law_261 : decode cL_law 261 = .ok (.aload_n 0, 1) := by decide +kernel
theorem dL_law_262 : decode cL_law 262 = .ok (.iload 4, 2) := by decide +kernel
theorem dL_law_264 : decode cL_law 264 = .ok (.iconst 3, 1) := by decide +kernel
theorem dL_law_265 : decode cL_law 265 = .ok (.iadd, 1) := by decide +kernel
theorem dL_law_266 : decode cL_law 266 = .ok (.iaload, 1) := by decide +kernel
theorem dL_law_267 : decode cL_law 267 = .ok (.invokevirtual 77, 3) := by decide +kernel
theorem dL_law_270 : decode cL_law 270 = .ok (.istore 6, 2) := by decide +kernel
theorem dL_law_272 : decode cL_law 272 = .ok (.aload_n 2, 1) := by decide +kernel
theorem dL_law_273 : decode cL_law 273 = .ok (.invokevirtual 71, 3) := by decide +kernel
theorem dL_law_276 : decode cL_law 276 = .ok (.iload 5, 2) := by decide +kernel
theorem dL_law_278 : decode cL_law 278 = .ok (.if_icmp .eq 5, 3) := by decide +kernel
theorem dL_law_281 : decode cL_law 281 = .ok (.iconst 0, 1) := by decide +kernel
theorem dL_law_282 : decode cL_law 282 = .ok (.ireturn, 1) := by decide +kernel
theorem dL_law_283 : decode cL_law 283 = .ok (.iload 5, 2) := by decide +kernel
theorem dL_law_285 : decode cL_law 285 = .ok (.ifCond .ne 22, 3) := by decide +kernel
theorem dL_law_288 : decode cL_law 288 = .ok (.aload_n 3, 1) := by decide +kernel
theorem dL_law_289 : decode cL_law 289 = .ok (.iconst 0, 1) := by decide +kernel
theorem dL_law_290 : decode cL_law 290 = .ok (.laload, 1) := by decide +kernel
theorem dL_law_291 : decode cL_law 291 = .ok (.iload 6, 2) := by decide +kernel
theorem dL_law_293 : decode cL_law 293 = .ok (.ifCond .eq 7, 3) := by decide +kernel
theorem dL_law_296 : decode cL_law 296 = .ok (.lconst 1, 1) := by decide +kernel
theorem dL_law_297 : decode cL_law 297 = .ok (.goto 4, 3) := by decide +kernel
theorem dL_law_300 : decode cL_law 300 = .ok (.lconst 0, 1) := by decide +kernel
theorem dL_law_301 : decode cL_law 301 = .ok (.lcmp, 1) := by decide +kernel
theorem dL_law_302 : decode cL_law 302 = .ok (.ifCond .eq 5, 3) := by decide +kernel
theorem dL_law_305 : decode cL_law 305 = .ok (.iconst 0, 1) := by decide +kernel
theorem dL_law_306 : decode cL_law 306 = .ok (.ireturn, 1) := by decide +kernel
theorem dL_law_307 : decode cL_law 307 = .ok (.goto 761, 3) := by decide +kernel
theorem dL_law_310 : decode cL_law 310 = .ok (.aload_n 1, 1) := by decide +kernel
theorem dL_law_311 : decode cL_law 311 = .ok (.aload_n 0, 1) := by decide +kernel
theorem dL_law_312 : decode cL_law 312 = .ok (.iload 4, 2) := by decide +kernel
theorem dL_law_314 : decode cL_law 314 = .ok (.iconst 1, 1) := by decide +kernel
theorem dL_law_315 : decode cL_law 315 = .ok (.iadd, 1) := by decide +kernel
theorem dL_law_316 : decode cL_law 316 = .ok (.iaload, 1) := by decide +kernel
theorem dL_law_317 : decode cL_law 317 = .ok (.aload_n 3, 1) := by decide +kernel
theorem dL_law_318 : decode cL_law 318 = .ok (.invokestatic 78, 3) := by decide +kernel
theorem dL_law_321 : decode cL_law 321 = .ok (.istore 5, 2) := by decide +kernel
theorem dL_law_323 : decode cL_law 323 = .ok (.aload_n 2, 1) := by decide +kernel
theorem dL_law_324 : decode cL_law 324 = .ok (.aload_n 0, 1) := by decide +kernel
theorem dL_law_325 : decode cL_law 325 = .ok (.iload 4, 2) := by decide +kernel
theorem dL_law_327 : decode cL_law 327 = .ok (.iconst 1, 1) := by decide +kernel
theorem dL_law_328 : decode cL_law 328 = .ok (.iadd, 1) := by decide +kernel
theorem dL_law_329 : decode cL_law 329 = .ok (.iaload, 1) := by decide +kernel
theorem dL_law_330 : decode cL_law 330 = .ok (.invokevirtual 81, 3) := by decide +kernel
theorem dL_law_333 : decode cL_law 333 = .ok (.istore 6, 2) := by decide +kernel
theorem dL_law_335 : decode cL_law 335 = .ok (.aload_n 2, 1) := by decide +kernel
theorem dL_law_336 : decode cL_law 336 = .ok (.invokevirtual 71, 3) := by decide +kernel
theorem dL_law_339 : decode cL_law 339 = .ok (.iload 5, 2) := by decide +kernel
theorem dL_law_341 : decode cL_law 341 = .ok (.if_icmp .eq 5, 3) := by decide +kernel
theorem dL_law_344 : decode cL_law 344 = .ok (.iconst 0, 1) := by decide +kernel
theorem dL_law_345 : decode cL_law 345 = .ok (.ireturn, 1) := by decide +kernel
theorem dL_law_346 : decode cL_law 346 = .ok (.iload 5, 2) := by decide +kernel
theorem dL_law_348 : decode cL_law 348 = .ok (.ifCond .ne 15, 3) := by decide +kernel
theorem dL_law_351 : decode cL_law 351 = .ok (.aload_n 3, 1) := by decide +kernel
theorem dL_law_352 : decode cL_law 352 = .ok (.iconst 0, 1) := by decide +kernel
theorem dL_law_353 : decode cL_law 353 = .ok (.laload, 1) := by decide +kernel
theorem dL_law_354 : decode cL_law 354 = .ok (.iload 6, 2) := by decide +kernel
theorem dL_law_356 : decode cL_law 356 = .ok (.i2l, 1) := by decide +kernel
theorem dL_law_357 : decode cL_law 357 = .ok (.lcmp, 1) := by decide +kernel
theorem dL_law_358 : decode cL_law 358 = .ok (.ifCond .eq 5, 3) := by decide +kernel
theorem dL_law_361 : decode cL_law 361 = .ok (.iconst 0, 1) := by decide +kernel
theorem dL_law_362 : decode cL_law 362 = .ok (.ireturn, 1) := by decide +kernel
theorem dL_law_363 : decode cL_law 363 = .ok (.goto 705, 3) := by decide +kernel
theorem dL_law_366 : decode cL_law 366 = .ok (.aload_n 1, 1) := by decide +kernel
theorem dL_law_367 : decode cL_law 367 = .ok (.aload_n 0, 1) := by decide +kernel
theorem dL_law_368 : decode cL_law 368 = .ok (.iload 4, 2) := by decide +kernel
theorem dL_law_370 : decode cL_law 370 = .ok (.iconst 1, 1) := by decide +kernel
theorem dL_law_371 : decode cL_law 371 = .ok (.iadd, 1) := by decide +kernel
theorem dL_law_372 : decode cL_law 372 = .ok (.iaload, 1) := by decide +kernel
theorem dL_law_373 : decode cL_law 373 = .ok (.aload_n 0, 1) := by decide +kernel
theorem dL_law_374 : decode cL_law 374 = .ok (.iload 4, 2) := by decide +kernel
theorem dL_law_376 : decode cL_law 376 = .ok (.iconst 2, 1) := by decide +kernel
theorem dL_law_377 : decode cL_law 377 = .ok (.iadd, 1) := by decide +kernel
theorem dL_law_378 : decode cL_law 378 = .ok (.iaload, 1) := by decide +kernel
theorem dL_law_379 : decode cL_law 379 = .ok (.aload_n 0, 1) := by decide +kernel
theorem dL_law_380 : decode cL_law 380 = .ok (.iload 4, 2) := by decide +kernel
theorem dL_law_382 : decode cL_law 382 = .ok (.iconst 3, 1) := by decide +kernel
theorem dL_law_383 : decode cL_law 383 = .ok (.iadd, 1) := by decide +kernel
theorem dL_law_384 : decode cL_law 384 = .ok (.iaload, 1) := by decide +kernel
theorem dL_law_385 : decode cL_law 385 = .ok (.aload_n 3, 1) := by decide +kernel
theorem dL_law_386 : decode cL_law 386 = .ok (.invokestatic 82, 3) := by decide +kernel
theorem dL_law_389 : decode cL_law 389 = .ok (.istore 5, 2) := by decide +kernel
theorem dL_law_391 : decode cL_law 391 = .ok (.aload_n 2, 1) := by decide +kernel
theorem dL_law_392 : decode cL_law 392 = .ok (.aload_n 0, 1) := by decide +kernel
theorem dL_law_393 : decode cL_law 393 = .ok (.iload 4, 2) := by decide +kernel
theorem dL_law_395 : decode cL_law 395 = .ok (.iconst 1, 1) := by decide +kernel
theorem dL_law_396 : decode cL_law 396 = .ok (.iadd, 1) := by decide +kernel
theorem dL_law_397 : decode cL_law 397 = .ok (.iaload, 1) := by decide +kernel
theorem dL_law_398 : decode cL_law 398 = .ok (.aload_n 0, 1) := by decide +kernel
theorem dL_law_399 : decode cL_law 399 = .ok (.iload 4, 2) := by decide +kernel
theorem dL_law_401 : decode cL_law 401 = .ok (.iconst 2, 1) := by decide +kernel
theorem dL_law_402 : decode cL_law 402 = .ok (.iadd, 1) := by decide +kernel
theorem dL_law_403 : decode cL_law 403 = .ok (.iaload, 1) := by decide +kernel
theorem dL_law_404 : decode cL_law 404 = .ok (.aload_n 0, 1) := by decide +kernel
theorem dL_law_405 : decode cL_law 405 = .ok (.iload 4, 2) := by decide +kernel
theorem dL_law_407 : decode cL_law 407 = .ok (.iconst 3, 1) := by decide +kernel
theorem dL_law_408 : decode cL_law 408 = .ok (.iadd, 1) := by decide +kernel
theorem dL_law_409 : decode cL_law 409 = .ok (.iaload, 1) := by decide +kernel
theorem dL_law_410 : decode cL_law 410 = .ok (.invokevirtual 84, 3) := by decide +kernel
theorem dL_law_413 : decode cL_law 413 = .ok (.istore 6, 2) := by decide +kernel
theorem dL_law_415 : decode cL_law 415 = .ok (.aload_n 2, 1) := by decide +kernel
theorem dL_law_416 : decode cL_law 416 = .ok (.invokevirtual 71, 3) := by decide +kernel
theorem dL_law_419 : decode cL_law 419 = .ok (.iload 5, 2) := by decide +kernel
theorem dL_law_421 : decode cL_law 421 = .ok (.if_icmp .eq 5, 3) := by decide +kernel
theorem dL_law_424 : decode cL_law 424 = .ok (.iconst 0, 1) := by decide +kernel
theorem dL_law_425 : decode cL_law 425 = .ok (.ireturn, 1) := by decide +kernel
theorem dL_law_426 : decode cL_law 426 = .ok (.iload 5, 2) := by decide +kernel
theorem dL_law_428 : decode cL_law 428 = .ok (.ifCond .ne 15, 3) := by decide +kernel
theorem dL_law_431 : decode cL_law 431 = .ok (.aload_n 3, 1) := by decide +kernel
theorem dL_law_432 : decode cL_law 432 = .ok (.iconst 0, 1) := by decide +kernel
theorem dL_law_433 : decode cL_law 433 = .ok (.laload, 1) := by decide +kernel
theorem dL_law_434 : decode cL_law 434 = .ok (.iload 6, 2) := by decide +kernel
theorem dL_law_436 : decode cL_law 436 = .ok (.i2l, 1) := by decide +kernel
theorem dL_law_437 : decode cL_law 437 = .ok (.lcmp, 1) := by decide +kernel
theorem dL_law_438 : decode cL_law 438 = .ok (.ifCond .eq 5, 3) := by decide +kernel
theorem dL_law_441 : decode cL_law 441 = .ok (.iconst 0, 1) := by decide +kernel
theorem dL_law_442 : decode cL_law 442 = .ok (.ireturn, 1) := by decide +kernel
theorem dL_law_443 : decode cL_law 443 = .ok (.goto 625, 3) := by decide +kernel
theorem dL_law_446 : decode cL_law 446 = .ok (.aload_n 1, 1) := by decide +kernel
theorem dL_law_447 : decode cL_law 447 = .ok (.aload_n 0, 1) := by decide +kernel
theorem dL_law_448 : decode cL_law 448 = .ok (.iload 4, 2) := by decide +kernel
theorem dL_law_450 : decode cL_law 450 = .ok (.iconst 1, 1) := by decide +kernel
theorem dL_law_451 : decode cL_law 451 = .ok (.iadd, 1) := by decide +kernel
theorem dL_law_452 : decode cL_law 452 = .ok (.iaload, 1) := by decide +kernel
theorem dL_law_453 : decode cL_law 453 = .ok (.aload_n 0, 1) := by decide +kernel
theorem dL_law_454 : decode cL_law 454 = .ok (.iload 4, 2) := by decide +kernel
theorem dL_law_456 : decode cL_law 456 = .ok (.iconst 2, 1) := by decide +kernel
theorem dL_law_457 : decode cL_law 457 = .ok (.iadd, 1) := by decide +kernel
theorem dL_law_458 : decode cL_law 458 = .ok (.iaload, 1) := by decide +kernel
theorem dL_law_459 : decode cL_law 459 = .ok (.aload_n 0, 1) := by decide +kernel
theorem dL_law_460 : decode cL_law 460 = .ok (.iload 4, 2) := by decide +kernel
theorem dL_law_462 : decode cL_law 462 = .ok (.iconst 3, 1) := by decide +kernel
theorem dL_law_463 : decode cL_law 463 = .ok (.iadd, 1) := by decide +kernel
theorem dL_law_464 : decode cL_law 464 = .ok (.iaload, 1) := by decide +kernel
theorem dL_law_465 : decode cL_law 465 = .ok (.aload_n 3, 1) := by decide +kernel
theorem dL_law_466 : decode cL_law 466 = .ok (.invokestatic 85, 3) := by decide +kernel
theorem dL_law_469 : decode cL_law 469 = .ok (.istore 5, 2) := by decide +kernel
theorem dL_law_471 : decode cL_law 471 = .ok (.aload_n 2, 1) := by decide +kernel
theorem dL_law_472 : decode cL_law 472 = .ok (.aload_n 0, 1) := by decide +kernel
theorem dL_law_473 : decode cL_law 473 = .ok (.iload 4, 2) := by decide +kernel
theorem dL_law_475 : decode cL_law 475 = .ok (.iconst 1, 1) := by decide +kernel
theorem dL_law_476 : decode cL_law 476 = .ok (.iadd, 1) := by decide +kernel
theorem dL_law_477 : decode cL_law 477 = .ok (.iaload, 1) := by decide +kernel
theorem dL_law_478 : decode cL_law 478 = .ok (.aload_n 0, 1) := by decide +kernel
theorem dL_law_479 : decode cL_law 479 = .ok (.iload 4, 2) := by decide +kernel
theorem dL_law_481 : decode cL_law 481 = .ok (.iconst 2, 1) := by decide +kernel
theorem dL_law_482 : decode cL_law 482 = .ok (.iadd, 1) := by decide +kernel
theorem dL_law_483 : decode cL_law 483 = .ok (.iaload, 1) := by decide +kernel
theorem dL_law_484 : decode cL_law 484 = .ok (.aload_n 0, 1) := by decide +kernel
theorem dL_law_485 : decode cL_law 485 = .ok (.iload 4, 2) := by decide +kernel
theorem dL_law_487 : decode cL_law 487 = .ok (.iconst 3, 1) := by decide +kernel
theorem dL_law_488 : decode cL_law 488 = .ok (.iadd, 1) := by decide +kernel
theorem dL_law_489 : decode cL_law 489 = .ok (.iaload, 1) := by decide +kernel
theorem dL_law_490 : decode cL_law 490 = .ok (.invokevirtual 87, 3) := by decide +kernel
theorem dL_law_493 : decode cL_law 493 = .ok (.istore 6, 2) := by decide +kernel
theorem dL_law_495 : decode cL_law 495 = .ok (.aload_n 2, 1) := by decide +kernel
theorem dL_law_496 : decode cL_law 496 = .ok (.invokevirtual 71, 3) := by decide +kernel
theorem dL_law_499 : decode cL_law 499 = .ok (.iload 5, 2) := by decide +kernel
theorem dL_law_501 : decode cL_law 501 = .ok (.if_icmp .eq 5, 3) := by decide +kernel
theorem dL_law_504 : decode cL_law 504 = .ok (.iconst 0, 1) := by decide +kernel
theorem dL_law_505 : decode cL_law 505 = .ok (.ireturn, 1) := by decide +kernel
theorem dL_law_506 : decode cL_law 506 = .ok (.iload 5, 2) := by decide +kernel
theorem dL_law_508 : decode cL_law 508 = .ok (.ifCond .ne 15, 3) := by decide +kernel
theorem dL_law_511 : decode cL_law 511 = .ok (.aload_n 3, 1) := by decide +kernel
theorem dL_law_512 : decode cL_law 512 = .ok (.iconst 0, 1) := by decide +kernel
theorem dL_law_513 : decode cL_law 513 = .ok (.laload, 1) := by decide +kernel
theorem dL_law_514 : decode cL_law 514 = .ok (.iload 6, 2) := by decide +kernel
theorem dL_law_516 : decode cL_law 516 = .ok (.i2l, 1) := by decide +kernel
theorem dL_law_517 : decode cL_law 517 = .ok (.lcmp, 1) := by decide +kernel
theorem dL_law_518 : decode cL_law 518 = .ok (.ifCond .eq 5, 3) := by decide +kernel
theorem dL_law_521 : decode cL_law 521 = .ok (.iconst 0, 1) := by decide +kernel
theorem dL_law_522 : decode cL_law 522 = .ok (.ireturn, 1) := by decide +kernel
theorem dL_law_523 : decode cL_law 523 = .ok (.goto 545, 3) := by decide +kernel
theorem dL_law_526 : decode cL_law 526 = .ok (.aload_n 1, 1) := by decide +kernel
theorem dL_law_527 : decode cL_law 527 = .ok (.aload_n 0, 1) := by decide +kernel
theorem dL_law_528 : decode cL_law 528 = .ok (.iload 4, 2) := by decide +kernel
theorem dL_law_530 : decode cL_law 530 = .ok (.iconst 1, 1) := by decide +kernel
theorem dL_law_531 : decode cL_law 531 = .ok (.iadd, 1) := by decide +kernel
theorem dL_law_532 : decode cL_law 532 = .ok (.iaload, 1) := by decide +kernel
theorem dL_law_533 : decode cL_law 533 = .ok (.aload_n 0, 1) := by decide +kernel
theorem dL_law_534 : decode cL_law 534 = .ok (.iload 4, 2) := by decide +kernel
theorem dL_law_536 : decode cL_law 536 = .ok (.iconst 2, 1) := by decide +kernel
theorem dL_law_537 : decode cL_law 537 = .ok (.iadd, 1) := by decide +kernel
theorem dL_law_538 : decode cL_law 538 = .ok (.iaload, 1) := by decide +kernel
theorem dL_law_539 : decode cL_law 539 = .ok (.aload_n 0, 1) := by decide +kernel
theorem dL_law_540 : decode cL_law 540 = .ok (.iload 4, 2) := by decide +kernel
theorem dL_law_542 : decode cL_law 542 = .ok (.iconst 3, 1) := by decide +kernel
theorem dL_law_543 : decode cL_law 543 = .ok (.iadd, 1) := by decide +kernel
theorem dL_law_544 : decode cL_law 544 = .ok (.iaload, 1) := by decide +kernel
theorem dL_law_545 : decode cL_law 545 = .ok (.aload_n 3, 1) := by decide +kernel
theorem dL_law_546 : decode cL_law 546 = .ok (.invokestatic 88, 3) := by decide +kernel
theorem dL_law_549 : decode cL_law 549 = .ok (.istore 5, 2) := by decide +kernel
theorem dL_law_551 : decode cL_law 551 = .ok (.aload_n 2, 1) := by decide +kernel
theorem dL_law_552 : decode cL_law 552 = .ok (.aload_n 0, 1) := by decide +kernel
theorem dL_law_553 : decode cL_law 553 = .ok (.iload 4, 2) := by decide +kernel
theorem dL_law_555 : decode cL_law 555 = .ok (.iconst 1, 1) := by decide +kernel
theorem dL_law_556 : decode cL_law 556 = .ok (.iadd, 1) := by decide +kernel
theorem dL_law_557 : decode cL_law 557 = .ok (.iaload, 1) := by decide +kernel
theorem dL_law_558 : decode cL_law 558 = .ok (.aload_n 0, 1) := by decide +kernel
theorem dL_law_559 : decode cL_law 559 = .ok (.iload 4, 2) := by decide +kernel
theorem dL_law_561 : decode cL_law 561 = .ok (.iconst 2, 1) := by decide +kernel
theorem dL_law_562 : decode cL_law 562 = .ok (.iadd, 1) := by decide +kernel
theorem dL_law_563 : decode cL_law 563 = .ok (.iaload, 1) := by decide +kernel
theorem dL_law_564 : decode cL_law 564 = .ok (.aload_n 0, 1) := by decide +kernel
theorem dL_law_565 : decode cL_law 565 = .ok (.iload 4, 2) := by decide +kernel
theorem dL_law_567 : decode cL_law 567 = .ok (.iconst 3, 1) := by decide +kernel
theorem dL_law_568 : decode cL_law 568 = .ok (.iadd, 1) := by decide +kernel
theorem dL_law_569 : decode cL_law 569 = .ok (.iaload, 1) := by decide +kernel
theorem dL_law_570 : decode cL_law 570 = .ok (.invokevirtual 90, 3) := by decide +kernel
theorem dL_law_573 : decode cL_law 573 = .ok (.istore 6, 2) := by decide +kernel
theorem dL_law_575 : decode cL_law 575 = .ok (.aload_n 2, 1) := by decide +kernel
theorem dL_law_576 : decode cL_law 576 = .ok (.invokevirtual 71, 3) := by decide +kernel
theorem dL_law_579 : decode cL_law 579 = .ok (.iload 5, 2) := by decide +kernel
theorem dL_law_581 : decode cL_law 581 = .ok (.if_icmp .eq 5, 3) := by decide +kernel
theorem dL_law_584 : decode cL_law 584 = .ok (.iconst 0, 1) := by decide +kernel
theorem dL_law_585 : decode cL_law 585 = .ok (.ireturn, 1) := by decide +kernel
theorem dL_law_586 : decode cL_law 586 = .ok (.iload 5, 2) := by decide +kernel
theorem dL_law_588 : decode cL_law 588 = .ok (.ifCond .ne 15, 3) := by decide +kernel
theorem dL_law_591 : decode cL_law 591 = .ok (.aload_n 3, 1) := by decide +kernel
theorem dL_law_592 : decode cL_law 592 = .ok (.iconst 0, 1) := by decide +kernel
theorem dL_law_593 : decode cL_law 593 = .ok (.laload, 1) := by decide +kernel
theorem dL_law_594 : decode cL_law 594 = .ok (.iload 6, 2) := by decide +kernel
theorem dL_law_596 : decode cL_law 596 = .ok (.i2l, 1) := by decide +kernel
theorem dL_law_597 : decode cL_law 597 = .ok (.lcmp, 1) := by decide +kernel
theorem dL_law_598 : decode cL_law 598 = .ok (.ifCond .eq 5, 3) := by decide +kernel
theorem dL_law_601 : decode cL_law 601 = .ok (.iconst 0, 1) := by decide +kernel
theorem dL_law_602 : decode cL_law 602 = .ok (.ireturn, 1) := by decide +kernel
theorem dL_law_603 : decode cL_law 603 = .ok (.goto 465, 3) := by decide +kernel
theorem dL_law_606 : decode cL_law 606 = .ok (.aload_n 1, 1) := by decide +kernel
theorem dL_law_607 : decode cL_law 607 = .ok (.aload_n 0, 1) := by decide +kernel
theorem dL_law_608 : decode cL_law 608 = .ok (.iload 4, 2) := by decide +kernel
theorem dL_law_610 : decode cL_law 610 = .ok (.iconst 1, 1) := by decide +kernel
theorem dL_law_611 : decode cL_law 611 = .ok (.iadd, 1) := by decide +kernel
theorem dL_law_612 : decode cL_law 612 = .ok (.iaload, 1) := by decide +kernel
theorem dL_law_613 : decode cL_law 613 = .ok (.aload_n 0, 1) := by decide +kernel
theorem dL_law_614 : decode cL_law 614 = .ok (.iload 4, 2) := by decide +kernel
theorem dL_law_616 : decode cL_law 616 = .ok (.iconst 2, 1) := by decide +kernel
theorem dL_law_617 : decode cL_law 617 = .ok (.iadd, 1) := by decide +kernel
theorem dL_law_618 : decode cL_law 618 = .ok (.iaload, 1) := by decide +kernel
theorem dL_law_619 : decode cL_law 619 = .ok (.aload_n 3, 1) := by decide +kernel
theorem dL_law_620 : decode cL_law 620 = .ok (.invokestatic 91, 3) := by decide +kernel
theorem dL_law_623 : decode cL_law 623 = .ok (.istore 5, 2) := by decide +kernel
theorem dL_law_625 : decode cL_law 625 = .ok (.aload_n 2, 1) := by decide +kernel
theorem dL_law_626 : decode cL_law 626 = .ok (.aload_n 0, 1) := by decide +kernel
theorem dL_law_627 : decode cL_law 627 = .ok (.iload 4, 2) := by decide +kernel
theorem dL_law_629 : decode cL_law 629 = .ok (.iconst 1, 1) := by decide +kernel
theorem dL_law_630 : decode cL_law 630 = .ok (.iadd, 1) := by decide +kernel
theorem dL_law_631 : decode cL_law 631 = .ok (.iaload, 1) := by decide +kernel
theorem dL_law_632 : decode cL_law 632 = .ok (.aload_n 0, 1) := by decide +kernel
theorem dL_law_633 : decode cL_law 633 = .ok (.iload 4, 2) := by decide +kernel
theorem dL_law_635 : decode cL_law 635 = .ok (.iconst 2, 1) := by decide +kernel
theorem dL_law_636 : decode cL_law 636 = .ok (.iadd, 1) := by decide +kernel
theorem dL_law_637 : decode cL_law 637 = .ok (.iaload, 1) := by decide +kernel
theorem dL_law_638 : decode cL_law 638 = .ok (.invokevirtual 94, 3) := by decide +kernel
theorem dL_law_641 : decode cL_law 641 = .ok (.istore 6, 2) := by decide +kernel
theorem dL_law_643 : decode cL_law 643 = .ok (.aload_n 2, 1) := by decide +kernel
theorem dL_law_644 : decode cL_law 644 = .ok (.invokevirtual 71, 3) := by decide +kernel
theorem dL_law_647 : decode cL_law 647 = .ok (.iload 5, 2) := by decide +kernel
theorem dL_law_649 : decode cL_law 649 = .ok (.if_icmp .eq 5, 3) := by decide +kernel
theorem dL_law_652 : decode cL_law 652 = .ok (.iconst 0, 1) := by decide +kernel
theorem dL_law_653 : decode cL_law 653 = .ok (.ireturn, 1) := by decide +kernel
theorem dL_law_654 : decode cL_law 654 = .ok (.iload 5, 2) := by decide +kernel
theorem dL_law_656 : decode cL_law 656 = .ok (.ifCond .ne 15, 3) := by decide +kernel
theorem dL_law_659 : decode cL_law 659 = .ok (.aload_n 3, 1) := by decide +kernel
theorem dL_law_660 : decode cL_law 660 = .ok (.iconst 0, 1) := by decide +kernel
theorem dL_law_661 : decode cL_law 661 = .ok (.laload, 1) := by decide +kernel
theorem dL_law_662 : decode cL_law 662 = .ok (.iload 6, 2) := by decide +kernel
theorem dL_law_664 : decode cL_law 664 = .ok (.i2l, 1) := by decide +kernel
theorem dL_law_665 : decode cL_law 665 = .ok (.lcmp, 1) := by decide +kernel
theorem dL_law_666 : decode cL_law 666 = .ok (.ifCond .eq 5, 3) := by decide +kernel
theorem dL_law_669 : decode cL_law 669 = .ok (.iconst 0, 1) := by decide +kernel
theorem dL_law_670 : decode cL_law 670 = .ok (.ireturn, 1) := by decide +kernel
theorem dL_law_671 : decode cL_law 671 = .ok (.goto 397, 3) := by decide +kernel
theorem dL_law_674 : decode cL_law 674 = .ok (.aload_n 1, 1) := by decide +kernel
theorem dL_law_675 : decode cL_law 675 = .ok (.aload_n 0, 1) := by decide +kernel
theorem dL_law_676 : decode cL_law 676 = .ok (.iload 4, 2) := by decide +kernel
theorem dL_law_678 : decode cL_law 678 = .ok (.iconst 1, 1) := by decide +kernel
theorem dL_law_679 : decode cL_law 679 = .ok (.iadd, 1) := by decide +kernel
theorem dL_law_680 : decode cL_law 680 = .ok (.iaload, 1) := by decide +kernel
theorem dL_law_681 : decode cL_law 681 = .ok (.aload_n 0, 1) := by decide +kernel
theorem dL_law_682 : decode cL_law 682 = .ok (.iload 4, 2) := by decide +kernel
theorem dL_law_684 : decode cL_law 684 = .ok (.iconst 2, 1) := by decide +kernel
theorem dL_law_685 : decode cL_law 685 = .ok (.iadd, 1) := by decide +kernel
theorem dL_law_686 : decode cL_law 686 = .ok (.iaload, 1) := by decide +kernel
theorem dL_law_687 : decode cL_law 687 = .ok (.aload_n 3, 1) := by decide +kernel
theorem dL_law_688 : decode cL_law 688 = .ok (.invokestatic 95, 3) := by decide +kernel
theorem dL_law_691 : decode cL_law 691 = .ok (.istore 5, 2) := by decide +kernel
theorem dL_law_693 : decode cL_law 693 = .ok (.aload_n 2, 1) := by decide +kernel
theorem dL_law_694 : decode cL_law 694 = .ok (.aload_n 0, 1) := by decide +kernel
theorem dL_law_695 : decode cL_law 695 = .ok (.iload 4, 2) := by decide +kernel
theorem dL_law_697 : decode cL_law 697 = .ok (.iconst 1, 1) := by decide +kernel
theorem dL_law_698 : decode cL_law 698 = .ok (.iadd, 1) := by decide +kernel
theorem dL_law_699 : decode cL_law 699 = .ok (.iaload, 1) := by decide +kernel
theorem dL_law_700 : decode cL_law 700 = .ok (.aload_n 0, 1) := by decide +kernel
theorem dL_law_701 : decode cL_law 701 = .ok (.iload 4, 2) := by decide +kernel
theorem dL_law_703 : decode cL_law 703 = .ok (.iconst 2, 1) := by decide +kernel
theorem dL_law_704 : decode cL_law 704 = .ok (.iadd, 1) := by decide +kernel
theorem dL_law_705 : decode cL_law 705 = .ok (.iaload, 1) := by decide +kernel
theorem dL_law_706 : decode cL_law 706 = .ok (.invokevirtual 97, 3) := by decide +kernel
theorem dL_law_709 : decode cL_law 709 = .ok (.istore 6, 2) := by decide +kernel
theorem dL_law_711 : decode cL_law 711 = .ok (.aload_n 2, 1) := by decide +kernel
theorem dL_law_712 : decode cL_law 712 = .ok (.invokevirtual 71, 3) := by decide +kernel
theorem dL_law_715 : decode cL_law 715 = .ok (.iload 5, 2) := by decide +kernel
theorem dL_law_717 : decode cL_law 717 = .ok (.if_icmp .eq 5, 3) := by decide +kernel
theorem dL_law_720 : decode cL_law 720 = .ok (.iconst 0, 1) := by decide +kernel
theorem dL_law_721 : decode cL_law 721 = .ok (.ireturn, 1) := by decide +kernel
theorem dL_law_722 : decode cL_law 722 = .ok (.iload 5, 2) := by decide +kernel
theorem dL_law_724 : decode cL_law 724 = .ok (.ifCond .ne 15, 3) := by decide +kernel
theorem dL_law_727 : decode cL_law 727 = .ok (.aload_n 3, 1) := by decide +kernel
theorem dL_law_728 : decode cL_law 728 = .ok (.iconst 0, 1) := by decide +kernel
theorem dL_law_729 : decode cL_law 729 = .ok (.laload, 1) := by decide +kernel
theorem dL_law_730 : decode cL_law 730 = .ok (.iload 6, 2) := by decide +kernel
theorem dL_law_732 : decode cL_law 732 = .ok (.i2l, 1) := by decide +kernel
theorem dL_law_733 : decode cL_law 733 = .ok (.lcmp, 1) := by decide +kernel
theorem dL_law_734 : decode cL_law 734 = .ok (.ifCond .eq 5, 3) := by decide +kernel
theorem dL_law_737 : decode cL_law 737 = .ok (.iconst 0, 1) := by decide +kernel
theorem dL_law_738 : decode cL_law 738 = .ok (.ireturn, 1) := by decide +kernel
theorem dL_law_739 : decode cL_law 739 = .ok (.goto 329, 3) := by decide +kernel
theorem dL_law_742 : decode cL_law 742 = .ok (.aload_n 1, 1) := by decide +kernel
theorem dL_law_743 : decode cL_law 743 = .ok (.invokevirtual 98, 3) := by decide +kernel
theorem dL_law_746 : decode cL_law 746 = .ok (.aload_n 2, 1) := by decide +kernel
theorem dL_law_747 : decode cL_law 747 = .ok (.invokevirtual 102, 3) := by decide +kernel
theorem dL_law_750 : decode cL_law 750 = .ok (.if_icmp .eq 318, 3) := by decide +kernel
theorem dL_law_753 : decode cL_law 753 = .ok (.iconst 0, 1) := by decide +kernel
theorem dL_law_754 : decode cL_law 754 = .ok (.ireturn, 1) := by decide +kernel
theorem dL_law_755 : decode cL_law 755 = .ok (.aload_n 1, 1) := by decide +kernel
theorem dL_law_756 : decode cL_law 756 = .ok (.aload_n 0, 1) := by decide +kernel
theorem dL_law_757 : decode cL_law 757 = .ok (.iload 4, 2) := by decide +kernel
theorem dL_law_759 : decode cL_law 759 = .ok (.iconst 1, 1) := by decide +kernel
theorem dL_law_760 : decode cL_law 760 = .ok (.iadd, 1) := by decide +kernel
theorem dL_law_761 : decode cL_law 761 = .ok (.iaload, 1) := by decide +kernel
theorem dL_law_762 : decode cL_law 762 = .ok (.aload_n 0, 1) := by decide +kernel
theorem dL_law_763 : decode cL_law 763 = .ok (.iload 4, 2) := by decide +kernel
theorem dL_law_765 : decode cL_law 765 = .ok (.iconst 2, 1) := by decide +kernel
theorem dL_law_766 : decode cL_law 766 = .ok (.iadd, 1) := by decide +kernel
theorem dL_law_767 : decode cL_law 767 = .ok (.iaload, 1) := by decide +kernel
theorem dL_law_768 : decode cL_law 768 = .ok (.aload_n 3, 1) := by decide +kernel
theorem dL_law_769 : decode cL_law 769 = .ok (.invokestatic 103, 3) := by decide +kernel
theorem dL_law_772 : decode cL_law 772 = .ok (.istore 5, 2) := by decide +kernel
theorem dL_law_774 : decode cL_law 774 = .ok (.aload_n 2, 1) := by decide +kernel
theorem dL_law_775 : decode cL_law 775 = .ok (.aload_n 0, 1) := by decide +kernel
theorem dL_law_776 : decode cL_law 776 = .ok (.iload 4, 2) := by decide +kernel
theorem dL_law_778 : decode cL_law 778 = .ok (.iconst 1, 1) := by decide +kernel
theorem dL_law_779 : decode cL_law 779 = .ok (.iadd, 1) := by decide +kernel
theorem dL_law_780 : decode cL_law 780 = .ok (.iaload, 1) := by decide +kernel
theorem dL_law_781 : decode cL_law 781 = .ok (.aload_n 0, 1) := by decide +kernel
theorem dL_law_782 : decode cL_law 782 = .ok (.iload 4, 2) := by decide +kernel
theorem dL_law_784 : decode cL_law 784 = .ok (.iconst 2, 1) := by decide +kernel
theorem dL_law_785 : decode cL_law 785 = .ok (.iadd, 1) := by decide +kernel
theorem dL_law_786 : decode cL_law 786 = .ok (.iaload, 1) := by decide +kernel
theorem dL_law_787 : decode cL_law 787 = .ok (.invokevirtual 105, 3) := by decide +kernel
theorem dL_law_790 : decode cL_law 790 = .ok (.istore 6, 2) := by decide +kernel
theorem dL_law_792 : decode cL_law 792 = .ok (.aload_n 2, 1) := by decide +kernel
theorem dL_law_793 : decode cL_law 793 = .ok (.invokevirtual 71, 3) := by decide +kernel
theorem dL_law_796 : decode cL_law 796 = .ok (.iload 5, 2) := by decide +kernel
theorem dL_law_798 : decode cL_law 798 = .ok (.if_icmp .eq 5, 3) := by decide +kernel
theorem dL_law_801 : decode cL_law 801 = .ok (.iconst 0, 1) := by decide +kernel
theorem dL_law_802 : decode cL_law 802 = .ok (.ireturn, 1) := by decide +kernel
theorem dL_law_803 : decode cL_law 803 = .ok (.iload 5, 2) := by decide +kernel
theorem dL_law_805 : decode cL_law 805 = .ok (.ifCond .ne 15, 3) := by decide +kernel
theorem dL_law_808 : decode cL_law 808 = .ok (.aload_n 3, 1) := by decide +kernel
theorem dL_law_809 : decode cL_law 809 = .ok (.iconst 0, 1) := by decide +kernel
theorem dL_law_810 : decode cL_law 810 = .ok (.laload, 1) := by decide +kernel
theorem dL_law_811 : decode cL_law 811 = .ok (.iload 6, 2) := by decide +kernel
theorem dL_law_813 : decode cL_law 813 = .ok (.i2l, 1) := by decide +kernel
theorem dL_law_814 : decode cL_law 814 = .ok (.lcmp, 1) := by decide +kernel
theorem dL_law_815 : decode cL_law 815 = .ok (.ifCond .eq 5, 3) := by decide +kernel
theorem dL_law_818 : decode cL_law 818 = .ok (.iconst 0, 1) := by decide +kernel
theorem dL_law_819 : decode cL_law 819 = .ok (.ireturn, 1) := by decide +kernel
theorem dL_law_820 : decode cL_law 820 = .ok (.goto 248, 3) := by decide +kernel
theorem dL_law_823 : decode cL_law 823 = .ok (.aload_n 1, 1) := by decide +kernel
theorem dL_law_824 : decode cL_law 824 = .ok (.invokevirtual 106, 3) := by decide +kernel
theorem dL_law_827 : decode cL_law 827 = .ok (.aload_n 2, 1) := by decide +kernel
theorem dL_law_828 : decode cL_law 828 = .ok (.invokevirtual 110, 3) := by decide +kernel
theorem dL_law_831 : decode cL_law 831 = .ok (.lcmp, 1) := by decide +kernel
theorem dL_law_832 : decode cL_law 832 = .ok (.ifCond .eq 236, 3) := by decide +kernel
theorem dL_law_835 : decode cL_law 835 = .ok (.iconst 0, 1) := by decide +kernel
theorem dL_law_836 : decode cL_law 836 = .ok (.ireturn, 1) := by decide +kernel
theorem dL_law_837 : decode cL_law 837 = .ok (.aload_n 1, 1) := by decide +kernel
theorem dL_law_838 : decode cL_law 838 = .ok (.invokevirtual 111, 3) := by decide +kernel
theorem dL_law_841 : decode cL_law 841 = .ok (.aload_n 2, 1) := by decide +kernel
theorem dL_law_842 : decode cL_law 842 = .ok (.invokevirtual 114, 3) := by decide +kernel
theorem dL_law_845 : decode cL_law 845 = .ok (.if_icmp .eq 223, 3) := by decide +kernel
theorem dL_law_848 : decode cL_law 848 = .ok (.iconst 0, 1) := by decide +kernel
theorem dL_law_849 : decode cL_law 849 = .ok (.ireturn, 1) := by decide +kernel
theorem dL_law_850 : decode cL_law 850 = .ok (.aload_n 1, 1) := by decide +kernel
theorem dL_law_851 : decode cL_law 851 = .ok (.aload_n 0, 1) := by decide +kernel
theorem dL_law_852 : decode cL_law 852 = .ok (.iload 4, 2) := by decide +kernel
theorem dL_law_854 : decode cL_law 854 = .ok (.iconst 1, 1) := by decide +kernel
theorem dL_law_855 : decode cL_law 855 = .ok (.iadd, 1) := by decide +kernel
theorem dL_law_856 : decode cL_law 856 = .ok (.iaload, 1) := by decide +kernel
theorem dL_law_857 : decode cL_law 857 = .ok (.aload_n 0, 1) := by decide +kernel
theorem dL_law_858 : decode cL_law 858 = .ok (.iload 4, 2) := by decide +kernel
theorem dL_law_860 : decode cL_law 860 = .ok (.iconst 2, 1) := by decide +kernel
theorem dL_law_861 : decode cL_law 861 = .ok (.iadd, 1) := by decide +kernel
theorem dL_law_862 : decode cL_law 862 = .ok (.iaload, 1) := by decide +kernel
theorem dL_law_863 : decode cL_law 863 = .ok (.aload_n 3, 1) := by decide +kernel
theorem dL_law_864 : decode cL_law 864 = .ok (.invokestatic 115, 3) := by decide +kernel
theorem dL_law_867 : decode cL_law 867 = .ok (.istore 5, 2) := by decide +kernel
theorem dL_law_869 : decode cL_law 869 = .ok (.aload_n 2, 1) := by decide +kernel
theorem dL_law_870 : decode cL_law 870 = .ok (.aload_n 0, 1) := by decide +kernel
theorem dL_law_871 : decode cL_law 871 = .ok (.iload 4, 2) := by decide +kernel
theorem dL_law_873 : decode cL_law 873 = .ok (.iconst 1, 1) := by decide +kernel
theorem dL_law_874 : decode cL_law 874 = .ok (.iadd, 1) := by decide +kernel
theorem dL_law_875 : decode cL_law 875 = .ok (.iaload, 1) := by decide +kernel
theorem dL_law_876 : decode cL_law 876 = .ok (.aload_n 0, 1) := by decide +kernel
theorem dL_law_877 : decode cL_law 877 = .ok (.iload 4, 2) := by decide +kernel
theorem dL_law_879 : decode cL_law 879 = .ok (.iconst 2, 1) := by decide +kernel
theorem dL_law_880 : decode cL_law 880 = .ok (.iadd, 1) := by decide +kernel
theorem dL_law_881 : decode cL_law 881 = .ok (.iaload, 1) := by decide +kernel
theorem dL_law_882 : decode cL_law 882 = .ok (.invokevirtual 117, 3) := by decide +kernel
theorem dL_law_885 : decode cL_law 885 = .ok (.istore 6, 2) := by decide +kernel
theorem dL_law_887 : decode cL_law 887 = .ok (.aload_n 2, 1) := by decide +kernel
theorem dL_law_888 : decode cL_law 888 = .ok (.invokevirtual 71, 3) := by decide +kernel
theorem dL_law_891 : decode cL_law 891 = .ok (.iload 5, 2) := by decide +kernel
theorem dL_law_893 : decode cL_law 893 = .ok (.if_icmp .eq 5, 3) := by decide +kernel
theorem dL_law_896 : decode cL_law 896 = .ok (.iconst 0, 1) := by decide +kernel
theorem dL_law_897 : decode cL_law 897 = .ok (.ireturn, 1) := by decide +kernel
theorem dL_law_898 : decode cL_law 898 = .ok (.iload 5, 2) := by decide +kernel
theorem dL_law_900 : decode cL_law 900 = .ok (.ifCond .ne 15, 3) := by decide +kernel
theorem dL_law_903 : decode cL_law 903 = .ok (.aload_n 3, 1) := by decide +kernel
theorem dL_law_904 : decode cL_law 904 = .ok (.iconst 0, 1) := by decide +kernel
theorem dL_law_905 : decode cL_law 905 = .ok (.laload, 1) := by decide +kernel
theorem dL_law_906 : decode cL_law 906 = .ok (.iload 6, 2) := by decide +kernel
theorem dL_law_908 : decode cL_law 908 = .ok (.i2l, 1) := by decide +kernel
theorem dL_law_909 : decode cL_law 909 = .ok (.lcmp, 1) := by decide +kernel
theorem dL_law_910 : decode cL_law 910 = .ok (.ifCond .eq 5, 3) := by decide +kernel
theorem dL_law_913 : decode cL_law 913 = .ok (.iconst 0, 1) := by decide +kernel
theorem dL_law_914 : decode cL_law 914 = .ok (.ireturn, 1) := by decide +kernel
theorem dL_law_915 : decode cL_law 915 = .ok (.goto 153, 3) := by decide +kernel
theorem dL_law_918 : decode cL_law 918 = .ok (.aload_n 1, 1) := by decide +kernel
theorem dL_law_919 : decode cL_law 919 = .ok (.invokevirtual 118, 3) := by decide +kernel
theorem dL_law_922 : decode cL_law 922 = .ok (.aload_n 2, 1) := by decide +kernel
theorem dL_law_923 : decode cL_law 923 = .ok (.invokevirtual 121, 3) := by decide +kernel
theorem dL_law_926 : decode cL_law 926 = .ok (.lcmp, 1) := by decide +kernel
theorem dL_law_927 : decode cL_law 927 = .ok (.ifCond .eq 141, 3) := by decide +kernel
theorem dL_law_930 : decode cL_law 930 = .ok (.iconst 0, 1) := by decide +kernel
theorem dL_law_931 : decode cL_law 931 = .ok (.ireturn, 1) := by decide +kernel
theorem dL_law_932 : decode cL_law 932 = .ok (.aload_n 1, 1) := by decide +kernel
theorem dL_law_933 : decode cL_law 933 = .ok (.aload_n 0, 1) := by decide +kernel
theorem dL_law_934 : decode cL_law 934 = .ok (.iload 4, 2) := by decide +kernel
theorem dL_law_936 : decode cL_law 936 = .ok (.iconst 1, 1) := by decide +kernel
theorem dL_law_937 : decode cL_law 937 = .ok (.iadd, 1) := by decide +kernel
theorem dL_law_938 : decode cL_law 938 = .ok (.iaload, 1) := by decide +kernel
theorem dL_law_939 : decode cL_law 939 = .ok (.aload_n 0, 1) := by decide +kernel
theorem dL_law_940 : decode cL_law 940 = .ok (.iload 4, 2) := by decide +kernel
theorem dL_law_942 : decode cL_law 942 = .ok (.iconst 2, 1) := by decide +kernel
theorem dL_law_943 : decode cL_law 943 = .ok (.iadd, 1) := by decide +kernel
theorem dL_law_944 : decode cL_law 944 = .ok (.iaload, 1) := by decide +kernel
theorem dL_law_945 : decode cL_law 945 = .ok (.aload_n 3, 1) := by decide +kernel
theorem dL_law_946 : decode cL_law 946 = .ok (.invokestatic 122, 3) := by decide +kernel
theorem dL_law_949 : decode cL_law 949 = .ok (.istore 5, 2) := by decide +kernel
theorem dL_law_951 : decode cL_law 951 = .ok (.aload_n 2, 1) := by decide +kernel
theorem dL_law_952 : decode cL_law 952 = .ok (.aload_n 0, 1) := by decide +kernel
theorem dL_law_953 : decode cL_law 953 = .ok (.iload 4, 2) := by decide +kernel
theorem dL_law_955 : decode cL_law 955 = .ok (.iconst 1, 1) := by decide +kernel
theorem dL_law_956 : decode cL_law 956 = .ok (.iadd, 1) := by decide +kernel
theorem dL_law_957 : decode cL_law 957 = .ok (.iaload, 1) := by decide +kernel
theorem dL_law_958 : decode cL_law 958 = .ok (.aload_n 0, 1) := by decide +kernel
theorem dL_law_959 : decode cL_law 959 = .ok (.iload 4, 2) := by decide +kernel
theorem dL_law_961 : decode cL_law 961 = .ok (.iconst 2, 1) := by decide +kernel
theorem dL_law_962 : decode cL_law 962 = .ok (.iadd, 1) := by decide +kernel
theorem dL_law_963 : decode cL_law 963 = .ok (.iaload, 1) := by decide +kernel
theorem dL_law_964 : decode cL_law 964 = .ok (.invokevirtual 124, 3) := by decide +kernel
theorem dL_law_967 : decode cL_law 967 = .ok (.istore 6, 2) := by decide +kernel
theorem dL_law_969 : decode cL_law 969 = .ok (.aload_n 2, 1) := by decide +kernel
theorem dL_law_970 : decode cL_law 970 = .ok (.invokevirtual 71, 3) := by decide +kernel
theorem dL_law_973 : decode cL_law 973 = .ok (.iload 5, 2) := by decide +kernel
theorem dL_law_975 : decode cL_law 975 = .ok (.if_icmp .eq 5, 3) := by decide +kernel
theorem dL_law_978 : decode cL_law 978 = .ok (.iconst 0, 1) := by decide +kernel
theorem dL_law_979 : decode cL_law 979 = .ok (.ireturn, 1) := by decide +kernel
theorem dL_law_980 : decode cL_law 980 = .ok (.iload 5, 2) := by decide +kernel
theorem dL_law_982 : decode cL_law 982 = .ok (.ifCond .ne 15, 3) := by decide +kernel
theorem dL_law_985 : decode cL_law 985 = .ok (.aload_n 3, 1) := by decide +kernel
theorem dL_law_986 : decode cL_law 986 = .ok (.iconst 0, 1) := by decide +kernel
theorem dL_law_987 : decode cL_law 987 = .ok (.laload, 1) := by decide +kernel
theorem dL_law_988 : decode cL_law 988 = .ok (.iload 6, 2) := by decide +kernel
theorem dL_law_990 : decode cL_law 990 = .ok (.i2l, 1) := by decide +kernel
theorem dL_law_991 : decode cL_law 991 = .ok (.lcmp, 1) := by decide +kernel
theorem dL_law_992 : decode cL_law 992 = .ok (.ifCond .eq 5, 3) := by decide +kernel
theorem dL_law_995 : decode cL_law 995 = .ok (.iconst 0, 1) := by decide +kernel
theorem dL_law_996 : decode cL_law 996 = .ok (.ireturn, 1) := by decide +kernel
theorem dL_law_997 : decode cL_law 997 = .ok (.goto 71, 3) := by decide +kernel
theorem dL_law_1000 : decode cL_law 1000 = .ok (.aload_n 1, 1) := by decide +kernel
theorem dL_law_1001 : decode cL_law 1001 = .ok (.aload_n 0, 1) := by decide +kernel
theorem dL_law_1002 : decode cL_law 1002 = .ok (.iload 4, 2) := by decide +kernel
theorem dL_law_1004 : decode cL_law 1004 = .ok (.iconst 1, 1) := by decide +kernel
theorem dL_law_1005 : decode cL_law 1005 = .ok (.iadd, 1) := by decide +kernel
theorem dL_law_1006 : decode cL_law 1006 = .ok (.iaload, 1) := by decide +kernel
theorem dL_law_1007 : decode cL_law 1007 = .ok (.aload_n 0, 1) := by decide +kernel
theorem dL_law_1008 : decode cL_law 1008 = .ok (.iload 4, 2) := by decide +kernel
theorem dL_law_1010 : decode cL_law 1010 = .ok (.iconst 2, 1) := by decide +kernel
theorem dL_law_1011 : decode cL_law 1011 = .ok (.iadd, 1) := by decide +kernel
theorem dL_law_1012 : decode cL_law 1012 = .ok (.iaload, 1) := by decide +kernel
theorem dL_law_1013 : decode cL_law 1013 = .ok (.aload_n 3, 1) := by decide +kernel
theorem dL_law_1014 : decode cL_law 1014 = .ok (.invokestatic 125, 3) := by decide +kernel
theorem dL_law_1017 : decode cL_law 1017 = .ok (.istore 5, 2) := by decide +kernel
theorem dL_law_1019 : decode cL_law 1019 = .ok (.aload_n 2, 1) := by decide +kernel
theorem dL_law_1020 : decode cL_law 1020 = .ok (.aload_n 0, 1) := by decide +kernel
theorem dL_law_1021 : decode cL_law 1021 = .ok (.iload 4, 2) := by decide +kernel
theorem dL_law_1023 : decode cL_law 1023 = .ok (.iconst 1, 1) := by decide +kernel
theorem dL_law_1024 : decode cL_law 1024 = .ok (.iadd, 1) := by decide +kernel
theorem dL_law_1025 : decode cL_law 1025 = .ok (.iaload, 1) := by decide +kernel
theorem dL_law_1026 : decode cL_law 1026 = .ok (.aload_n 0, 1) := by decide +kernel
theorem dL_law_1027 : decode cL_law 1027 = .ok (.iload 4, 2) := by decide +kernel
theorem dL_law_1029 : decode cL_law 1029 = .ok (.iconst 2, 1) := by decide +kernel
theorem dL_law_1030 : decode cL_law 1030 = .ok (.iadd, 1) := by decide +kernel
theorem dL_law_1031 : decode cL_law 1031 = .ok (.iaload, 1) := by decide +kernel
theorem dL_law_1032 : decode cL_law 1032 = .ok (.invokevirtual 127, 3) := by decide +kernel
theorem dL_law_1035 : decode cL_law 1035 = .ok (.istore 6, 2) := by decide +kernel
theorem dL_law_1037 : decode cL_law 1037 = .ok (.aload_n 2, 1) := by decide +kernel
theorem dL_law_1038 : decode cL_law 1038 = .ok (.invokevirtual 71, 3) := by decide +kernel
theorem dL_law_1041 : decode cL_law 1041 = .ok (.iload 5, 2) := by decide +kernel
theorem dL_law_1043 : decode cL_law 1043 = .ok (.if_icmp .eq 5, 3) := by decide +kernel
theorem dL_law_1046 : decode cL_law 1046 = .ok (.iconst 0, 1) := by decide +kernel
theorem dL_law_1047 : decode cL_law 1047 = .ok (.ireturn, 1) := by decide +kernel
theorem dL_law_1048 : decode cL_law 1048 = .ok (.iload 5, 2) := by decide +kernel
theorem dL_law_1050 : decode cL_law 1050 = .ok (.ifCond .ne 15, 3) := by decide +kernel
theorem dL_law_1053 : decode cL_law 1053 = .ok (.aload_n 3, 1) := by decide +kernel
theorem dL_law_1054 : decode cL_law 1054 = .ok (.iconst 0, 1) := by decide +kernel
theorem dL_law_1055 : decode cL_law 1055 = .ok (.laload, 1) := by decide +kernel
theorem dL_law_1056 : decode cL_law 1056 = .ok (.iload 6, 2) := by decide +kernel
theorem dL_law_1058 : decode cL_law 1058 = .ok (.i2l, 1) := by decide +kernel
theorem dL_law_1059 : decode cL_law 1059 = .ok (.lcmp, 1) := by decide +kernel
theorem dL_law_1060 : decode cL_law 1060 = .ok (.ifCond .eq 5, 3) := by decide +kernel
theorem dL_law_1063 : decode cL_law 1063 = .ok (.iconst 0, 1) := by decide +kernel
theorem dL_law_1064 : decode cL_law 1064 = .ok (.ireturn, 1) := by decide +kernel
theorem dL_law_1065 : decode cL_law 1065 = .ok (.goto 3, 3) := by decide +kernel
theorem dL_law_1068 : decode cL_law 1068 = .ok (.iinc 4 4, 3) := by decide +kernel
theorem dL_law_1071 : decode cL_law 1071 = .ok (.goto (-1028), 3) := by decide +kernel
theorem dL_law_1074 : decode cL_law 1074 = .ok (.iconst 1, 1) := by decide +kernel
theorem dL_law_1075 : decode cL_law 1075 = .ok (.ireturn, 1) := by decide +kernel
end
section
/-! ints and longs by their mathematical values -/
def iI (a : Int) : Int32 := Int32.ofInt a
def lI (a : Int) : Int64 := Int64.ofInt a
abbrev rg (a : Int) : Prop := -2147483648 ≤ a ∧ a < 2147483648
abbrev rl (a : Int) : Prop := -9223372036854775808 ≤ a ∧ a < 9223372036854775808
theorem iI_add (a b : Int) : iI a + iI b = iI (a + b) := (Int32.ofInt_add a b).symm
theorem iI_sub (a b : Int) : iI a - iI b = iI (a - b) := (Int32.ofInt_sub a b).symm
theorem iI_mul (a b : Int) : iI a * iI b = iI (a * b) := (Int32.ofInt_mul a b).symm
theorem iI_neg (a : Int) : -iI a = iI (-a) := (Int32.ofInt_neg a).symm
theorem iI_toInt {a : Int} (h : rg a) : (iI a).toInt = a := Int32.toInt_ofInt_of_le (by have := h.1; omega) (by have := h.2; omega)
theorem iI_of (x : Int32) : x = iI x.toInt := (Int32.ofInt_toInt x).symm
theorem rg_of (x : Int32) : rg x.toInt := by
  have h1 := Int32.le_toInt x
  have h2 := Int32.toInt_lt x
  exact ⟨by omega, by omega⟩
theorem iI_eq {a b : Int} (ha : rg a) (hb : rg b) : iI a = iI b ↔ a = b := ⟨fun h => by rw [← iI_toInt ha, ← iI_toInt hb, h], fun h => by rw [h]⟩
theorem iI_lt {a b : Int} (ha : rg a) (hb : rg b) : iI a < iI b ↔ a < b := by rw [Int32.lt_iff_toInt_lt, iI_toInt ha, iI_toInt hb]
theorem iI_le {a b : Int} (ha : rg a) (hb : rg b) : iI a ≤ iI b ↔ a ≤ b := by rw [Int32.le_iff_toInt_le, iI_toInt ha, iI_toInt hb]
theorem iI_nat (n : Nat) : iI (n : Int) = Int32.ofNat n := Int32.ofInt_eq_ofNat
theorem iI_cl {a : Int} (h : rg a) : (iI a).toNatClampNeg = a.toNat := by rw [← Int32.toNat_toInt, iI_toInt h]
theorem iI_in {a : Int} {n : Nat} (h0 : 0 ≤ a) (h1 : a < n) (hn : n < 2147483648) : vp_in (iI a) n := by
  rw [vp_in_iff, iI_toInt ⟨by omega, by omega⟩]
  exact ⟨h0, h1⟩
theorem iI_0 : (0 : Int32) = iI 0 := by decide
theorem lI_0 : (0 : Int64) = lI 0 := by decide
theorem lI_add (a b : Int) : lI a + lI b = lI (a + b) := (Int64.ofInt_add a b).symm
theorem lI_toInt {a : Int} (h : rl a) : (lI a).toInt = a := Int64.toInt_ofInt_of_le (by have := h.1; omega) (by have := h.2; omega)
theorem lI_eq {a b : Int} (ha : rl a) (hb : rl b) : lI a = lI b ↔ a = b := ⟨fun h => by rw [← lI_toInt ha, ← lI_toInt hb, h], fun h => by rw [h]⟩
theorem lI_lt {a b : Int} (ha : rl a) (hb : rl b) : lI a < lI b ↔ a < b := by rw [Int64.lt_iff_toInt_lt, lI_toInt ha, lI_toInt hb]
theorem iI_l {a : Int} (h : rg a) : (iI a).toInt64 = lI a := Int64.toInt_inj.mp (by rw [Int32.toInt_toInt64, iI_toInt h, lI_toInt ⟨by have := h.1; omega, by have := h.2; omega⟩])
theorem iI_div {a b : Int} (ha : rg a) (h0 : 0 ≤ a) (hb : rg b) (h1 : 0 < b) : iI a / iI b = iI (a / b) := by
  have h2 : 0 ≤ a / b := Int.ediv_nonneg h0 (Int.le_of_lt h1)
  have h3 : a / b ≤ a := Int.ediv_le_self b h0
  have hr : rg (a / b) := ⟨by omega, by have := ha.2; omega⟩
  apply Int32.toInt_inj.mp
  rw [Int32.toInt_div_of_ne_right _ _ (fun h => by
    have h4 := congrArg Int32.toInt h
    rw [iI_toInt hb] at h4
    have h5 : (-1 : Int32).toInt = -1 := by decide
    omega), iI_toInt ha, iI_toInt hb, iI_toInt hr, Int.tdiv_eq_ediv_of_nonneg h0]
theorem iI_rem {a b : Int} (ha : rg a) (h0 : 0 ≤ a) (hb : rg b) (h1 : 0 < b) : iI a - iI a / iI b * iI b = iI (a % b) := by
  rw [iI_div ha h0 hb h1, iI_mul, iI_sub]
  congr 1
  have := Int.mul_ediv_add_emod a b
  rw [Int.mul_comm] at this
  omega
theorem iI_max {a b : Int} (ha : rg a) (hb : rg b) : (if iI a < iI b then iI b else iI a) = iI (max a b) := by
  by_cases h : a < b
  · rw [if_pos ((iI_lt ha hb).mpr h), Int.max_eq_right (Int.le_of_lt h)]
  · rw [if_neg (fun q => h ((iI_lt ha hb).mp q)), Int.max_eq_left (Int.not_lt.mp h)]
theorem iI_min {a b : Int} (ha : rg a) (hb : rg b) : (if iI b < iI a then iI b else iI a) = iI (min a b) := by
  by_cases h : b < a
  · rw [if_pos ((iI_lt hb ha).mpr h), Int.min_eq_right (Int.le_of_lt h)]
  · rw [if_neg (fun q => h ((iI_lt hb ha).mp q)), Int.min_eq_left (Int.not_lt.mp h)]
abbrev zab (a : Int) : Int := if a < 0 then -a else a
theorem iI_abs {a : Int} (ha : rg a) : (if 0 ≤ iI a then iI a else 0 - iI a) = iI (zab a) := by
  have h0 : rg 0 := by decide
  by_cases h : a < 0
  · rw [if_neg (fun q => by rw [iI_0] at q; have := (iI_le h0 ha).mp q; omega), show zab a = -a from if_pos h, iI_0, iI_sub, Int.zero_sub]
  · rw [if_pos (by rw [iI_0]; exact (iI_le h0 ha).mpr (by omega)), show zab a = a from if_neg h]
/-! an array of ints by a function to Int -/
def uI (f : Nat → Int) (k : Nat) (x : Int) : Nat → Int := fun j => if j = k then x else f j
theorem uI_s {f : Nat → Int} {k : Nat} {x : Int} : uI f k x k = x := if_pos rfl
theorem uI_n {f : Nat → Int} {k j : Nat} {x : Int} (h : j ≠ k) : uI f k x j = f j := if_neg h
theorem upd_iI (f : Nat → Int) (k : Nat) (x : Int) : upd (fun j => iI (f j)) k (iI x) = fun j => iI (uI f k x j) := by
  funext j
  by_cases h : j = k
  · subst h
    simp [upd, uI]
  · simp [upd, uI, h]
abbrev aI (cA : ClassId) (n : Nat) (f : Nat → Int) : va_E := .inl (cA, n, .inl (fun k => iI (f k)))
abbrev oI (ci : Nat) (fs : List Value) : va_E := .inr (ci, fs)
end
section
section ZR
variable {p : Program} {l : Launch} {e : Env} {R : Room} {s : State} {m : MethodId} {args : Array Value} {below : List Frame} {meth : Method} {c : Code} {H : Heap} {locs : List Loc} {cells slots : Nat} {Q : State → Prop}
variable {cc : ByteArray} {pc : Nat} {ls : Array Slot} {rest : List Value}
theorem z_add (hx : p.tables.exec = Jvm.exec) (hb : c.code = cc) {a b : Int} (hdg : decode cc pc = .ok (.iadd, 1)) (k : W p l e R s m args below meth c H locs cells slots Q (F0 m (pc + 1) ls (.int (iI (a + b)) :: rest))) : W p l e R s m args below meth c H locs cells slots Q (F0 m pc ls (.int (iI b) :: .int (iI a) :: rest)) := lv_iadd hx hb hdg (by rw [iI_add]; exact k)
theorem z_sub (hx : p.tables.exec = Jvm.exec) (hb : c.code = cc) {a b : Int} (hdg : decode cc pc = .ok (.isub, 1)) (k : W p l e R s m args below meth c H locs cells slots Q (F0 m (pc + 1) ls (.int (iI (a - b)) :: rest))) : W p l e R s m args below meth c H locs cells slots Q (F0 m pc ls (.int (iI b) :: .int (iI a) :: rest)) := lv_isub hx hb hdg (by rw [iI_sub]; exact k)
theorem z_mul (hx : p.tables.exec = Jvm.exec) (hb : c.code = cc) {a b : Int} (hdg : decode cc pc = .ok (.imul, 1)) (k : W p l e R s m args below meth c H locs cells slots Q (F0 m (pc + 1) ls (.int (iI (a * b)) :: rest))) : W p l e R s m args below meth c H locs cells slots Q (F0 m pc ls (.int (iI b) :: .int (iI a) :: rest)) := lv_imul hx hb hdg (by rw [iI_mul]; exact k)
theorem z_neg (hx : p.tables.exec = Jvm.exec) (hb : c.code = cc) {a : Int} (hdg : decode cc pc = .ok (.ineg, 1)) (k : W p l e R s m args below meth c H locs cells slots Q (F0 m (pc + 1) ls (.int (iI (-a)) :: rest))) : W p l e R s m args below meth c H locs cells slots Q (F0 m pc ls (.int (iI a) :: rest)) := lv_ineg hx hb hdg (by first | (rw [iI_neg]; exact k) | (rw [iI_0, iI_sub, Int.zero_sub]; exact k))
theorem z_div (hx : p.tables.exec = Jvm.exec) (hb : c.code = cc) {a b : Int} (hdg : decode cc pc = .ok (.idiv, 1)) (h0 : 0 ≤ a ∧ a < 2147483648) (h1 : 0 < b ∧ b < 2147483648) (k : W p l e R s m args below meth c H locs cells slots Q (F0 m (pc + 1) ls (.int (iI (a / b)) :: rest))) : W p l e R s m args below meth c H locs cells slots Q (F0 m pc ls (.int (iI b) :: .int (iI a) :: rest)) := lv_idiv hx hb hdg (fun q => by rw [iI_0] at q; have := (iI_eq (b := 0) ⟨by omega, by omega⟩ (by decide)).mp q; omega) (by rw [iI_div ⟨by omega, by omega⟩ h0.1 ⟨by omega, by omega⟩ h1.1]; exact k)
theorem z_rem (hx : p.tables.exec = Jvm.exec) (hb : c.code = cc) {a b : Int} (hdg : decode cc pc = .ok (.irem, 1)) (h0 : 0 ≤ a ∧ a < 2147483648) (h1 : 0 < b ∧ b < 2147483648) (k : W p l e R s m args below meth c H locs cells slots Q (F0 m (pc + 1) ls (.int (iI (a % b)) :: rest))) : W p l e R s m args below meth c H locs cells slots Q (F0 m pc ls (.int (iI b) :: .int (iI a) :: rest)) := lv_irem hx hb hdg (fun q => by rw [iI_0] at q; have := (iI_eq (b := 0) ⟨by omega, by omega⟩ (by decide)).mp q; omega) (by rw [iI_rem ⟨by omega, by omega⟩ h0.1 ⟨by omega, by omega⟩ h1.1]; exact k)
theorem z_i2l (hx : p.tables.exec = Jvm.exec) (hb : c.code = cc) {a : Int} (hdg : decode cc pc = .ok (.i2l, 1)) (h : rg a) (k : W p l e R s m args below meth c H locs cells slots Q (F0 m (pc + 1) ls (.long (lI a) :: rest))) : W p l e R s m args below meth c H locs cells slots Q (F0 m pc ls (.int (iI a) :: rest)) := lv_i2l hx hb hdg (iI_l h) k
theorem z_ladd (hx : p.tables.exec = Jvm.exec) (hb : c.code = cc) {a b : Int} (hdg : decode cc pc = .ok (.ladd, 1)) (k : W p l e R s m args below meth c H locs cells slots Q (F0 m (pc + 1) ls (.long (lI (a + b)) :: rest))) : W p l e R s m args below meth c H locs cells slots Q (F0 m pc ls (.long (lI b) :: .long (lI a) :: rest)) := lv_ladd hx hb hdg (by rw [lI_add]; exact k)
theorem z_icmp_eq (hx : p.tables.exec = Jvm.exec) (hb : c.code = cc) {a b : Int} {off : Int} {tgt : Nat} (hdg : decode cc pc = .ok (.if_icmp .eq off, 3)) (ht : (pc : Int) + off = (tgt : Int)) (ha : rg a) (hq : rg b) (kt : a = b → W p l e R s m args below meth c H locs cells slots Q (F0 m tgt ls rest)) (kf : ¬ a = b → W p l e R s m args below meth c H locs cells slots Q (F0 m (pc + 3) ls rest)) : W p l e R s m args below meth c H locs cells slots Q (F0 m pc ls (.int (iI b) :: .int (iI a) :: rest)) := lv_icmp_eq hx hb hdg ht (fun h => kt ((iI_eq ha hq).mp h)) (fun h => kf (by have := mt (iI_eq ha hq).mpr h; omega))
theorem z_icmp_ne (hx : p.tables.exec = Jvm.exec) (hb : c.code = cc) {a b : Int} {off : Int} {tgt : Nat} (hdg : decode cc pc = .ok (.if_icmp .ne off, 3)) (ht : (pc : Int) + off = (tgt : Int)) (ha : rg a) (hq : rg b) (kt : ¬ a = b → W p l e R s m args below meth c H locs cells slots Q (F0 m tgt ls rest)) (kf : a = b → W p l e R s m args below meth c H locs cells slots Q (F0 m (pc + 3) ls rest)) : W p l e R s m args below meth c H locs cells slots Q (F0 m pc ls (.int (iI b) :: .int (iI a) :: rest)) := lv_icmp_ne hx hb hdg ht (fun h => kt (fun q => h ((iI_eq ha hq).mpr q))) (fun h => kf ((iI_eq ha hq).mp h))
theorem z_icmp_lt (hx : p.tables.exec = Jvm.exec) (hb : c.code = cc) {a b : Int} {off : Int} {tgt : Nat} (hdg : decode cc pc = .ok (.if_icmp .lt off, 3)) (ht : (pc : Int) + off = (tgt : Int)) (ha : rg a) (hq : rg b) (kt : a < b → W p l e R s m args below meth c H locs cells slots Q (F0 m tgt ls rest)) (kf : b ≤ a → W p l e R s m args below meth c H locs cells slots Q (F0 m (pc + 3) ls rest)) : W p l e R s m args below meth c H locs cells slots Q (F0 m pc ls (.int (iI b) :: .int (iI a) :: rest)) := lv_icmp_lt hx hb hdg ht (fun h => kt ((iI_lt ha hq).mp h)) (fun h => kf (by have := mt (iI_lt ha hq).mpr h; omega))
theorem z_icmp_ge (hx : p.tables.exec = Jvm.exec) (hb : c.code = cc) {a b : Int} {off : Int} {tgt : Nat} (hdg : decode cc pc = .ok (.if_icmp .ge off, 3)) (ht : (pc : Int) + off = (tgt : Int)) (ha : rg a) (hq : rg b) (kt : b ≤ a → W p l e R s m args below meth c H locs cells slots Q (F0 m tgt ls rest)) (kf : a < b → W p l e R s m args below meth c H locs cells slots Q (F0 m (pc + 3) ls rest)) : W p l e R s m args below meth c H locs cells slots Q (F0 m pc ls (.int (iI b) :: .int (iI a) :: rest)) := lv_icmp_ge hx hb hdg ht (fun h => kt ((iI_le hq ha).mp h)) (fun h => kf (by have := mt (iI_le hq ha).mpr h; omega))
theorem z_icmp_gt (hx : p.tables.exec = Jvm.exec) (hb : c.code = cc) {a b : Int} {off : Int} {tgt : Nat} (hdg : decode cc pc = .ok (.if_icmp .gt off, 3)) (ht : (pc : Int) + off = (tgt : Int)) (ha : rg a) (hq : rg b) (kt : b < a → W p l e R s m args below meth c H locs cells slots Q (F0 m tgt ls rest)) (kf : a ≤ b → W p l e R s m args below meth c H locs cells slots Q (F0 m (pc + 3) ls rest)) : W p l e R s m args below meth c H locs cells slots Q (F0 m pc ls (.int (iI b) :: .int (iI a) :: rest)) := lv_icmp_gt hx hb hdg ht (fun h => kt ((iI_lt hq ha).mp h)) (fun h => kf (by have := mt (iI_lt hq ha).mpr h; omega))
theorem z_icmp_le (hx : p.tables.exec = Jvm.exec) (hb : c.code = cc) {a b : Int} {off : Int} {tgt : Nat} (hdg : decode cc pc = .ok (.if_icmp .le off, 3)) (ht : (pc : Int) + off = (tgt : Int)) (ha : rg a) (hq : rg b) (kt : a ≤ b → W p l e R s m args below meth c H locs cells slots Q (F0 m tgt ls rest)) (kf : b < a → W p l e R s m args below meth c H locs cells slots Q (F0 m (pc + 3) ls rest)) : W p l e R s m args below meth c H locs cells slots Q (F0 m pc ls (.int (iI b) :: .int (iI a) :: rest)) := lv_icmp_le hx hb hdg ht (fun h => kt ((iI_le ha hq).mp h)) (fun h => kf (by have := mt (iI_le ha hq).mpr h; omega))
theorem z_if_eq (hx : p.tables.exec = Jvm.exec) (hb : c.code = cc) {a : Int} {off : Int} {tgt : Nat} (hdg : decode cc pc = .ok (.ifCond .eq off, 3)) (ht : (pc : Int) + off = (tgt : Int)) (ha : rg a) (kt : a = 0 → W p l e R s m args below meth c H locs cells slots Q (F0 m tgt ls rest)) (kf : ¬ a = 0 → W p l e R s m args below meth c H locs cells slots Q (F0 m (pc + 3) ls rest)) : W p l e R s m args below meth c H locs cells slots Q (F0 m pc ls (.int (iI a) :: rest)) := by
  have hz : rg 0 := by decide
  exact lv_if_eq hx hb hdg ht (fun h => kt (by rw [iI_0] at h; exact (iI_eq ha hz).mp h)) (fun h => kf (by rw [iI_0] at h; have := mt (iI_eq ha hz).mpr h; omega))
theorem z_if_ne (hx : p.tables.exec = Jvm.exec) (hb : c.code = cc) {a : Int} {off : Int} {tgt : Nat} (hdg : decode cc pc = .ok (.ifCond .ne off, 3)) (ht : (pc : Int) + off = (tgt : Int)) (ha : rg a) (kt : ¬ a = 0 → W p l e R s m args below meth c H locs cells slots Q (F0 m tgt ls rest)) (kf : a = 0 → W p l e R s m args below meth c H locs cells slots Q (F0 m (pc + 3) ls rest)) : W p l e R s m args below meth c H locs cells slots Q (F0 m pc ls (.int (iI a) :: rest)) := by
  have hz : rg 0 := by decide
  exact lv_if_ne hx hb hdg ht (fun h => kt (fun q => h (by rw [iI_0]; exact (iI_eq ha hz).mpr q))) (fun h => kf (by rw [iI_0] at h; exact (iI_eq ha hz).mp h))
theorem z_if_lt (hx : p.tables.exec = Jvm.exec) (hb : c.code = cc) {a : Int} {off : Int} {tgt : Nat} (hdg : decode cc pc = .ok (.ifCond .lt off, 3)) (ht : (pc : Int) + off = (tgt : Int)) (ha : rg a) (kt : a < 0 → W p l e R s m args below meth c H locs cells slots Q (F0 m tgt ls rest)) (kf : 0 ≤ a → W p l e R s m args below meth c H locs cells slots Q (F0 m (pc + 3) ls rest)) : W p l e R s m args below meth c H locs cells slots Q (F0 m pc ls (.int (iI a) :: rest)) := by
  have hz : rg 0 := by decide
  exact lv_if_lt hx hb hdg ht (fun h => kt (by rw [iI_0] at h; exact (iI_lt ha hz).mp h)) (fun h => kf (by rw [iI_0] at h; have := mt (iI_lt ha hz).mpr h; omega))
theorem z_if_ge (hx : p.tables.exec = Jvm.exec) (hb : c.code = cc) {a : Int} {off : Int} {tgt : Nat} (hdg : decode cc pc = .ok (.ifCond .ge off, 3)) (ht : (pc : Int) + off = (tgt : Int)) (ha : rg a) (kt : 0 ≤ a → W p l e R s m args below meth c H locs cells slots Q (F0 m tgt ls rest)) (kf : a < 0 → W p l e R s m args below meth c H locs cells slots Q (F0 m (pc + 3) ls rest)) : W p l e R s m args below meth c H locs cells slots Q (F0 m pc ls (.int (iI a) :: rest)) := by
  have hz : rg 0 := by decide
  exact lv_if_ge hx hb hdg ht (fun h => kt (by rw [iI_0] at h; exact (iI_le hz ha).mp h)) (fun h => kf (by rw [iI_0] at h; have := mt (iI_le hz ha).mpr h; omega))
theorem z_if_gt (hx : p.tables.exec = Jvm.exec) (hb : c.code = cc) {a : Int} {off : Int} {tgt : Nat} (hdg : decode cc pc = .ok (.ifCond .gt off, 3)) (ht : (pc : Int) + off = (tgt : Int)) (ha : rg a) (kt : 0 < a → W p l e R s m args below meth c H locs cells slots Q (F0 m tgt ls rest)) (kf : a ≤ 0 → W p l e R s m args below meth c H locs cells slots Q (F0 m (pc + 3) ls rest)) : W p l e R s m args below meth c H locs cells slots Q (F0 m pc ls (.int (iI a) :: rest)) := by
  have hz : rg 0 := by decide
  exact lv_if_gt hx hb hdg ht (fun h => kt (by rw [iI_0] at h; exact (iI_lt hz ha).mp h)) (fun h => kf (by rw [iI_0] at h; have := mt (iI_lt hz ha).mpr h; omega))
theorem z_if_le (hx : p.tables.exec = Jvm.exec) (hb : c.code = cc) {a : Int} {off : Int} {tgt : Nat} (hdg : decode cc pc = .ok (.ifCond .le off, 3)) (ht : (pc : Int) + off = (tgt : Int)) (ha : rg a) (kt : a ≤ 0 → W p l e R s m args below meth c H locs cells slots Q (F0 m tgt ls rest)) (kf : 0 < a → W p l e R s m args below meth c H locs cells slots Q (F0 m (pc + 3) ls rest)) : W p l e R s m args below meth c H locs cells slots Q (F0 m pc ls (.int (iI a) :: rest)) := by
  have hz : rg 0 := by decide
  exact lv_if_le hx hb hdg ht (fun h => kt (by rw [iI_0] at h; exact (iI_le ha hz).mp h)) (fun h => kf (by rw [iI_0] at h; have := mt (iI_le ha hz).mpr h; omega))
theorem z_look2 (hx : p.tables.exec = Jvm.exec) (hb : c.code = cc) {a k1 k2 o1 o2 d : Int} {len t1 t2 t3 : Nat} (hdg : decode cc pc = .ok (.lookupswitch d #[(k1, o1), (k2, o2)], len)) (hk : k1 < k2) (ha : rg a) (h1 : (pc : Int) + o1 = (t1 : Int)) (h2 : (pc : Int) + o2 = (t2 : Int)) (h3 : (pc : Int) + d = (t3 : Int)) (kA : a = k1 → W p l e R s m args below meth c H locs cells slots Q (F0 m t1 ls rest)) (kB : a = k2 → W p l e R s m args below meth c H locs cells slots Q (F0 m t2 ls rest)) (kC : ¬ a = k1 → ¬ a = k2 → W p l e R s m args below meth c H locs cells slots Q (F0 m t3 ls rest)) : W p l e R s m args below meth c H locs cells slots Q (F0 m pc ls (.int (iI a) :: rest)) := by
  have hp : ((#[(k1, o1), (k2, o2)] : Array (Int × Int)).toList.zip ((#[(k1, o1), (k2, o2)] : Array (Int × Int)).toList.drop 1)).all (fun (a, next) => a.1 < next.1) = true := by simp [hk]
  by_cases e1 : a = k1
  · exact lv_lookup (off := o1) (tgt := t1) hx hb hdg hp (by rw [iI_toInt ha]; show Op.lookupswitch.offset [(k1, o1), (k2, o2)] d a = o1; rw [Op.lookupswitch.offset_cons, if_pos e1.symm]) h1 (kA e1)
  · by_cases e2 : a = k2
    · exact lv_lookup (off := o2) (tgt := t2) hx hb hdg hp (by rw [iI_toInt ha]; show Op.lookupswitch.offset [(k1, o1), (k2, o2)] d a = o2; rw [Op.lookupswitch.offset_cons, if_neg (fun q => e1 q.symm), Op.lookupswitch.offset_cons, if_pos e2.symm]) h2 (kB e2)
    · exact lv_lookup (off := d) (tgt := t3) hx hb hdg hp (by rw [iI_toInt ha]; show Op.lookupswitch.offset [(k1, o1), (k2, o2)] d a = d; rw [Op.lookupswitch.offset_cons, if_neg (fun q => e1 q.symm), Op.lookupswitch.offset_cons, if_neg (fun q => e2 q.symm), Op.lookupswitch.offset_nil]) h3 (kC e1 e2)
variable {D : va_G} {cl : List vw_C} {A : Nat → Prop} {a : Nat} {tys : List (ClassId × FieldType)} {ws : va_W} {H0 : Heap}
theorem z_iald (hx : p.tables.exec = Jvm.exec) (hb : c.code = cc) (hK : va_K D cl tys s) (hP : va_P D cl ws H) (q0 t0 : Nat) {cA : ClassId} {n : Nat} {f : Nat → Int} (ha : ws[q0]? = some (a, aI cA n f)) (ht : tys[t0]? = some (cA, .int)) {i : Int} (hi : 0 ≤ i ∧ i < n) (hn : n < 2147483648) (hdg : decode cc pc = .ok (.iaload, 1)) (kk : W p l e R s m args below meth c H locs cells slots Q (F0 m (pc + 1) ls (.int (iI (f i.toNat)) :: rest))) : W p l e R s m args below meth c H locs cells slots Q (F0 m pc ls (.int (iI i) :: .ref a :: rest)) := va_iald hx hb hK hP q0 t0 ha ht (iI_in hi.1 hi.2 hn) hdg (by rw [iI_cl ⟨by omega, by omega⟩]; exact kk)
theorem z_iast (hx : p.tables.exec = Jvm.exec) (hb : c.code = cc) (hK : va_K D cl tys s) (hP : va_P D cl ws H) (hD : va_D A ws) (hS : va_S A H0 H locs) (q0 t0 : Nat) {cA : ClassId} {n : Nat} {f : Nat → Int} (ha : ws[q0]? = some (a, aI cA n f)) (ht : tys[t0]? = some (cA, .int)) {i x : Int} (hi : 0 ≤ i ∧ i < n) (hn : n < 2147483648) (hdg : decode cc pc = .ok (.iastore, 1)) (kk : ∀ (H1 : Heap) (locs1 : List Loc), va_P D cl (ws.set q0 (a, aI cA n (uI f i.toNat x))) H1 → va_D A (ws.set q0 (a, aI cA n (uI f i.toNat x))) → va_S A H0 H1 locs1 → W p l e R s m args below meth c H1 locs1 cells slots Q (F0 m (pc + 1) ls rest)) : W p l e R s m args below meth c H locs cells slots Q (F0 m pc ls (.int (iI x) :: .int (iI i) :: .ref a :: rest)) := va_iast hx hb hK hP hD hS q0 t0 ha ht (iI_in hi.1 hi.2 hn) hdg (by rw [iI_cl ⟨by omega, by omega⟩, upd_iI]; exact kk)
theorem z_alen (hx : p.tables.exec = Jvm.exec) (hb : c.code = cc) (hK : va_K D cl tys s) (hP : va_P D cl ws H) (q0 t0 : Nat) {cA : ClassId} {x : vp_A} (ha : ws[q0]? = some (a, .inl (cA, x))) {ty : FieldType} (ht : tys[t0]? = some (cA, ty)) (hdg : decode cc pc = .ok (.arraylength, 1)) (kk : W p l e R s m args below meth c H locs cells slots Q (F0 m (pc + 1) ls (.int (iI (x.1 : Int)) :: rest))) : W p l e R s m args below meth c H locs cells slots Q (F0 m pc ls (.ref a :: rest)) := va_alen hx hb hK hP q0 t0 ha ht (iI_nat x.1).symm hdg kk
theorem z_max (hx : p.tables.exec = Jvm.exec) (hb : c.code = cc) (hml : c.maxLocals = ls.size) {own : String} {index : Nat} (hown : s.vm.findClass own = some m.cls) (hlink : (Cond.methodLink own index Lib.Math.max.name).before args s = true) (hstat : (Cond.static Lib.Math.max.name).before args s = true) (hini : (Cond.initialized "java/lang/Math").before args s = true) (hcode : (Cond.code Lib.Math.max.name Lib.Math.max.code 2 (some .int)).before args s = true) (hframes : 1 ≤ R.frames) (hlocals : (rest.map fun v => v.category).sum + 13 ≤ R.locals) (hc : cells ≤ R.cells) (hs : slots ≤ R.slots) {a b : Int} (hdg : decode cc pc = .ok (.invokestatic index, 3)) (ha : rg a) (hq : rg b) (kk : W p l e R s m args below meth c H locs cells slots Q (F0 m (pc + 3) ls (.int (iI (max a b)) :: rest))) : W p l e R s m args below meth c H locs cells slots Q (F0 m pc ls (.int (iI b) :: .int (iI a) :: rest)) := va_mmax hx hb hml hown hlink hstat hini hcode hframes hlocals hc hs hdg (by rw [iI_max ha hq]; exact kk)
theorem z_min (hx : p.tables.exec = Jvm.exec) (hb : c.code = cc) (hml : c.maxLocals = ls.size) {own : String} {index : Nat} (hown : s.vm.findClass own = some m.cls) (hlink : (Cond.methodLink own index Lib.Math.min.name).before args s = true) (hstat : (Cond.static Lib.Math.min.name).before args s = true) (hini : (Cond.initialized "java/lang/Math").before args s = true) (hcode : (Cond.code Lib.Math.min.name Lib.Math.min.code 2 (some .int)).before args s = true) (hframes : 1 ≤ R.frames) (hlocals : (rest.map fun v => v.category).sum + 13 ≤ R.locals) (hc : cells ≤ R.cells) (hs : slots ≤ R.slots) {a b : Int} (hdg : decode cc pc = .ok (.invokestatic index, 3)) (ha : rg a) (hq : rg b) (kk : W p l e R s m args below meth c H locs cells slots Q (F0 m (pc + 3) ls (.int (iI (min a b)) :: rest))) : W p l e R s m args below meth c H locs cells slots Q (F0 m pc ls (.int (iI b) :: .int (iI a) :: rest)) := va_mmin hx hb hml hown hlink hstat hini hcode hframes hlocals hc hs hdg (by rw [iI_min ha hq]; exact kk)
theorem z_abs (hx : p.tables.exec = Jvm.exec) (hb : c.code = cc) (hml : c.maxLocals = ls.size) {own : String} {index : Nat} (hown : s.vm.findClass own = some m.cls) (hlink : (Cond.methodLink own index Lib.Math.abs.name).before args s = true) (hstat : (Cond.static Lib.Math.abs.name).before args s = true) (hini : (Cond.initialized "java/lang/Math").before args s = true) (hcode : (Cond.code Lib.Math.abs.name Lib.Math.abs.code 1 (some .int)).before args s = true) (hframes : 1 ≤ R.frames) (hlocals : (rest.map fun v => v.category).sum + 13 ≤ R.locals) (hc : cells ≤ R.cells) (hs : slots ≤ R.slots) {a : Int} (hdg : decode cc pc = .ok (.invokestatic index, 3)) (ha : rg a) (kk : W p l e R s m args below meth c H locs cells slots Q (F0 m (pc + 3) ls (.int (iI (zab a)) :: rest))) : W p l e R s m args below meth c H locs cells slots Q (F0 m pc ls (.int (iI a) :: rest)) := va_mabs hx hb hml hown hlink hstat hini hcode hframes hlocals hc hs hdg (by rw [iI_abs ha]; exact kk)
end ZR
end
section
def zIsNest : Cond → Bool
  | .fieldLinkNest .. => true
  | .methodLinkNest .. => true
  | .declares .. => true
  | .castable .. => true
  | _ => false
theorem zNest_tab {w : Cond} (h : zIsNest w = true) : w.onTables = true := by
  cases w <;> first | rfl | cases h
theorem zNest_warm {w : Cond} (h : zIsNest w = true) {s U : State} (hW : s.WarmedH U.vm) (hZ : va_Nw w s) : va_Nw w U := by
  cases w <;> first | exact va_Nw.warmF hW hZ | exact va_Nw.warmM hW hZ | exact va_Nw.warmD hW hZ | exact va_Nw.warmC hW hZ | cases h
theorem zNest_ok : ∀ w ∈ zNest, zIsNest w = true := by decide +kernel
/-- what a start gives of nest mates, texts, classes that aren't cast, and the throwables' statics -/
def zZ (A : Nat → Prop) (U : State) (H : Heap) : Prop := (∀ w ∈ zNest, va_Nw w U) ∧ (∀ q ∈ zTxt, ∃ a, vk_R q.1 q.2.1 q.2.2 a U) ∧ (∀ q ∈ zNcs, va_Nc q.1 q.2 U) ∧ vx_Zq "java/lang/Throwable" "UNASSIGNED_STACK" "[Ljava/lang/StackTraceElement;" A U H ∧ vx_Zq "java/lang/Throwable" "SUPPRESSED_SENTINEL" "Ljava/util/List;" A U H
theorem zZ.same {A : Nat → Prop} {u U : State} {H : Heap} (hv : U.vm = u.vm) (h : zZ A u H) : zZ A U H := by
  have ha : u.vm.Alike U.vm := by rw [hv]; exact Vm.Alike.refl u.vm
  exact ⟨fun w hw => va_Nw.same (zNest_tab (zNest_ok w hw)) hv.symm (h.1 w hw), fun q hq => (h.2.1 q hq).elim fun a hz => ⟨a, vk_R.same hv hz⟩, fun q hq => va_Nc.moved ha (h.2.2.1 q hq), vx_Zq.moved ha h.2.2.2.1, vx_Zq.moved ha h.2.2.2.2⟩
theorem zZ.warm {A B : Nat → Prop} {s U : State} {H : Heap} {locs : List Loc} (hW : s.WarmedH U.vm) (hS : va_S A s.heap H locs) (hF : ∀ q, B q → A q) (hU : U.heap = H) (h : zZ A s s.heap) : zZ B U U.heap := by
  rw [hU]
  exact ⟨fun w hw => zNest_warm (zNest_ok w hw) hW (h.1 w hw), fun q hq => (h.2.1 q hq).elim fun a hz => ⟨a, vk_R.warm hW hz⟩, fun q hq => va_Nc.moved hW.alike (h.2.2.1 q hq), vx_Zq.narrow (vx_Zq.moved hW.alike (vx_Zq.kept h.2.2.2.1 hS.2.1)) hF, vx_Zq.narrow (vx_Zq.moved hW.alike (vx_Zq.kept h.2.2.2.2 hS.2.1)) hF⟩
/-- a method's start over the world ws -/
def zP (D : va_G) (cl : List vw_C) (tys : List (ClassId × FieldType)) (ws : va_W) (sz : Nat) (av : List Value) : Array Value → State → Prop := va_Pc av (fun U => U.heap.size = sz ∧ va_P D cl ws U.heap ∧ va_K D cl tys U ∧ va_D (fun _ => True) ws ∧ zZ (va_A ws sz) U U.heap)
theorem zP_bl {D : va_G} {cl : List vw_C} {tys : List (ClassId × FieldType)} {ws : va_W} {sz : Nat} {av : List Value} : FrameBlind (zP D cl tys ws sz av) := fun a U g mk q => by
  obtain ⟨q0, q1, qP, qK, qD, qZ⟩ := q
  exact ⟨q0, q1, qP, va_K.moved (u := U) (U := U.calling g mk a) (Vm.Alike.refl U.vm) qK, qD, zZ.same (u := U) (U := U.calling g mk a) rfl qZ⟩
def zB (D : va_G) (cl : List vw_C) (tys : List (ClassId × FieldType)) (A : Nat → Prop) (ws' : va_W) (t : State) : Prop := va_P D cl ws' t.heap ∧ va_K D cl tys t ∧ va_D A ws'
def zQi (D : va_G) (cl : List vw_C) (tys : List (ClassId × FieldType)) (ws : va_W) (sz : Nat) (ok : Prop) (r : Int) (ws' : va_W) : Array Value → State → Outcome → State → Prop := va_Qi (S := Unit) (fun x _ => ok ∧ x = iI r) (fun _ t => zB D cl tys (va_A ws sz) ws' t) (va_A ws sz)
def zQl (D : va_G) (cl : List vw_C) (tys : List (ClassId × FieldType)) (ws : va_W) (sz : Nat) (ok : Prop) (r : Int) (ws' : va_W) : Array Value → State → Outcome → State → Prop := va_Ql (S := Unit) (fun x _ => ok ∧ x = lI r) (fun _ t => zB D cl tys (va_A ws sz) ws' t) (va_A ws sz)
def zQv (D : va_G) (cl : List vw_C) (tys : List (ClassId × FieldType)) (ws : va_W) (sz : Nat) (ok : Prop) (ws' : va_W) : Array Value → State → Outcome → State → Prop := va_Qv (S := Unit) (fun _ => ok) (fun _ t => zB D cl tys (va_A ws sz) ws' t) (va_A ws sz)
/-- what a throw leaves: which class, and the world as it was -/
def zX (D : va_G) (cl : List vw_C) (tys : List (ClassId × FieldType)) (ws : va_W) (sz : Nat) (φ : String → Prop) : String → State → State → Prop := vx_X (S := Unit) (fun _ => True) (fun E _ t => φ E ∧ zB D cl tys (va_A ws sz) ws t) (va_A ws sz)
section ZC
variable {p : Program} {l : Launch} {e : Env} {R : Room} {s : State} {m : MethodId} {args : Array Value} {below : List Frame} {meth : Method} {c : Code} {H : Heap} {locs : List Loc} {cells slots : Nat} {Q : State → Prop}
variable {pc : Nat} {ls : Array Slot} {rest st0 : List Value} {a : Array Value} {A : Nat → Prop} {mc ms : Nat} {D : va_G} {cl : List vw_C} {tys tysC : List (ClassId × FieldType)} {ws wc w1 ws' : va_W}
theorem zP_S {As : List Value} (hP : va_P D cl wc H) (hK : va_K D cl tysC s) (hD : va_D A wc) (hS : va_S A s.heap H locs) (hF : ∀ q, va_A wc H.size q → A q) (hZ : zZ A s s.heap) : PreS s H (zP D cl tysC wc H.size As) As :=
  ⟨zP_bl, fun U hU hW => ⟨rfl, by rw [hU], by rw [hU]; exact hP, va_K.moved hW.alike hK, hD.weaken (fun _ _ _ _ => trivial), zZ.warm hW hS hF hU hZ⟩⟩
theorem zP_V {As : List Value} {b ci q0 : Nat} {fs : List Value} {q : vw_C} (hc : cl[ci]? = some q) (he : wc[q0]? = some (b, .inr (ci, fs))) (hP : va_P D cl wc H) (hK : va_K D cl tysC s) (hD : va_D A wc) (hS : va_S A s.heap H locs) (hF : ∀ q, va_A wc H.size q → A q) (hZ : zZ A s s.heap) : PreV s H q.1 b (zP D cl tysC wc H.size (.ref b :: As)) As :=
  ⟨zP_bl, va_recv hK hP hc he, fun U hU hW => ⟨rfl, by rw [hU], by rw [hU]; exact hP, va_K.moved hW.alike hK, hD.weaken (fun _ _ _ _ => trivial), zZ.warm hW hS hF hU hZ⟩⟩
theorem z_fmap {is : List Nat} {w w' : va_W} (h : is.map (fun i => w[i]?) = w'.map some) : is.filterMap (fun i => w[i]?) = w' := by
  have h1 := congrArg (List.filterMap id) h
  rw [List.filterMap_map, List.filterMap_map] at h1
  have h2 : List.filterMap (id ∘ fun i => w[i]?) is = List.filterMap (fun i => w[i]?) is := rfl
  have h3 : List.filterMap (id ∘ some) w' = w' := by
    show List.filterMap some w' = w'
    exact List.filterMap_some
  rw [h2, h3] at h1
  exact h1
theorem z_P0 : va_P D cl [] H := fun k q h => by simp at h
theorem z_D0 : va_D A [] := ⟨fun i j p q h => by simp at h, fun k q h => by simp at h⟩
theorem z_free0 (hS : va_S A s.heap H locs) (hA : ∀ q, s.heap.size ≤ q → A q) : ∀ q, va_A [] H.size q → A q := by
  rintro q (⟨k, e, h⟩ | h)
  · simp at h
  · exact hA q (Nat.le_trans hS.1 h)
theorem z_subOf (is : List Nat) (h : is.map (fun i => ws[i]?) = wc.map some) : ∀ q ∈ wc, q ∈ ws := by
  intro q hq
  have h1 : some q ∈ is.map (fun i => ws[i]?) := by rw [h]; exact List.mem_map_of_mem hq
  obtain ⟨i, -, hi⟩ := List.mem_map.mp h1
  exact List.mem_of_getElem? hi
/-- behind a call that changed the cells at isC to w1, the others as they were -/
theorem z_joinW {H1 : Heap} (hP : va_P D cl ws H) (hD : va_D A ws) (isC isR perm : List Nat) (hC : isC.map (fun i => ws[i]?) = wc.map some) {wr : va_W} (hR : isR.map (fun i => ws[i]?) = wr.map some) (hn : va_nd isR = true) (hdis : ∀ i ∈ isR, i ∉ isC) (hp : perm.map (fun i => (wr ++ w1)[i]?) = ws'.map some) (hnp : va_nd perm = true)
    (hk : ∀ q : Nat, q < H.size → ¬ va_A wc H.size q → H1[q]? = H[q]?) (hF : ∀ q, va_A wc H.size q → A q) (hP1 : va_P D cl w1 H1) (hD1 : va_D (va_A wc H.size) w1) : va_P D cl ws' H1 ∧ va_D A ws' := by
  obtain ⟨h1, h2⟩ := va_join hP hD isC isR hC hR hn hdis hk hF hP1 hD1
  exact ⟨h1.sub perm (z_fmap hp), h2.sub perm hnp hp⟩
/-- behind a call that changed nothing of its cells wc, which are among ws -/
theorem z_joinR {H1 : Heap} (hP : va_P D cl ws H) (hD : va_D A ws) (hsub : ∀ q ∈ wc, q ∈ ws) (hk : ∀ q : Nat, q < H.size → ¬ va_A wc H.size q → H1[q]? = H[q]?) (hP1 : va_P D cl wc H1) : va_P D cl ws H1 := by
  intro k q hq
  by_cases h : ∃ e, (q.1, e) ∈ wc
  · obtain ⟨e, he⟩ := h
    obtain ⟨i, hi⟩ := List.getElem?_of_mem (hsub _ he)
    have hik := hD.1 i k (q.1, e) q hi hq rfl
    subst hik
    have hqe : (q.1, e) = q := Option.some.inj (hi.symm.trans hq)
    rw [hqe] at he
    obtain ⟨j, hj⟩ := List.getElem?_of_mem he
    exact hP1 j q hj
  · have hl := (hP k q hq).lt
    refine (hP k q hq).kept (hk q.1 hl ?_)
    rintro (⟨j, e, hj⟩ | hz)
    · exact h ⟨e, List.mem_of_getElem? hj⟩
    · omega
theorem z_freeR {locs : List Loc} (hsub : ∀ q ∈ wc, q ∈ ws) (hD : va_D A ws) (hS : va_S A s.heap H locs) (hA : ∀ q, s.heap.size ≤ q → A q) : ∀ q, va_A wc H.size q → A q := by
  rintro q (⟨k, e, h⟩ | h)
  · obtain ⟨i, hi⟩ := List.getElem?_of_mem (hsub _ (List.mem_of_getElem? h))
    exact hD.2 i _ hi
  · exact hA q (Nat.le_trans hS.1 h)
theorem z_subP (hsub : ∀ q ∈ wc, q ∈ ws) (hP : va_P D cl ws H) : va_P D cl wc H := fun k q h => by
  obtain ⟨i, hi⟩ := List.getElem?_of_mem (hsub _ (List.mem_of_getElem? h))
  exact hP i q hi
theorem z_calli {r : Int} {ok : Prop} (hr : va_Run p l e R s m args below meth c H locs cells slots mc ms (F0 m pc ls st0) rest (zQi D cl tysC wc H.size ok r w1 a) (va_A wc H.size)) (hP : va_P D cl ws H) (hD : va_D A ws) (hS : va_S A s.heap H locs) (hF : ∀ q, va_A wc H.size q → A q) (isC isR perm : List Nat) (hC : isC.map (fun i => ws[i]?) = wc.map some) {wr : va_W} (hR : isR.map (fun i => ws[i]?) = wr.map some) (hn : va_nd isR = true) (hdis : ∀ i ∈ isR, i ∉ isC) (hp : perm.map (fun i => (wr ++ w1)[i]?) = ws'.map some) (hnp : va_nd perm = true) (kk : ∀ (H1 : Heap) (locs1 : List Loc), ok → va_P D cl ws' H1 → va_D A ws' → va_S A s.heap H1 locs1 → H.size ≤ H1.size → W p l e R s m args below meth c H1 locs1 (cells + mc) (slots + ms) Q (F0 m (pc + 3) ls (.int (iI r) :: rest))) : W p l e R s m args below meth c H locs cells slots Q (F0 m pc ls st0) := by
  refine va_calli hr hS (fun q _ h => hF q h) hF (fun r9 u t H1 locs1 ht hvm hw hB hz1 hk1 hS1 => ?_)
  obtain ⟨hP1, hK1, hD1⟩ := hB
  rw [ht] at hP1
  obtain ⟨hok, rfl⟩ := hw
  obtain ⟨h1, h2⟩ := z_joinW hP hD isC isR perm hC hR hn hdis hp hnp hk1 hF hP1 hD1
  exact kk H1 locs1 hok h1 h2 hS1 hz1
theorem z_rcalli {r : Int} {ok : Prop} (hr : va_Run p l e R s m args below meth c H locs cells slots mc ms (F0 m pc ls st0) rest (zQi D cl tysC wc H.size ok r wc a) (va_A wc H.size)) (hP : va_P D cl ws H) (hD : va_D A ws) (hS : va_S A s.heap H locs) (hF : ∀ q, va_A wc H.size q → A q) (hsub : ∀ q ∈ wc, q ∈ ws) (kk : ∀ (H1 : Heap) (locs1 : List Loc), ok → va_P D cl ws H1 → va_D A ws → va_S A s.heap H1 locs1 → H.size ≤ H1.size → W p l e R s m args below meth c H1 locs1 (cells + mc) (slots + ms) Q (F0 m (pc + 3) ls (.int (iI r) :: rest))) : W p l e R s m args below meth c H locs cells slots Q (F0 m pc ls st0) := by
  refine va_calli hr hS (fun q _ h => hF q h) hF (fun r9 u t H1 locs1 ht hvm hw hB hz1 hk1 hS1 => ?_)
  obtain ⟨hP1, hK1, hD1⟩ := hB
  rw [ht] at hP1
  obtain ⟨hok, rfl⟩ := hw
  exact kk H1 locs1 hok (z_joinR hP hD hsub hk1 hP1) hD hS1 hz1
theorem z_wcalli {r : Int} {ok : Prop} (hr : va_Run p l e R s m args below meth c H locs cells slots mc ms (F0 m pc ls st0) rest (zQi D cl tysC wc H.size ok r w1 a) (va_A wc H.size)) (hS : va_S A s.heap H locs) (hF : ∀ q, va_A wc H.size q → A q) (kk : ∀ (H1 : Heap) (locs1 : List Loc), ok → va_P D cl w1 H1 → va_D A w1 → va_S A s.heap H1 locs1 → H.size ≤ H1.size → W p l e R s m args below meth c H1 locs1 (cells + mc) (slots + ms) Q (F0 m (pc + 3) ls (.int (iI r) :: rest))) : W p l e R s m args below meth c H locs cells slots Q (F0 m pc ls st0) := by
  refine va_calli hr hS (fun q _ h => hF q h) hF (fun r9 u t H1 locs1 ht hvm hw hB hz1 hk1 hS1 => ?_)
  obtain ⟨hP1, hK1, hD1⟩ := hB
  rw [ht] at hP1
  obtain ⟨hok, rfl⟩ := hw
  exact kk H1 locs1 hok hP1 (hD1.weaken (fun _ q _ h => hF q.1 h)) hS1 hz1
theorem z_xcalli {r : Int} {ok : Prop} {φ : String → Prop} (hr : vx_Run p l e R s m args below meth c H locs cells slots mc ms (F0 m pc ls st0) rest (zQi D cl tysC wc H.size ok r w1 a) (zX D cl tysC wc H.size φ) (va_A wc H.size)) (hP : va_P D cl ws H) (hD : va_D A ws) (hS : va_S A s.heap H locs) (hF : ∀ q, va_A wc H.size q → A q) (hsub : ∀ q ∈ wc, q ∈ ws) (isC isR perm : List Nat) (hC : isC.map (fun i => ws[i]?) = wc.map some) {wr : va_W} (hR : isR.map (fun i => ws[i]?) = wr.map some) (hn : va_nd isR = true) (hdis : ∀ i ∈ isR, i ∉ isC) (hp : perm.map (fun i => (wr ++ w1)[i]?) = ws'.map some) (hnp : va_nd perm = true) (kx : ∀ (E : String) (ce : Cell) (q9 : Addr) (H1 : Heap) (locs1 : List Loc), φ E → va_P D cl ws H1 → va_S A s.heap H1 locs1 → H.size ≤ H1.size → H1[q9]? = some ce → ce.vm = .none → s.vm.findClass E = some ce.cls → vx_W p l e R s m args below meth c H1 locs1 (cells + mc) (slots + ms) Q (F0 m pc ls rest) q9) (kk : ∀ (H1 : Heap) (locs1 : List Loc), ok → va_P D cl ws' H1 → va_D A ws' → va_S A s.heap H1 locs1 → H.size ≤ H1.size → W p l e R s m args below meth c H1 locs1 (cells + mc) (slots + ms) Q (F0 m (pc + 3) ls (.int (iI r) :: rest))) : W p l e R s m args below meth c H locs cells slots Q (F0 m pc ls st0) := by
  refine vx_calli hr hS (fun q _ h => hF q h) hF (fun q _ h => hF q h) (fun E ce q9 u t H1 locs1 ht hvm _ hB hz1 hk1 hS1 h7 h8 h9 => ?_) (fun r9 u t H1 locs1 ht hvm hw hB hz1 hk1 hS1 => ?_)
  · obtain ⟨hE, hP1, hK1, hD1⟩ := hB
    rw [ht] at hP1
    exact kx E ce q9 H1 locs1 hE (z_joinR hP hD hsub hk1 hP1) hS1 hz1 h7 h8 h9
  · obtain ⟨hP1, hK1, hD1⟩ := hB
    rw [ht] at hP1
    obtain ⟨hok, rfl⟩ := hw
    obtain ⟨h1, h2⟩ := z_joinW hP hD isC isR perm hC hR hn hdis hp hnp hk1 hF hP1 hD1
    exact kk H1 locs1 hok h1 h2 hS1 hz1
theorem z_xrcalli {r : Int} {ok : Prop} {φ : String → Prop} (hr : vx_Run p l e R s m args below meth c H locs cells slots mc ms (F0 m pc ls st0) rest (zQi D cl tysC wc H.size ok r wc a) (zX D cl tysC wc H.size φ) (va_A wc H.size)) (hP : va_P D cl ws H) (hD : va_D A ws) (hS : va_S A s.heap H locs) (hF : ∀ q, va_A wc H.size q → A q) (hsub : ∀ q ∈ wc, q ∈ ws) (kx : ∀ (E : String) (ce : Cell) (q9 : Addr) (H1 : Heap) (locs1 : List Loc), φ E → va_P D cl ws H1 → va_S A s.heap H1 locs1 → H.size ≤ H1.size → H1[q9]? = some ce → ce.vm = .none → s.vm.findClass E = some ce.cls → vx_W p l e R s m args below meth c H1 locs1 (cells + mc) (slots + ms) Q (F0 m pc ls rest) q9) (kk : ∀ (H1 : Heap) (locs1 : List Loc), ok → va_P D cl ws H1 → va_D A ws → va_S A s.heap H1 locs1 → H.size ≤ H1.size → W p l e R s m args below meth c H1 locs1 (cells + mc) (slots + ms) Q (F0 m (pc + 3) ls (.int (iI r) :: rest))) : W p l e R s m args below meth c H locs cells slots Q (F0 m pc ls st0) := by
  refine vx_calli hr hS (fun q _ h => hF q h) hF (fun q _ h => hF q h) (fun E ce q9 u t H1 locs1 ht hvm _ hB hz1 hk1 hS1 h7 h8 h9 => ?_) (fun r9 u t H1 locs1 ht hvm hw hB hz1 hk1 hS1 => ?_)
  · obtain ⟨hE, hP1, hK1, hD1⟩ := hB
    rw [ht] at hP1
    exact kx E ce q9 H1 locs1 hE (z_joinR hP hD hsub hk1 hP1) hS1 hz1 h7 h8 h9
  · obtain ⟨hP1, hK1, hD1⟩ := hB
    rw [ht] at hP1
    obtain ⟨hok, rfl⟩ := hw
    exact kk H1 locs1 hok (z_joinR hP hD hsub hk1 hP1) hD hS1 hz1
theorem z_calll {r : Int} {ok : Prop} (hr : va_Run p l e R s m args below meth c H locs cells slots mc ms (F0 m pc ls st0) rest (zQl D cl tysC wc H.size ok r w1 a) (va_A wc H.size)) (hP : va_P D cl ws H) (hD : va_D A ws) (hS : va_S A s.heap H locs) (hF : ∀ q, va_A wc H.size q → A q) (isC isR perm : List Nat) (hC : isC.map (fun i => ws[i]?) = wc.map some) {wr : va_W} (hR : isR.map (fun i => ws[i]?) = wr.map some) (hn : va_nd isR = true) (hdis : ∀ i ∈ isR, i ∉ isC) (hp : perm.map (fun i => (wr ++ w1)[i]?) = ws'.map some) (hnp : va_nd perm = true) (kk : ∀ (H1 : Heap) (locs1 : List Loc), ok → va_P D cl ws' H1 → va_D A ws' → va_S A s.heap H1 locs1 → H.size ≤ H1.size → W p l e R s m args below meth c H1 locs1 (cells + mc) (slots + ms) Q (F0 m (pc + 3) ls (.long (lI r) :: rest))) : W p l e R s m args below meth c H locs cells slots Q (F0 m pc ls st0) := by
  refine va_calll hr hS (fun q _ h => hF q h) hF (fun r9 u t H1 locs1 ht hvm hw hB hz1 hk1 hS1 => ?_)
  obtain ⟨hP1, hK1, hD1⟩ := hB
  rw [ht] at hP1
  obtain ⟨hok, rfl⟩ := hw
  obtain ⟨h1, h2⟩ := z_joinW hP hD isC isR perm hC hR hn hdis hp hnp hk1 hF hP1 hD1
  exact kk H1 locs1 hok h1 h2 hS1 hz1
theorem z_rcalll {r : Int} {ok : Prop} (hr : va_Run p l e R s m args below meth c H locs cells slots mc ms (F0 m pc ls st0) rest (zQl D cl tysC wc H.size ok r wc a) (va_A wc H.size)) (hP : va_P D cl ws H) (hD : va_D A ws) (hS : va_S A s.heap H locs) (hF : ∀ q, va_A wc H.size q → A q) (hsub : ∀ q ∈ wc, q ∈ ws) (kk : ∀ (H1 : Heap) (locs1 : List Loc), ok → va_P D cl ws H1 → va_D A ws → va_S A s.heap H1 locs1 → H.size ≤ H1.size → W p l e R s m args below meth c H1 locs1 (cells + mc) (slots + ms) Q (F0 m (pc + 3) ls (.long (lI r) :: rest))) : W p l e R s m args below meth c H locs cells slots Q (F0 m pc ls st0) := by
  refine va_calll hr hS (fun q _ h => hF q h) hF (fun r9 u t H1 locs1 ht hvm hw hB hz1 hk1 hS1 => ?_)
  obtain ⟨hP1, hK1, hD1⟩ := hB
  rw [ht] at hP1
  obtain ⟨hok, rfl⟩ := hw
  exact kk H1 locs1 hok (z_joinR hP hD hsub hk1 hP1) hD hS1 hz1
theorem z_wcalll {r : Int} {ok : Prop} (hr : va_Run p l e R s m args below meth c H locs cells slots mc ms (F0 m pc ls st0) rest (zQl D cl tysC wc H.size ok r w1 a) (va_A wc H.size)) (hS : va_S A s.heap H locs) (hF : ∀ q, va_A wc H.size q → A q) (kk : ∀ (H1 : Heap) (locs1 : List Loc), ok → va_P D cl w1 H1 → va_D A w1 → va_S A s.heap H1 locs1 → H.size ≤ H1.size → W p l e R s m args below meth c H1 locs1 (cells + mc) (slots + ms) Q (F0 m (pc + 3) ls (.long (lI r) :: rest))) : W p l e R s m args below meth c H locs cells slots Q (F0 m pc ls st0) := by
  refine va_calll hr hS (fun q _ h => hF q h) hF (fun r9 u t H1 locs1 ht hvm hw hB hz1 hk1 hS1 => ?_)
  obtain ⟨hP1, hK1, hD1⟩ := hB
  rw [ht] at hP1
  obtain ⟨hok, rfl⟩ := hw
  exact kk H1 locs1 hok hP1 (hD1.weaken (fun _ q _ h => hF q.1 h)) hS1 hz1
theorem z_xcalll {r : Int} {ok : Prop} {φ : String → Prop} (hr : vx_Run p l e R s m args below meth c H locs cells slots mc ms (F0 m pc ls st0) rest (zQl D cl tysC wc H.size ok r w1 a) (zX D cl tysC wc H.size φ) (va_A wc H.size)) (hP : va_P D cl ws H) (hD : va_D A ws) (hS : va_S A s.heap H locs) (hF : ∀ q, va_A wc H.size q → A q) (hsub : ∀ q ∈ wc, q ∈ ws) (isC isR perm : List Nat) (hC : isC.map (fun i => ws[i]?) = wc.map some) {wr : va_W} (hR : isR.map (fun i => ws[i]?) = wr.map some) (hn : va_nd isR = true) (hdis : ∀ i ∈ isR, i ∉ isC) (hp : perm.map (fun i => (wr ++ w1)[i]?) = ws'.map some) (hnp : va_nd perm = true) (kx : ∀ (E : String) (ce : Cell) (q9 : Addr) (H1 : Heap) (locs1 : List Loc), φ E → va_P D cl ws H1 → va_S A s.heap H1 locs1 → H.size ≤ H1.size → H1[q9]? = some ce → ce.vm = .none → s.vm.findClass E = some ce.cls → vx_W p l e R s m args below meth c H1 locs1 (cells + mc) (slots + ms) Q (F0 m pc ls rest) q9) (kk : ∀ (H1 : Heap) (locs1 : List Loc), ok → va_P D cl ws' H1 → va_D A ws' → va_S A s.heap H1 locs1 → H.size ≤ H1.size → W p l e R s m args below meth c H1 locs1 (cells + mc) (slots + ms) Q (F0 m (pc + 3) ls (.long (lI r) :: rest))) : W p l e R s m args below meth c H locs cells slots Q (F0 m pc ls st0) := by
  refine vx_calll hr hS (fun q _ h => hF q h) hF (fun q _ h => hF q h) (fun E ce q9 u t H1 locs1 ht hvm _ hB hz1 hk1 hS1 h7 h8 h9 => ?_) (fun r9 u t H1 locs1 ht hvm hw hB hz1 hk1 hS1 => ?_)
  · obtain ⟨hE, hP1, hK1, hD1⟩ := hB
    rw [ht] at hP1
    exact kx E ce q9 H1 locs1 hE (z_joinR hP hD hsub hk1 hP1) hS1 hz1 h7 h8 h9
  · obtain ⟨hP1, hK1, hD1⟩ := hB
    rw [ht] at hP1
    obtain ⟨hok, rfl⟩ := hw
    obtain ⟨h1, h2⟩ := z_joinW hP hD isC isR perm hC hR hn hdis hp hnp hk1 hF hP1 hD1
    exact kk H1 locs1 hok h1 h2 hS1 hz1
theorem z_xrcalll {r : Int} {ok : Prop} {φ : String → Prop} (hr : vx_Run p l e R s m args below meth c H locs cells slots mc ms (F0 m pc ls st0) rest (zQl D cl tysC wc H.size ok r wc a) (zX D cl tysC wc H.size φ) (va_A wc H.size)) (hP : va_P D cl ws H) (hD : va_D A ws) (hS : va_S A s.heap H locs) (hF : ∀ q, va_A wc H.size q → A q) (hsub : ∀ q ∈ wc, q ∈ ws) (kx : ∀ (E : String) (ce : Cell) (q9 : Addr) (H1 : Heap) (locs1 : List Loc), φ E → va_P D cl ws H1 → va_S A s.heap H1 locs1 → H.size ≤ H1.size → H1[q9]? = some ce → ce.vm = .none → s.vm.findClass E = some ce.cls → vx_W p l e R s m args below meth c H1 locs1 (cells + mc) (slots + ms) Q (F0 m pc ls rest) q9) (kk : ∀ (H1 : Heap) (locs1 : List Loc), ok → va_P D cl ws H1 → va_D A ws → va_S A s.heap H1 locs1 → H.size ≤ H1.size → W p l e R s m args below meth c H1 locs1 (cells + mc) (slots + ms) Q (F0 m (pc + 3) ls (.long (lI r) :: rest))) : W p l e R s m args below meth c H locs cells slots Q (F0 m pc ls st0) := by
  refine vx_calll hr hS (fun q _ h => hF q h) hF (fun q _ h => hF q h) (fun E ce q9 u t H1 locs1 ht hvm _ hB hz1 hk1 hS1 h7 h8 h9 => ?_) (fun r9 u t H1 locs1 ht hvm hw hB hz1 hk1 hS1 => ?_)
  · obtain ⟨hE, hP1, hK1, hD1⟩ := hB
    rw [ht] at hP1
    exact kx E ce q9 H1 locs1 hE (z_joinR hP hD hsub hk1 hP1) hS1 hz1 h7 h8 h9
  · obtain ⟨hP1, hK1, hD1⟩ := hB
    rw [ht] at hP1
    obtain ⟨hok, rfl⟩ := hw
    exact kk H1 locs1 hok (z_joinR hP hD hsub hk1 hP1) hD hS1 hz1
theorem z_callv {ok : Prop} (hr : va_Run p l e R s m args below meth c H locs cells slots mc ms (F0 m pc ls st0) rest (zQv D cl tysC wc H.size ok w1 a) (va_A wc H.size)) (hP : va_P D cl ws H) (hD : va_D A ws) (hS : va_S A s.heap H locs) (hF : ∀ q, va_A wc H.size q → A q) (isC isR perm : List Nat) (hC : isC.map (fun i => ws[i]?) = wc.map some) {wr : va_W} (hR : isR.map (fun i => ws[i]?) = wr.map some) (hn : va_nd isR = true) (hdis : ∀ i ∈ isR, i ∉ isC) (hp : perm.map (fun i => (wr ++ w1)[i]?) = ws'.map some) (hnp : va_nd perm = true) (kk : ∀ (H1 : Heap) (locs1 : List Loc), ok → va_P D cl ws' H1 → va_D A ws' → va_S A s.heap H1 locs1 → H.size ≤ H1.size → W p l e R s m args below meth c H1 locs1 (cells + mc) (slots + ms) Q (F0 m (pc + 3) ls (rest))) : W p l e R s m args below meth c H locs cells slots Q (F0 m pc ls st0) := by
  refine va_callv hr hS (fun q _ h => hF q h) hF (fun u t H1 locs1 ht hvm hw hB hz1 hk1 hS1 => ?_)
  obtain ⟨hP1, hK1, hD1⟩ := hB
  rw [ht] at hP1
  have hok := hw
  obtain ⟨h1, h2⟩ := z_joinW hP hD isC isR perm hC hR hn hdis hp hnp hk1 hF hP1 hD1
  exact kk H1 locs1 hok h1 h2 hS1 hz1
theorem z_rcallv {ok : Prop} (hr : va_Run p l e R s m args below meth c H locs cells slots mc ms (F0 m pc ls st0) rest (zQv D cl tysC wc H.size ok wc a) (va_A wc H.size)) (hP : va_P D cl ws H) (hD : va_D A ws) (hS : va_S A s.heap H locs) (hF : ∀ q, va_A wc H.size q → A q) (hsub : ∀ q ∈ wc, q ∈ ws) (kk : ∀ (H1 : Heap) (locs1 : List Loc), ok → va_P D cl ws H1 → va_D A ws → va_S A s.heap H1 locs1 → H.size ≤ H1.size → W p l e R s m args below meth c H1 locs1 (cells + mc) (slots + ms) Q (F0 m (pc + 3) ls (rest))) : W p l e R s m args below meth c H locs cells slots Q (F0 m pc ls st0) := by
  refine va_callv hr hS (fun q _ h => hF q h) hF (fun u t H1 locs1 ht hvm hw hB hz1 hk1 hS1 => ?_)
  obtain ⟨hP1, hK1, hD1⟩ := hB
  rw [ht] at hP1
  have hok := hw
  exact kk H1 locs1 hok (z_joinR hP hD hsub hk1 hP1) hD hS1 hz1
theorem z_wcallv {ok : Prop} (hr : va_Run p l e R s m args below meth c H locs cells slots mc ms (F0 m pc ls st0) rest (zQv D cl tysC wc H.size ok w1 a) (va_A wc H.size)) (hS : va_S A s.heap H locs) (hF : ∀ q, va_A wc H.size q → A q) (kk : ∀ (H1 : Heap) (locs1 : List Loc), ok → va_P D cl w1 H1 → va_D A w1 → va_S A s.heap H1 locs1 → H.size ≤ H1.size → W p l e R s m args below meth c H1 locs1 (cells + mc) (slots + ms) Q (F0 m (pc + 3) ls (rest))) : W p l e R s m args below meth c H locs cells slots Q (F0 m pc ls st0) := by
  refine va_callv hr hS (fun q _ h => hF q h) hF (fun u t H1 locs1 ht hvm hw hB hz1 hk1 hS1 => ?_)
  obtain ⟨hP1, hK1, hD1⟩ := hB
  rw [ht] at hP1
  have hok := hw
  exact kk H1 locs1 hok hP1 (hD1.weaken (fun _ q _ h => hF q.1 h)) hS1 hz1
theorem z_xcallv {ok : Prop} {φ : String → Prop} (hr : vx_Run p l e R s m args below meth c H locs cells slots mc ms (F0 m pc ls st0) rest (zQv D cl tysC wc H.size ok w1 a) (zX D cl tysC wc H.size φ) (va_A wc H.size)) (hP : va_P D cl ws H) (hD : va_D A ws) (hS : va_S A s.heap H locs) (hF : ∀ q, va_A wc H.size q → A q) (hsub : ∀ q ∈ wc, q ∈ ws) (isC isR perm : List Nat) (hC : isC.map (fun i => ws[i]?) = wc.map some) {wr : va_W} (hR : isR.map (fun i => ws[i]?) = wr.map some) (hn : va_nd isR = true) (hdis : ∀ i ∈ isR, i ∉ isC) (hp : perm.map (fun i => (wr ++ w1)[i]?) = ws'.map some) (hnp : va_nd perm = true) (kx : ∀ (E : String) (ce : Cell) (q9 : Addr) (H1 : Heap) (locs1 : List Loc), φ E → va_P D cl ws H1 → va_S A s.heap H1 locs1 → H.size ≤ H1.size → H1[q9]? = some ce → ce.vm = .none → s.vm.findClass E = some ce.cls → vx_W p l e R s m args below meth c H1 locs1 (cells + mc) (slots + ms) Q (F0 m pc ls rest) q9) (kk : ∀ (H1 : Heap) (locs1 : List Loc), ok → va_P D cl ws' H1 → va_D A ws' → va_S A s.heap H1 locs1 → H.size ≤ H1.size → W p l e R s m args below meth c H1 locs1 (cells + mc) (slots + ms) Q (F0 m (pc + 3) ls (rest))) : W p l e R s m args below meth c H locs cells slots Q (F0 m pc ls st0) := by
  refine vx_callv hr hS (fun q _ h => hF q h) hF (fun q _ h => hF q h) (fun E ce q9 u t H1 locs1 ht hvm _ hB hz1 hk1 hS1 h7 h8 h9 => ?_) (fun u t H1 locs1 ht hvm hw hB hz1 hk1 hS1 => ?_)
  · obtain ⟨hE, hP1, hK1, hD1⟩ := hB
    rw [ht] at hP1
    exact kx E ce q9 H1 locs1 hE (z_joinR hP hD hsub hk1 hP1) hS1 hz1 h7 h8 h9
  · obtain ⟨hP1, hK1, hD1⟩ := hB
    rw [ht] at hP1
    have hok := hw
    obtain ⟨h1, h2⟩ := z_joinW hP hD isC isR perm hC hR hn hdis hp hnp hk1 hF hP1 hD1
    exact kk H1 locs1 hok h1 h2 hS1 hz1
theorem z_xrcallv {ok : Prop} {φ : String → Prop} (hr : vx_Run p l e R s m args below meth c H locs cells slots mc ms (F0 m pc ls st0) rest (zQv D cl tysC wc H.size ok wc a) (zX D cl tysC wc H.size φ) (va_A wc H.size)) (hP : va_P D cl ws H) (hD : va_D A ws) (hS : va_S A s.heap H locs) (hF : ∀ q, va_A wc H.size q → A q) (hsub : ∀ q ∈ wc, q ∈ ws) (kx : ∀ (E : String) (ce : Cell) (q9 : Addr) (H1 : Heap) (locs1 : List Loc), φ E → va_P D cl ws H1 → va_S A s.heap H1 locs1 → H.size ≤ H1.size → H1[q9]? = some ce → ce.vm = .none → s.vm.findClass E = some ce.cls → vx_W p l e R s m args below meth c H1 locs1 (cells + mc) (slots + ms) Q (F0 m pc ls rest) q9) (kk : ∀ (H1 : Heap) (locs1 : List Loc), ok → va_P D cl ws H1 → va_D A ws → va_S A s.heap H1 locs1 → H.size ≤ H1.size → W p l e R s m args below meth c H1 locs1 (cells + mc) (slots + ms) Q (F0 m (pc + 3) ls (rest))) : W p l e R s m args below meth c H locs cells slots Q (F0 m pc ls st0) := by
  refine vx_callv hr hS (fun q _ h => hF q h) hF (fun q _ h => hF q h) (fun E ce q9 u t H1 locs1 ht hvm _ hB hz1 hk1 hS1 h7 h8 h9 => ?_) (fun u t H1 locs1 ht hvm hw hB hz1 hk1 hS1 => ?_)
  · obtain ⟨hE, hP1, hK1, hD1⟩ := hB
    rw [ht] at hP1
    exact kx E ce q9 H1 locs1 hE (z_joinR hP hD hsub hk1 hP1) hS1 hz1 h7 h8 h9
  · obtain ⟨hP1, hK1, hD1⟩ := hB
    rw [ht] at hP1
    have hok := hw
    exact kk H1 locs1 hok (z_joinR hP hD hsub hk1 hP1) hD hS1 hz1

theorem z_top {a b : Int} (h : a = b) (k : W p l e R s m args below meth c H locs cells slots Q (F0 m pc ls (.int (iI b) :: rest))) : W p l e R s m args below meth c H locs cells slots Q (F0 m pc ls (.int (iI a) :: rest)) := h ▸ k
theorem z_join {g0 g : JFrame} (J : W p l e R s m args below meth c H locs cells slots Q g0) (k : W p l e R s m args below meth c H locs cells slots Q g0 → W p l e R s m args below meth c H locs cells slots Q g) : W p l e R s m args below meth c H locs cells slots Q g := k J
theorem z_topr {x y : Nat} (h : x = y) (k : W p l e R s m args below meth c H locs cells slots Q (F0 m pc ls (.ref y :: rest))) : W p l e R s m args below meth c H locs cells slots Q (F0 m pc ls (.ref x :: rest)) := h ▸ k
theorem z_topl {a b : Int} (h : a = b) (k : W p l e R s m args below meth c H locs cells slots Q (F0 m pc ls (.long (lI b) :: rest))) : W p l e R s m args below meth c H locs cells slots Q (F0 m pc ls (.long (lI a) :: rest)) := h ▸ k
theorem z_nb {r : Int} (h : r = 0 ∨ r = 1) : narrow .boolean (.int (iI r)) = .int (iI r) := by
  rcases h with rfl | rfl <;> rfl
theorem z_fb {r : Int} (h : r = 0 ∨ r = 1) : fits .boolean (.int (iI r)) = true := by
  rcases h with rfl | rfl <;> rfl
variable {cc : ByteArray} {sz : Nat} {ok : Prop} {r : Int}
theorem z_iret (hx : p.tables.exec = Jvm.exec) (hb : c.code = cc) (hr : meth.sig.returnType = some .int) (hlocks : meth.locks = false) (hP : va_P D cl ws' H) (hK : va_K D cl tys s) (hD : va_D (va_A ws sz) ws') (hS : va_S (va_A ws sz) s.heap H locs) (hok : ok) (hdg : decode cc pc = .ok (.ireturn, 1)) : W p l e R s m args below meth c H locs cells slots (MQ below (zQi D cl tys ws sz ok r ws') args s cells slots (va_A ws sz)) (F0 m pc ls [.int (iI r)]) :=
  W.iret hx hb hr (fun t ht hW => ⟨⟨_, (), rfl, ⟨hok, rfl⟩, by rw [ht]; exact hP, va_K.moved hW.alike hK, hD⟩, hS.F ht⟩) hS.2.2 hdg hlocks
theorem z_zret (hx : p.tables.exec = Jvm.exec) (hb : c.code = cc) (hr : meth.sig.returnType = some .boolean) (hlocks : meth.locks = false) (hn : r = 0 ∨ r = 1) (hP : va_P D cl ws' H) (hK : va_K D cl tys s) (hD : va_D (va_A ws sz) ws') (hS : va_S (va_A ws sz) s.heap H locs) (hok : ok) (hdg : decode cc pc = .ok (.ireturn, 1)) : W p l e R s m args below meth c H locs cells slots (MQ below (zQi D cl tys ws sz ok r ws') args s cells slots (va_A ws sz)) (F0 m pc ls [.int (iI r)]) :=
  W.zret hx hb hr (z_nb hn) (fun t ht hW => ⟨⟨_, (), rfl, ⟨hok, rfl⟩, by rw [ht]; exact hP, va_K.moved hW.alike hK, hD⟩, hS.F ht⟩) hS.2.2 hdg hlocks
theorem z_lret (hx : p.tables.exec = Jvm.exec) (hb : c.code = cc) (hr : meth.sig.returnType = some .long) (hlocks : meth.locks = false) (hP : va_P D cl ws' H) (hK : va_K D cl tys s) (hD : va_D (va_A ws sz) ws') (hS : va_S (va_A ws sz) s.heap H locs) (hok : ok) (hdg : decode cc pc = .ok (.lreturn, 1)) : W p l e R s m args below meth c H locs cells slots (MQ below (zQl D cl tys ws sz ok r ws') args s cells slots (va_A ws sz)) (F0 m pc ls [.long (lI r)]) :=
  W.lret hx hb hr (fun t ht hW => ⟨⟨_, (), rfl, ⟨hok, rfl⟩, by rw [ht]; exact hP, va_K.moved hW.alike hK, hD⟩, hS.F ht⟩) hS.2.2 hdg
theorem z_vret (hx : p.tables.exec = Jvm.exec) (hb : c.code = cc) (hr : meth.sig.returnType = none) (hlocks : meth.locks = false) (hP : va_P D cl ws' H) (hK : va_K D cl tys s) (hD : va_D (va_A ws sz) ws') (hS : va_S (va_A ws sz) s.heap H locs) (hok : ok) (hdg : decode cc pc = .ok (.return_, 1)) : W p l e R s m args below meth c H locs cells slots (MQ below (zQv D cl tys ws sz ok ws') args s cells slots (va_A ws sz)) (F0 m pc ls []) :=
  W.vret hx hb hr (fun t ht hW => ⟨⟨(), rfl, hok, by rw [ht]; exact hP, va_K.moved hW.alike hK, hD⟩, hS.F ht⟩) hS.2.2 hdg hlocks
abbrev aQ (cA : ClassId) (n : Nat) (f : Nat → Nat) : va_E := .inl (cA, n, .inr (.inr (.inr (.inr (fun k => some (f k))))))
abbrev aL (cA : ClassId) (n : Nat) (f : Nat → Int) : va_E := .inl (cA, n, .inr (.inl (fun k => lI (f k))))
theorem z_aald {a0 : Nat} (hx : p.tables.exec = Jvm.exec) (hb : c.code = cc) (hK : va_K D cl tys s) (hP : va_P D cl ws H) (q0 t0 : Nat) {cA : ClassId} {C : String} {n : Nat} {f : Nat → Nat} (ha : ws[q0]? = some (a0, aQ cA n f)) (ht : tys[t0]? = some (cA, .object C)) {i : Int} (hi : 0 ≤ i ∧ i < n) (hn : n < 2147483648) (hdg : decode cc pc = .ok (.aaload, 1)) (kk : W p l e R s m args below meth c H locs cells slots Q (F0 m (pc + 1) ls (.ref (f i.toNat) :: rest))) : W p l e R s m args below meth c H locs cells slots Q (F0 m pc ls (.int (iI i) :: .ref a0 :: rest)) := va_aldq hx hb hK hP q0 t0 ha ht (iI_in hi.1 hi.2 hn) hdg (by rw [iI_cl ⟨by omega, by omega⟩]; exact kk)
/-- thrown by a callee, not caught here -/
theorem z_xout {Qc : Array Value → State → Outcome → State → Prop} {φ : String → Prop} {E : String} {ce : Cell} {q : Addr} {mc' ms' : Nat} (hout : ∀ x ∈ c.exceptionTable.toList, False) (hlocks : meth.locks = false) (hcell : H[q]? = some ce) (hv : ce.vm = .none) (hcl : s.vm.findClass E = some ce.cls) (hE : φ E) (hP : va_P D cl ws H) (hK : va_K D cl tys s) (hD : va_D (va_A ws sz) ws) (hS : va_S (va_A ws sz) s.heap H locs) (hc : cells ≤ mc') (hs : slots ≤ ms') : vx_W p l e R s m args below meth c H locs cells slots (vx_MQ below Qc (zX D cl tys ws sz φ) args s mc' ms' (va_A ws sz)) (F0 m pc ls rest) q :=
  vx_out (fun x h => (hout x h).elim) hlocks hcell hv hcl (fun t ht hvm => ⟨(), trivial, ⟨hE, by rw [ht]; exact hP, va_K.moved hvm hK, hD⟩, hS.F ht⟩) hS.2.2 hc hs
/-- what 'throw new E(text)' owes of the world behind it -/
theorem z_xnew {φ : String → Prop} {E : String} (hE : φ E) (hP : va_P D cl ws H) (hK : va_K D cl tys s) (hD : va_D (va_A ws sz) ws) (hS : va_S (va_A ws sz) s.heap H locs) : ∀ t : State, s.vm.Alike t.vm → H.size ≤ t.heap.size → (∀ q : Nat, q < H.size → t.heap[q]? = H[q]?) → zX D cl tys ws sz φ E s t :=
  fun t ha hsz hk => ⟨(), trivial, ⟨hE, hP.kept (fun k q hq => hk q.1 (hP k q hq).lt), va_K.moved ha hK, hD⟩, Nat.le_trans hS.1 hsz, fun q h1 h2 => (hk q (Nat.lt_of_lt_of_le h1 hS.1)).trans (hS.2.1 q h1 h2)⟩
end ZC
end
section
/-! the class's methods as functions of numbers -/
def itr {σ : Type} (f : Nat → σ → σ) : Nat → σ → σ
  | 0, s => s
  | n + 1, s => f n (itr f n s)
theorem itr_inv {σ : Type} {f : Nat → σ → σ} {P : σ → Prop} {s : σ} (n : Nat) (h0 : P s) (hs : ∀ i t, i < n → P t → P (f i t)) : P (itr f n s) := by
  induction n with
  | zero => exact h0
  | succ n ih => exact hs n _ (Nat.lt_succ_self n) (ih (fun i t h => hs i t (Nat.lt_succ_of_lt h)))
/-- an invariant that knows the step's number -/
theorem itr_ind {σ : Type} {f : Nat → σ → σ} {P : Nat → σ → Prop} {s : σ} (n : Nat) (h0 : P 0 s) (hs : ∀ i t, i < n → P i t → P (i + 1) (f i t)) : P n (itr f n s) := by
  induction n with
  | zero => exact h0
  | succ n ih => exact hs n _ (Nat.lt_succ_self n) (ih (fun i t h => hs i t (Nat.lt_succ_of_lt h)))
theorem itr_congr {σ : Type} {f g : Nat → σ → σ} {s : σ} (n : Nat) (h : ∀ i t, i < n → f i t = g i t) : itr f n s = itr g n s := by
  induction n with
  | zero => rfl
  | succ n ih => show f n (itr f n s) = g n (itr g n s); rw [ih (fun i t hi => h i t (Nat.lt_succ_of_lt hi)), h n _ (Nat.lt_succ_self n)]
abbrev bd (f : Nat → Int) (lo hi : Int) : Prop := ∀ k, lo ≤ f k ∧ f k ≤ hi
theorem bd_uI {f : Nat → Int} {lo hi x : Int} {k : Nat} (h : bd f lo hi) (hx : lo ≤ x ∧ x ≤ hi) : bd (uI f k x) lo hi := by
  intro j
  by_cases hj : j = k
  · rw [hj, uI_s]; exact hx
  · rw [uI_n hj]; exact h j
/-- a place of the relief -/
theorem z_ix {w h : Nat} {x y : Int} (h0 : 0 ≤ x) (h1 : x < w) (h2 : 0 ≤ y) (h3 : y < h) : 0 ≤ y * w + x ∧ y * w + x < ((w * h : Nat) : Int) := by
  obtain ⟨a, rfl⟩ := Int.eq_ofNat_of_zero_le h0
  obtain ⟨b, rfl⟩ := Int.eq_ofNat_of_zero_le h2
  have h4 : b + 1 ≤ h := by omega
  have h5 : (b + 1) * w ≤ h * w := Nat.mul_le_mul_right w h4
  have h6 : (b + 1) * w = b * w + w := Nat.succ_mul b w
  have h7 : w * h = h * w := Nat.mul_comm w h
  have h8 : ((b : Int) * (w : Int)) = ((b * w : Nat) : Int) := by simp
  rw [h8]
  omega
theorem z_wh {w h : Nat} (hw : w ≤ 20) (hh : h ≤ 20) : w * h ≤ 400 := by
  have := Nat.mul_le_mul hw hh
  omega
def isW (n a b : Int) : Int := if a ≤ n ∧ n ≤ b then 1 else 0
theorem isW_01 (n a b : Int) : isW n a b = 0 ∨ isW n a b = 1 := by unfold isW; split <;> simp
theorem isW_rg (n a b : Int) : rg (isW n a b) := by rcases isW_01 n a b with h | h <;> rw [h] <;> decide
theorem isW_t {n a b : Int} : ¬ isW n a b = 0 ↔ (a ≤ n ∧ n ≤ b) := by unfold isW; split <;> simp_all
theorem isW_f {n a b : Int} : isW n a b = 0 ↔ ¬ (a ≤ n ∧ n ≤ b) := by unfold isW; split <;> simp_all
theorem z_sq {r : Int} (h0 : 0 ≤ r) (h5 : r ≤ 5) : 0 ≤ r * r ∧ r * r ≤ 25 := by
  have h2 : r = 0 ∨ r = 1 ∨ r = 2 ∨ r = 3 ∨ r = 4 ∨ r = 5 := by omega
  rcases h2 with rfl | rfl | rfl | rfl | rfl | rfl <;> decide
def flR (q : Int) : Int := if q < 1 then 0 else if q < 4 then 1 else if q < 9 then 2 else if q < 16 then 3 else if q < 25 then 4 else 5
def clR (q : Int) : Int := if q ≤ 0 then 0 else if q ≤ 1 then 1 else if q ≤ 4 then 2 else if q ≤ 9 then 3 else if q ≤ 16 then 4 else 5
def das (kd r q : Int) : Int := if r * r - q < 0 then -1 else if kd = 1 then r - flR (r * r - q) else if kd = 2 then clR q else 0
def dOv (dp : Nat → Int) (r dx dy : Int) : Int := if (-r ≤ dx ∧ dx ≤ r) ∧ (-r ≤ dy ∧ dy ≤ r) then dp ((dy + 5) * 11 + dx + 5).toNat else -1
def becR (kd r : Int) (n : Nat) (y : Int) (d : Nat → Int) : Nat → Int := itr (fun i d => uI d ((y + 5) * 11 + (-r + (i : Int)) + 5).toNat (das kd r ((-r + (i : Int)) * (-r + (i : Int)) + y * y))) n d
def becF (kd r : Int) (n k : Nat) (d : Nat → Int) : Nat → Int := itr (fun j d => becR kd r n (-r + (j : Int)) d) k d
theorem flR_rg (q : Int) : 0 ≤ flR q ∧ flR q ≤ 5 := by unfold flR; (repeat' split) <;> omega
theorem clR_rg (q : Int) : 0 ≤ clR q ∧ clR q ≤ 5 := by unfold clR; (repeat' split) <;> omega
theorem das_rg {kd r q : Int} (h0 : 0 ≤ r) (h5 : r ≤ 5) (hq : 0 ≤ q) : -1 ≤ das kd r q ∧ das kd r q ≤ 5 := by
  have h1 := clR_rg q
  have h2 : r = 0 ∨ r = 1 ∨ r = 2 ∨ r = 3 ∨ r = 4 ∨ r = 5 := by omega
  unfold das
  rcases h2 with rfl | rfl | rfl | rfl | rfl | rfl <;> (unfold flR; (repeat' split) <;> omega)
theorem dOv_rg {dp : Nat → Int} {r dx dy : Int} (h : bd dp (-1) 5) : -1 ≤ dOv dp r dx dy ∧ dOv dp r dx dy ≤ 5 := by
  unfold dOv
  split
  · exact h _
  · omega
def loB (r x : Int) : Int := max 0 (x - r)
def hiB (n : Nat) (r x : Int) : Int := min ((n : Int) - 1) (x + r)
def nB (n : Nat) (r x : Int) : Nat := (hiB n r x + 1 - loB r x).toNat
def lfS (w : Nat) (wa dp : Nat → Int) (r x y px py g : Int) : Int := if dOv dp r (px - x) (py - y) = -1 then g else max g (wa (py * w + px).toNat - dOv dp r (px - x) (py - y))
def lfR (w : Nat) (wa dp : Nat → Int) (r x y py : Int) (n : Nat) (g : Int) : Int := itr (fun i g => lfS w wa dp r x y (loB r x + (i : Int)) py g) n g
def lfF (w h : Nat) (wa dp : Nat → Int) (r x y : Int) (n : Nat) : Int := itr (fun j g => lfR w wa dp r x y (loB r y + (j : Int)) (nB w r x) g) n 0
theorem lfS_rg {w : Nat} {wa dp : Nat → Int} {r x y px py g : Int} (hw : bd wa 0 1000) (hd : bd dp (-1) 5) (hg : 0 ≤ g ∧ g ≤ 1000) : 0 ≤ lfS w wa dp r x y px py g ∧ lfS w wa dp r x y px py g ≤ 1000 := by
  unfold lfS
  have h1 := dOv_rg (r := r) (dx := px - x) (dy := py - y) hd
  have h2 := hw (py * w + px).toNat
  split
  · exact hg
  · omega
theorem lfR_rg {w : Nat} {wa dp : Nat → Int} {r x y py g : Int} {n : Nat} (hw : bd wa 0 1000) (hd : bd dp (-1) 5) (hg : 0 ≤ g ∧ g ≤ 1000) : 0 ≤ lfR w wa dp r x y py n g ∧ lfR w wa dp r x y py n g ≤ 1000 :=
  itr_inv (P := fun g => 0 ≤ g ∧ g ≤ 1000) n hg (fun _ _ _ h => lfS_rg hw hd h)
theorem lfF_rg {w h : Nat} {wa dp : Nat → Int} {r x y : Int} {n : Nat} (hw : bd wa 0 1000) (hd : bd dp (-1) 5) : 0 ≤ lfF w h wa dp r x y n ∧ lfF w h wa dp r x y n ≤ 1000 :=
  itr_inv (P := fun g => 0 ≤ g ∧ g ≤ 1000) n (by decide) (fun _ _ _ h => lfR_rg hw hd h)
def cvS (w : Nat) (dp : Nat → Int) (r x y z px py : Int) (ma : Nat → Int) : Nat → Int := if dOv dp r (px - x) (py - y) = -1 then ma else if z + dOv dp r (px - x) (py - y) < ma (py * w + px).toNat then uI ma (py * w + px).toNat (z + dOv dp r (px - x) (py - y)) else ma
def cvR (w : Nat) (dp : Nat → Int) (r x y z py : Int) (n : Nat) (ma : Nat → Int) : Nat → Int := itr (fun i ma => cvS w dp r x y z (loB r x + (i : Int)) py ma) n ma
def cvF (w h : Nat) (dp : Nat → Int) (r x y z : Int) (n : Nat) (ma : Nat → Int) : Nat → Int := itr (fun j ma => cvR w dp r x y z (loB r y + (j : Int)) (nB w r x) ma) n ma
theorem cvS_rg {w : Nat} {dp ma : Nat → Int} {r x y z px py : Int} (hz : 0 ≤ z) (hd : bd dp (-1) 5) (hm : bd ma 0 1000) : bd (cvS w dp r x y z px py ma) 0 1000 := by
  unfold cvS
  have h1 := dOv_rg (r := r) (dx := px - x) (dy := py - y) hd
  have h2 := hm (py * w + px).toNat
  split
  · exact hm
  · split
    · exact bd_uI hm (by omega)
    · exact hm
theorem cvR_rg {w : Nat} {dp ma : Nat → Int} {r x y z py : Int} {n : Nat} (hz : 0 ≤ z) (hd : bd dp (-1) 5) (hm : bd ma 0 1000) : bd (cvR w dp r x y z py n ma) 0 1000 :=
  itr_inv (P := fun ma => bd ma 0 1000) n hm (fun _ _ _ h => cvS_rg hz hd h)
theorem cvF_rg {w h : Nat} {dp ma : Nat → Int} {r x y z : Int} {n : Nat} (hz : 0 ≤ z) (hd : bd dp (-1) 5) (hm : bd ma 0 1000) : bd (cvF w h dp r x y z n ma) 0 1000 :=
  itr_inv (P := fun ma => bd ma 0 1000) n hm (fun _ _ _ h => cvR_rg hz hd h)
/-- the moves: kept ones, how many, their way, the last one -/
abbrev TK : Type := (Nat → Int) × Int × Int × Int × Int × Int
def tkA (x y z : Int) (T : TK) : TK := (if T.2.1 < 2000 then uI T.1 T.2.1.toNat ((z * 20 + y) * 20 + x) else T.1, T.2.1 + 1, if 0 < T.2.1 then T.2.2.1 + (zab (x - T.2.2.2.1) + zab (y - T.2.2.2.2.1) + zab (z - T.2.2.2.2.2)) else T.2.2.1, x, y, z)
def tkC (T : TK) : TK := (T.1, 0, 0, T.2.2.2.1, T.2.2.2.2.1, T.2.2.2.2.2)
theorem z_sqm {a r : Int} (h0 : -r ≤ a) (h1 : a ≤ r) (h5 : r ≤ 5) : 0 ≤ a * a ∧ a * a ≤ 25 := by
  have h2 : a = -5 ∨ a = -4 ∨ a = -3 ∨ a = -2 ∨ a = -1 ∨ a = 0 ∨ a = 1 ∨ a = 2 ∨ a = 3 ∨ a = 4 ∨ a = 5 := by omega
  rcases h2 with rfl | rfl | rfl | rfl | rfl | rfl | rfl | rfl | rfl | rfl | rfl <;> decide
def mgF (u b d v : Int) : Int := if u = 1 then max b d else if u = 2 then min b d else max 0 (min 1000 (b + d - v))
theorem B_in {n i : Nat} {r x : Int} (hi : i < nB n r x) (h0 : 0 ≤ x) (h1 : x < n) (hr : 0 ≤ r) : 0 ≤ loB r x + (i : Int) ∧ loB r x + (i : Int) ≤ hiB n r x ∧ hiB n r x < n ∧ loB r x + (i : Int) ≤ x + r ∧ x - r ≤ loB r x + (i : Int) := by
  unfold nB hiB loB at *
  omega
theorem B_out {n : Nat} {r x : Int} (h0 : 0 ≤ x) (h1 : x < n) (hr : 0 ≤ r) : loB r x + ((nB n r x : Nat) : Int) = hiB n r x + 1 ∧ 0 ≤ loB r x ∧ hiB n r x < n ∧ loB r x ≤ hiB n r x := by
  unfold nB hiB loB
  omega
theorem zab_le {a b : Int} (h : -b ≤ a) (h2 : a ≤ b) : 0 ≤ zab a ∧ zab a ≤ b := by
  unfold zab
  split <;> omega
end
section
def tkW (tr kp : Nat) (ck : ClassId) (T : TK) : va_W := [(tr, oI 1 [.ref kp, .int (iI T.2.1), .long (lI T.2.2.1), .int (iI T.2.2.2.1), .int (iI T.2.2.2.2.1), .int (iI T.2.2.2.2.2)]), (kp, aI ck 2000 T.1)]
def rpW (a : Nat → Nat) (cA : Nat → ClassId) (w h : Nat) (wa ma ka li : Nat → Int) (hk sh : Int) (T : TK) (kd rd : Nat → Int) (dp : Nat → Nat → Int) : va_W := [(a 0, oI 2 [.int (iI (w : Int)), .int (iI (h : Int)), .ref (a 1), .ref (a 2), .ref (a 3), .ref (a 4), .ref (a 5), .ref (a 6), .int (iI hk), .int (iI sh)]), (a 1, aI (cA 0) (w * h) wa), (a 2, aI (cA 1) (w * h) ma), (a 3, aI (cA 2) (w * h) ka), (a 4, aI (cA 3) (w * h) li), (a 5, aQ (cA 4) 4 (fun j => a (8 + j))), (a 6, oI 1 [.ref (a 7), .int (iI T.2.1), .long (lI T.2.2.1), .int (iI T.2.2.2.1), .int (iI T.2.2.2.2.1), .int (iI T.2.2.2.2.2)]), (a 7, aI (cA 5) 2000 T.1), (a 8, oI 0 [.int (iI (kd 0)), .int (iI (rd 0)), .ref (a 12)]), (a 9, oI 0 [.int (iI (kd 1)), .int (iI (rd 1)), .ref (a 13)]), (a 10, oI 0 [.int (iI (kd 2)), .int (iI (rd 2)), .ref (a 14)]), (a 11, oI 0 [.int (iI (kd 3)), .int (iI (rd 3)), .ref (a 15)]), (a 12, aI (cA 6) 121 (dp 0)), (a 13, aI (cA 7) 121 (dp 1)), (a 14, aI (cA 8) 121 (dp 2)), (a 15, aI (cA 9) 121 (dp 3))]
def rpT (cA : Nat → ClassId) : List (ClassId × FieldType) := [(cA 0, .int), (cA 1, .int), (cA 2, .int), (cA 3, .int), (cA 4, .object "ReliefPasses$Tool"), (cA 5, .int), (cA 6, .int), (cA 7, .int), (cA 8, .int), (cA 9, .int)]
def tlW (t d : Nat) (cd : ClassId) (kd r : Int) (dp : Nat → Int) : va_W := [(t, oI 0 [.int (iI kd), .int (iI r), .ref d]), (d, aI cd 121 dp)]
theorem rpW_tool {a : Nat → Nat} {cA : Nat → ClassId} {w h : Nat} {wa ma ka li : Nat → Int} {hk sh : Int} {T : TK} {kd rd : Nat → Int} {dp : Nat → Nat → Int} {j : Nat} (hj : j < 4) : (rpW a cA w h wa ma ka li hk sh T kd rd dp)[8 + j]? = some (a (8 + j), oI 0 [.int (iI (kd j)), .int (iI (rd j)), .ref (a (12 + j))]) := match j, hj with
  | 0, _ => rfl
  | 1, _ => rfl
  | 2, _ => rfl
  | 3, _ => rfl
theorem rpW_dep {a : Nat → Nat} {cA : Nat → ClassId} {w h : Nat} {wa ma ka li : Nat → Int} {hk sh : Int} {T : TK} {kd rd : Nat → Int} {dp : Nat → Nat → Int} {j : Nat} (hj : j < 4) : (rpW a cA w h wa ma ka li hk sh T kd rd dp)[12 + j]? = some (a (12 + j), aI (cA (6 + j)) 121 (dp j)) := match j, hj with
  | 0, _ => rfl
  | 1, _ => rfl
  | 2, _ => rfl
  | 3, _ => rfl
theorem rpW_sub {a : Nat → Nat} {cA : Nat → ClassId} {w h : Nat} {wa ma ka li : Nat → Int} {hk sh : Int} {T : TK} {kd rd : Nat → Int} {dp : Nat → Nat → Int} {j : Nat} (hj : j < 4) : ∀ q ∈ tlW (a (8 + j)) (a (12 + j)) (cA (6 + j)) (kd j) (rd j) (dp j), q ∈ rpW a cA w h wa ma ka li hk sh T kd rd dp := by
  intro q hq
  rcases List.mem_cons.mp hq with rfl | hq
  · exact List.mem_of_getElem? (rpW_tool hj)
  · rcases List.mem_cons.mp hq with rfl | hq
    · exact List.mem_of_getElem? (rpW_dep hj)
    · cases hq
theorem rpW_DT {A : Nat → Prop} {a : Nat → Nat} {cA : Nat → ClassId} {w h : Nat} {wa ma ka li : Nat → Int} {hk sh : Int} {T : TK} {kd rd : Nat → Int} {dp : Nat → Nat → Int} {j : Nat} (hj : j < 4) (hD : va_D A (rpW a cA w h wa ma ka li hk sh T kd rd dp)) : va_D A (tlW (a (8 + j)) (a (12 + j)) (cA (6 + j)) (kd j) (rd j) (dp j)) := match j, hj with
  | 0, _ => hD.sub [8, 12] (by decide) rfl
  | 1, _ => hD.sub [9, 13] (by decide) rfl
  | 2, _ => hD.sub [10, 14] (by decide) rfl
  | 3, _ => hD.sub [11, 15] (by decide) rfl
theorem rpT_K {D : va_G} {cl : List vw_C} {s : State} {cA : Nat → ClassId} {j : Nat} (hj : j < 4) (hK : va_K D cl (rpT cA) s) : va_K D cl [(cA (6 + j), .int)] s := match j, hj with
  | 0, _ => hK.sub [6] rfl
  | 1, _ => hK.sub [7] rfl
  | 2, _ => hK.sub [8] rfl
  | 3, _ => hK.sub [9] rfl
end
section
abbrev r_X2_isWithin : Room := { frames := 0, cells := 0, slots := 0, locals := 0 }
set_option maxHeartbeats 4000000 in
set_option maxRecDepth 100000 in
theorem c_X2_isWithin (l : Launch) (dC : Nat → ClassId) (dI : Nat → Nat → Nat) (sz : Nat) (n a b : Int) (h1 : rg n) (h2 : rg a) (h3 : rg b) : Met l yX2_isWithin wsX2_isWithin r_X2_isWithin (zP (dC, dI) vwCl ([]) ([]) sz [.int (iI n), .int (iI a), .int (iI b)]) (zQi (dC, dI) vwCl ([]) ([]) sz (True) (isW n a b) ([])) 0 0 (va_A ([]) sz) := by
  refine Met.ofW (cc := cX2_isWithin) (maxL := 3) (ret := (some .boolean)) (by decide) rfl ?_
  intro p e s m args below meth c s₁ B hml hv
  obtain ⟨rfl, hsz, hP, hK, hD0, hZ⟩ := hv
  have hx := B.exec
  have hb := B.bytes
  have hr := B.returns
  have hts0 := atoms_spec (ws := wsX2_isWithin) B.pre
  have hts : ∀ w ∈ wsAll, w.before _ s = true := fun w h => hts0 w (List.mem_cons_of_mem _ h)
  have hown : s.vm.findClass RX2 = some m.cls := findClass_of_methodNamed B.named
  have hlocks := B.notSynchronized
  subst hsz
  have hD := hD0.self (sz := s.heap.size)
  obtain ⟨A, hAe⟩ : ∃ A, A = va_A ([]) s.heap.size := ⟨_, rfl⟩
  rw [← hAe] at hD hZ
  have hA : ∀ q : Nat, s.heap.size ≤ q → A q := fun q h => by rw [hAe]; exact Or.inr h
  have hS : va_S A s.heap s.heap [] := va_S.rf
  have hP : va_P (dC, dI) vwCl ([]) s.heap := hP
  have hl := lv_entry ([.int (iI n), .int (iI a), .int (iI b)]) (n := 3) (Nat.le_of_ble_eq_true rfl)
  rw [lg_entry_eq]
  generalize (lg_sl ([.int (iI n), .int (iI a), .int (iI b)]) ++ List.replicate (3 - (lg_sl ([.int (iI n), .int (iI a), .int (iI b)])).length) Slot.unset).toArray = ls at hl ⊢
  have hl : lv_has ls 3 [(0, .int (iI n)), (1, .int (iI a)), (2, .int (iI b))] := hl
  refine lv_iload_n hx hb dX2_isWithin_0 rfl (lv_at hl 0 rfl) ?_
  refine lv_iload_n hx hb dX2_isWithin_1 rfl (lv_at hl 1 rfl) ?_
  refine z_icmp_lt (tgt := 14) hx hb dX2_isWithin_2 (by decide) (by omega) (by omega) (fun c2 => ?_) (fun c2 => ?_)
  · refine lv_iconst (v := iI 0) hx hb dX2_isWithin_14 rfl ?_
    subst hAe
    refine z_top (b := isW n a b) (by unfold isW; split <;> omega) ?_
    exact z_zret hx hb hr hlocks (isW_01 _ _ _) hP hK hD hS (trivial) dX2_isWithin_15
  · refine lv_iload_n hx hb dX2_isWithin_5 rfl (lv_at hl 0 rfl) ?_
    refine lv_iload_n hx hb dX2_isWithin_6 rfl (lv_at hl 2 rfl) ?_
    refine z_icmp_gt (tgt := 14) hx hb dX2_isWithin_7 (by decide) (by omega) (by omega) (fun c7 => ?_) (fun c7 => ?_)
    · refine lv_iconst (v := iI 0) hx hb dX2_isWithin_14 rfl ?_
      subst hAe
      refine z_top (b := isW n a b) (by unfold isW; split <;> omega) ?_
      exact z_zret hx hb hr hlocks (isW_01 _ _ _) hP hK hD hS (trivial) dX2_isWithin_15
    · refine lv_iconst (v := iI 1) hx hb dX2_isWithin_10 rfl ?_
      refine lv_goto (tgt := 15) hx hb dX2_isWithin_11 (by decide) ?_
      subst hAe
      refine z_top (b := isW n a b) (by unfold isW; split <;> omega) ?_
      exact z_zret hx hb hr hlocks (isW_01 _ _ _) hP hK hD hS (trivial) dX2_isWithin_15
abbrev r_X2_nearest : Room := { frames := 1, cells := 0, slots := 0, locals := 24 }
set_option maxHeartbeats 4000000 in
set_option maxRecDepth 100000 in
theorem c_X2_nearest (l : Launch) (dC : Nat → ClassId) (dI : Nat → Nat → Nat) (sz : Nat) (n a b : Int) (h1 : rg n) (h2 : rg a) (h3 : rg b) : Met l yX2_nearest wsX2_nearest r_X2_nearest (zP (dC, dI) vwCl ([]) ([]) sz [.int (iI n), .int (iI a), .int (iI b)]) (zQi (dC, dI) vwCl ([]) ([]) sz (True) (max a (min b n)) ([])) 0 0 (va_A ([]) sz) := by
  refine Met.ofW (cc := cX2_nearest) (maxL := 3) (ret := (some .int)) (by decide) rfl ?_
  intro p e s m args below meth c s₁ B hml hv
  obtain ⟨rfl, hsz, hP, hK, hD0, hZ⟩ := hv
  have hx := B.exec
  have hb := B.bytes
  have hr := B.returns
  have hts0 := atoms_spec (ws := wsX2_nearest) B.pre
  have hts : ∀ w ∈ wsAll, w.before _ s = true := fun w h => hts0 w (List.mem_cons_of_mem _ h)
  have hown : s.vm.findClass RX2 = some m.cls := findClass_of_methodNamed B.named
  have hlocks := B.notSynchronized
  subst hsz
  have hD := hD0.self (sz := s.heap.size)
  obtain ⟨A, hAe⟩ : ∃ A, A = va_A ([]) s.heap.size := ⟨_, rfl⟩
  rw [← hAe] at hD hZ
  have hA : ∀ q : Nat, s.heap.size ≤ q → A q := fun q h => by rw [hAe]; exact Or.inr h
  have hS : va_S A s.heap s.heap [] := va_S.rf
  have hP : va_P (dC, dI) vwCl ([]) s.heap := hP
  have hl := lv_entry ([.int (iI n), .int (iI a), .int (iI b)]) (n := 3) (Nat.le_of_ble_eq_true rfl)
  rw [lg_entry_eq]
  generalize (lg_sl ([.int (iI n), .int (iI a), .int (iI b)]) ++ List.replicate (3 - (lg_sl ([.int (iI n), .int (iI a), .int (iI b)])).length) Slot.unset).toArray = ls at hl ⊢
  have hl : lv_has ls 3 [(0, .int (iI n)), (1, .int (iI a)), (2, .int (iI b))] := hl
  refine lv_iload_n hx hb dX2_nearest_0 rfl (lv_at hl 1 rfl) ?_
  refine lv_iload_n hx hb dX2_nearest_1 rfl (lv_at hl 2 rfl) ?_
  refine lv_iload_n hx hb dX2_nearest_2 rfl (lv_at hl 0 rfl) ?_
  refine z_min hx hb (hml.trans hl.1.symm) hown (hts _ wm_124) (hts _ wm_125) (hts _ wm_110) (hts _ wm_126) (Nat.le_of_ble_eq_true rfl) (Nat.le_of_ble_eq_true rfl) (Nat.le_of_ble_eq_true rfl) (Nat.le_of_ble_eq_true rfl) dX2_nearest_3 (by omega) (by omega) ?_
  refine z_max hx hb (hml.trans hl.1.symm) hown (hts _ wm_127) (hts _ wm_128) (hts _ wm_110) (hts _ wm_129) (Nat.le_of_ble_eq_true rfl) (Nat.le_of_ble_eq_true rfl) (Nat.le_of_ble_eq_true rfl) (Nat.le_of_ble_eq_true rfl) dX2_nearest_6 (by omega) (by omega) ?_
  subst hAe
  exact z_iret hx hb hr hlocks hP hK hD hS (trivial) dX2_nearest_9
abbrev r_X0_cellOf : Room := { frames := 0, cells := 0, slots := 0, locals := 0 }
set_option maxHeartbeats 4000000 in
set_option maxRecDepth 100000 in
theorem c_X0_cellOf (l : Launch) (dC : Nat → ClassId) (dI : Nat → Nat → Nat) (sz : Nat) (x y : Int) : Met l yX0_cellOf wsX0_cellOf r_X0_cellOf (zP (dC, dI) vwCl ([]) ([]) sz [.int (iI x), .int (iI y)]) (zQi (dC, dI) vwCl ([]) ([]) sz (True) ((y + 5) * 11 + x + 5) ([])) 0 0 (va_A ([]) sz) := by
  refine Met.ofW (cc := cX0_cellOf) (maxL := 2) (ret := (some .int)) (by decide) rfl ?_
  intro p e s m args below meth c s₁ B hml hv
  obtain ⟨rfl, hsz, hP, hK, hD0, hZ⟩ := hv
  have hx := B.exec
  have hb := B.bytes
  have hr := B.returns
  have hts0 := atoms_spec (ws := wsX0_cellOf) B.pre
  have hts : ∀ w ∈ wsAll, w.before _ s = true := fun w h => hts0 w (List.mem_cons_of_mem _ h)
  have hown : s.vm.findClass RX0 = some m.cls := findClass_of_methodNamed B.named
  have hlocks := B.notSynchronized
  subst hsz
  have hD := hD0.self (sz := s.heap.size)
  obtain ⟨A, hAe⟩ : ∃ A, A = va_A ([]) s.heap.size := ⟨_, rfl⟩
  rw [← hAe] at hD hZ
  have hA : ∀ q : Nat, s.heap.size ≤ q → A q := fun q h => by rw [hAe]; exact Or.inr h
  have hS : va_S A s.heap s.heap [] := va_S.rf
  have hP : va_P (dC, dI) vwCl ([]) s.heap := hP
  have hl := lv_entry ([.int (iI x), .int (iI y)]) (n := 2) (Nat.le_of_ble_eq_true rfl)
  rw [lg_entry_eq]
  generalize (lg_sl ([.int (iI x), .int (iI y)]) ++ List.replicate (2 - (lg_sl ([.int (iI x), .int (iI y)])).length) Slot.unset).toArray = ls at hl ⊢
  have hl : lv_has ls 2 [(0, .int (iI x)), (1, .int (iI y))] := hl
  refine lv_iload_n hx hb dX0_cellOf_0 rfl (lv_at hl 1 rfl) ?_
  refine lv_iconst (v := iI 5) hx hb dX0_cellOf_1 rfl ?_
  refine z_add hx hb dX0_cellOf_2 ?_
  refine lv_bipush (v := iI 11) hx hb dX0_cellOf_3 (by decide) ?_
  refine z_mul hx hb dX0_cellOf_5 ?_
  refine lv_iload_n hx hb dX0_cellOf_6 rfl (lv_at hl 0 rfl) ?_
  refine z_add hx hb dX0_cellOf_7 ?_
  refine lv_iconst (v := iI 5) hx hb dX0_cellOf_8 rfl ?_
  refine z_add hx hb dX0_cellOf_9 ?_
  subst hAe
  refine z_top (b := (y + 5) * 11 + x + 5) (by omega) ?_
  exact z_iret hx hb hr hlocks hP hK hD hS (trivial) dX0_cellOf_10
end
section
abbrev r_X0_floorRoot : Room := { frames := 0, cells := 0, slots := 0, locals := 0 }
set_option maxHeartbeats 4000000 in
set_option maxRecDepth 100000 in
theorem c_X0_floorRoot (l : Launch) (dC : Nat → ClassId) (dI : Nat → Nat → Nat) (sz : Nat) (q : Int) (h1 : rg q) : Met l yX0_floorRoot wsX0_floorRoot r_X0_floorRoot (zP (dC, dI) vwCl ([]) ([]) sz [.int (iI q)]) (zQi (dC, dI) vwCl ([]) ([]) sz (True) (flR q) ([])) 0 0 (va_A ([]) sz) := by
  refine Met.ofW (cc := cX0_floorRoot) (maxL := 2) (ret := (some .int)) (by decide) rfl ?_
  intro p e s m args below meth c s₁ B hml hv
  obtain ⟨rfl, hsz, hP, hK, hD0, hZ⟩ := hv
  have hx := B.exec
  have hb := B.bytes
  have hr := B.returns
  have hts0 := atoms_spec (ws := wsX0_floorRoot) B.pre
  have hts : ∀ w ∈ wsAll, w.before _ s = true := fun w h => hts0 w (List.mem_cons_of_mem _ h)
  have hown : s.vm.findClass RX0 = some m.cls := findClass_of_methodNamed B.named
  have hlocks := B.notSynchronized
  subst hsz
  have hD := hD0.self (sz := s.heap.size)
  obtain ⟨A, hAe⟩ : ∃ A, A = va_A ([]) s.heap.size := ⟨_, rfl⟩
  rw [← hAe] at hD hZ
  have hA : ∀ q : Nat, s.heap.size ≤ q → A q := fun q h => by rw [hAe]; exact Or.inr h
  have hS : va_S A s.heap s.heap [] := va_S.rf
  have hP : va_P (dC, dI) vwCl ([]) s.heap := hP
  have hl := lv_entry ([.int (iI q)]) (n := 2) (Nat.le_of_ble_eq_true rfl)
  rw [lg_entry_eq]
  generalize (lg_sl ([.int (iI q)]) ++ List.replicate (2 - (lg_sl ([.int (iI q)])).length) Slot.unset).toArray = ls at hl ⊢
  have hl : lv_has ls 2 [(0, .int (iI q))] := hl
  refine lv_iconst (v := iI 0) hx hb dX0_floorRoot_0 rfl ?_
  refine lv_istore_n (lv' := [(1, .int (iI 0)), (0, .int (iI q))]) hx hb dX0_floorRoot_1 rfl hl (by decide) rfl (fun ls hl => ?_)
  refine lv_iload_n hx hb dX0_floorRoot_2 rfl (lv_at hl 0 rfl) ?_
  refine lv_iconst (v := iI 5) hx hb dX0_floorRoot_3 rfl ?_
  refine z_icmp_ge (tgt := 24) hx hb dX0_floorRoot_4 (by decide) (by omega) (by omega) (fun c4 => by exfalso; omega) (fun c4 => ?_)
  refine lv_iload_n hx hb dX0_floorRoot_7 rfl (lv_at hl 0 rfl) ?_
  refine lv_iconst (v := iI 1) hx hb dX0_floorRoot_8 rfl ?_
  refine z_add hx hb dX0_floorRoot_9 ?_
  refine lv_iload_n hx hb dX0_floorRoot_10 rfl (lv_at hl 0 rfl) ?_
  refine lv_iconst (v := iI 1) hx hb dX0_floorRoot_11 rfl ?_
  refine z_add hx hb dX0_floorRoot_12 ?_
  refine z_mul hx hb dX0_floorRoot_13 ?_
  refine lv_iload_n hx hb dX0_floorRoot_14 rfl (lv_at hl 1 rfl) ?_
  refine z_icmp_gt (tgt := 24) hx hb dX0_floorRoot_15 (by decide) (by omega) (by omega) (fun c15 => ?_) (fun c15 => ?_)
  · refine lv_iload_n hx hb dX0_floorRoot_24 rfl (lv_at hl 0 rfl) ?_
    subst hAe
    refine z_top (b := flR q) (by unfold flR; (repeat' split) <;> omega) ?_
    exact z_iret hx hb hr hlocks hP hK hD hS (trivial) dX0_floorRoot_25
  · refine lv_iinc (v := iI 1) (lv' := [(1, .int (iI 1)), (0, .int (iI q))]) hx hb dX0_floorRoot_18 hl (k := 0) rfl ((iI_add _ _).trans (congrArg iI (by omega))) (by decide) rfl (fun ls hl => ?_)
    refine lv_goto (tgt := 2) hx hb dX0_floorRoot_21 (by decide) ?_
    refine lv_iload_n hx hb dX0_floorRoot_2 rfl (lv_at hl 0 rfl) ?_
    refine lv_iconst (v := iI 5) hx hb dX0_floorRoot_3 rfl ?_
    refine z_icmp_ge (tgt := 24) hx hb dX0_floorRoot_4 (by decide) (by omega) (by omega) (fun c4 => by exfalso; omega) (fun c4 => ?_)
    refine lv_iload_n hx hb dX0_floorRoot_7 rfl (lv_at hl 0 rfl) ?_
    refine lv_iconst (v := iI 1) hx hb dX0_floorRoot_8 rfl ?_
    refine z_add hx hb dX0_floorRoot_9 ?_
    refine lv_iload_n hx hb dX0_floorRoot_10 rfl (lv_at hl 0 rfl) ?_
    refine lv_iconst (v := iI 1) hx hb dX0_floorRoot_11 rfl ?_
    refine z_add hx hb dX0_floorRoot_12 ?_
    refine z_mul hx hb dX0_floorRoot_13 ?_
    refine lv_iload_n hx hb dX0_floorRoot_14 rfl (lv_at hl 1 rfl) ?_
    refine z_icmp_gt (tgt := 24) hx hb dX0_floorRoot_15 (by decide) (by omega) (by omega) (fun c15 => ?_) (fun c15 => ?_)
    · refine lv_iload_n hx hb dX0_floorRoot_24 rfl (lv_at hl 0 rfl) ?_
      subst hAe
      refine z_top (b := flR q) (by unfold flR; (repeat' split) <;> omega) ?_
      exact z_iret hx hb hr hlocks hP hK hD hS (trivial) dX0_floorRoot_25
    · refine lv_iinc (v := iI 2) (lv' := [(1, .int (iI 2)), (0, .int (iI q))]) hx hb dX0_floorRoot_18 hl (k := 0) rfl ((iI_add _ _).trans (congrArg iI (by omega))) (by decide) rfl (fun ls hl => ?_)
      refine lv_goto (tgt := 2) hx hb dX0_floorRoot_21 (by decide) ?_
      refine lv_iload_n hx hb dX0_floorRoot_2 rfl (lv_at hl 0 rfl) ?_
      refine lv_iconst (v := iI 5) hx hb dX0_floorRoot_3 rfl ?_
      refine z_icmp_ge (tgt := 24) hx hb dX0_floorRoot_4 (by decide) (by omega) (by omega) (fun c4 => by exfalso; omega) (fun c4 => ?_)
      refine lv_iload_n hx hb dX0_floorRoot_7 rfl (lv_at hl 0 rfl) ?_
      refine lv_iconst (v := iI 1) hx hb dX0_floorRoot_8 rfl ?_
      refine z_add hx hb dX0_floorRoot_9 ?_
      refine lv_iload_n hx hb dX0_floorRoot_10 rfl (lv_at hl 0 rfl) ?_
      refine lv_iconst (v := iI 1) hx hb dX0_floorRoot_11 rfl ?_
      refine z_add hx hb dX0_floorRoot_12 ?_
      refine z_mul hx hb dX0_floorRoot_13 ?_
      refine lv_iload_n hx hb dX0_floorRoot_14 rfl (lv_at hl 1 rfl) ?_
      refine z_icmp_gt (tgt := 24) hx hb dX0_floorRoot_15 (by decide) (by omega) (by omega) (fun c15 => ?_) (fun c15 => ?_)
      · refine lv_iload_n hx hb dX0_floorRoot_24 rfl (lv_at hl 0 rfl) ?_
        subst hAe
        refine z_top (b := flR q) (by unfold flR; (repeat' split) <;> omega) ?_
        exact z_iret hx hb hr hlocks hP hK hD hS (trivial) dX0_floorRoot_25
      · refine lv_iinc (v := iI 3) (lv' := [(1, .int (iI 3)), (0, .int (iI q))]) hx hb dX0_floorRoot_18 hl (k := 0) rfl ((iI_add _ _).trans (congrArg iI (by omega))) (by decide) rfl (fun ls hl => ?_)
        refine lv_goto (tgt := 2) hx hb dX0_floorRoot_21 (by decide) ?_
        refine lv_iload_n hx hb dX0_floorRoot_2 rfl (lv_at hl 0 rfl) ?_
        refine lv_iconst (v := iI 5) hx hb dX0_floorRoot_3 rfl ?_
        refine z_icmp_ge (tgt := 24) hx hb dX0_floorRoot_4 (by decide) (by omega) (by omega) (fun c4 => by exfalso; omega) (fun c4 => ?_)
        refine lv_iload_n hx hb dX0_floorRoot_7 rfl (lv_at hl 0 rfl) ?_
        refine lv_iconst (v := iI 1) hx hb dX0_floorRoot_8 rfl ?_
        refine z_add hx hb dX0_floorRoot_9 ?_
        refine lv_iload_n hx hb dX0_floorRoot_10 rfl (lv_at hl 0 rfl) ?_
        refine lv_iconst (v := iI 1) hx hb dX0_floorRoot_11 rfl ?_
        refine z_add hx hb dX0_floorRoot_12 ?_
        refine z_mul hx hb dX0_floorRoot_13 ?_
        refine lv_iload_n hx hb dX0_floorRoot_14 rfl (lv_at hl 1 rfl) ?_
        refine z_icmp_gt (tgt := 24) hx hb dX0_floorRoot_15 (by decide) (by omega) (by omega) (fun c15 => ?_) (fun c15 => ?_)
        · refine lv_iload_n hx hb dX0_floorRoot_24 rfl (lv_at hl 0 rfl) ?_
          subst hAe
          refine z_top (b := flR q) (by unfold flR; (repeat' split) <;> omega) ?_
          exact z_iret hx hb hr hlocks hP hK hD hS (trivial) dX0_floorRoot_25
        · refine lv_iinc (v := iI 4) (lv' := [(1, .int (iI 4)), (0, .int (iI q))]) hx hb dX0_floorRoot_18 hl (k := 0) rfl ((iI_add _ _).trans (congrArg iI (by omega))) (by decide) rfl (fun ls hl => ?_)
          refine lv_goto (tgt := 2) hx hb dX0_floorRoot_21 (by decide) ?_
          refine lv_iload_n hx hb dX0_floorRoot_2 rfl (lv_at hl 0 rfl) ?_
          refine lv_iconst (v := iI 5) hx hb dX0_floorRoot_3 rfl ?_
          refine z_icmp_ge (tgt := 24) hx hb dX0_floorRoot_4 (by decide) (by omega) (by omega) (fun c4 => by exfalso; omega) (fun c4 => ?_)
          refine lv_iload_n hx hb dX0_floorRoot_7 rfl (lv_at hl 0 rfl) ?_
          refine lv_iconst (v := iI 1) hx hb dX0_floorRoot_8 rfl ?_
          refine z_add hx hb dX0_floorRoot_9 ?_
          refine lv_iload_n hx hb dX0_floorRoot_10 rfl (lv_at hl 0 rfl) ?_
          refine lv_iconst (v := iI 1) hx hb dX0_floorRoot_11 rfl ?_
          refine z_add hx hb dX0_floorRoot_12 ?_
          refine z_mul hx hb dX0_floorRoot_13 ?_
          refine lv_iload_n hx hb dX0_floorRoot_14 rfl (lv_at hl 1 rfl) ?_
          refine z_icmp_gt (tgt := 24) hx hb dX0_floorRoot_15 (by decide) (by omega) (by omega) (fun c15 => ?_) (fun c15 => ?_)
          · refine lv_iload_n hx hb dX0_floorRoot_24 rfl (lv_at hl 0 rfl) ?_
            subst hAe
            refine z_top (b := flR q) (by unfold flR; (repeat' split) <;> omega) ?_
            exact z_iret hx hb hr hlocks hP hK hD hS (trivial) dX0_floorRoot_25
          · refine lv_iinc (v := iI 5) (lv' := [(1, .int (iI 5)), (0, .int (iI q))]) hx hb dX0_floorRoot_18 hl (k := 0) rfl ((iI_add _ _).trans (congrArg iI (by omega))) (by decide) rfl (fun ls hl => ?_)
            refine lv_goto (tgt := 2) hx hb dX0_floorRoot_21 (by decide) ?_
            refine lv_iload_n hx hb dX0_floorRoot_2 rfl (lv_at hl 0 rfl) ?_
            refine lv_iconst (v := iI 5) hx hb dX0_floorRoot_3 rfl ?_
            refine z_icmp_ge (tgt := 24) hx hb dX0_floorRoot_4 (by decide) (by omega) (by omega) (fun c4 => ?_) (fun c4 => by exfalso; omega)
            refine lv_iload_n hx hb dX0_floorRoot_24 rfl (lv_at hl 0 rfl) ?_
            subst hAe
            refine z_top (b := flR q) (by unfold flR; (repeat' split) <;> omega) ?_
            exact z_iret hx hb hr hlocks hP hK hD hS (trivial) dX0_floorRoot_25
abbrev r_X0_ceilRoot : Room := { frames := 0, cells := 0, slots := 0, locals := 0 }
set_option maxHeartbeats 4000000 in
set_option maxRecDepth 100000 in
theorem c_X0_ceilRoot (l : Launch) (dC : Nat → ClassId) (dI : Nat → Nat → Nat) (sz : Nat) (q : Int) (h1 : rg q) : Met l yX0_ceilRoot wsX0_ceilRoot r_X0_ceilRoot (zP (dC, dI) vwCl ([]) ([]) sz [.int (iI q)]) (zQi (dC, dI) vwCl ([]) ([]) sz (True) (clR q) ([])) 0 0 (va_A ([]) sz) := by
  refine Met.ofW (cc := cX0_ceilRoot) (maxL := 2) (ret := (some .int)) (by decide) rfl ?_
  intro p e s m args below meth c s₁ B hml hv
  obtain ⟨rfl, hsz, hP, hK, hD0, hZ⟩ := hv
  have hx := B.exec
  have hb := B.bytes
  have hr := B.returns
  have hts0 := atoms_spec (ws := wsX0_ceilRoot) B.pre
  have hts : ∀ w ∈ wsAll, w.before _ s = true := fun w h => hts0 w (List.mem_cons_of_mem _ h)
  have hown : s.vm.findClass RX0 = some m.cls := findClass_of_methodNamed B.named
  have hlocks := B.notSynchronized
  subst hsz
  have hD := hD0.self (sz := s.heap.size)
  obtain ⟨A, hAe⟩ : ∃ A, A = va_A ([]) s.heap.size := ⟨_, rfl⟩
  rw [← hAe] at hD hZ
  have hA : ∀ q : Nat, s.heap.size ≤ q → A q := fun q h => by rw [hAe]; exact Or.inr h
  have hS : va_S A s.heap s.heap [] := va_S.rf
  have hP : va_P (dC, dI) vwCl ([]) s.heap := hP
  have hl := lv_entry ([.int (iI q)]) (n := 2) (Nat.le_of_ble_eq_true rfl)
  rw [lg_entry_eq]
  generalize (lg_sl ([.int (iI q)]) ++ List.replicate (2 - (lg_sl ([.int (iI q)])).length) Slot.unset).toArray = ls at hl ⊢
  have hl : lv_has ls 2 [(0, .int (iI q))] := hl
  refine lv_iconst (v := iI 0) hx hb dX0_ceilRoot_0 rfl ?_
  refine lv_istore_n (lv' := [(1, .int (iI 0)), (0, .int (iI q))]) hx hb dX0_ceilRoot_1 rfl hl (by decide) rfl (fun ls hl => ?_)
  refine lv_iload_n hx hb dX0_ceilRoot_2 rfl (lv_at hl 0 rfl) ?_
  refine lv_iconst (v := iI 5) hx hb dX0_ceilRoot_3 rfl ?_
  refine z_icmp_ge (tgt := 20) hx hb dX0_ceilRoot_4 (by decide) (by omega) (by omega) (fun c4 => by exfalso; omega) (fun c4 => ?_)
  refine lv_iload_n hx hb dX0_ceilRoot_7 rfl (lv_at hl 0 rfl) ?_
  refine lv_iload_n hx hb dX0_ceilRoot_8 rfl (lv_at hl 0 rfl) ?_
  refine z_mul hx hb dX0_ceilRoot_9 ?_
  refine lv_iload_n hx hb dX0_ceilRoot_10 rfl (lv_at hl 1 rfl) ?_
  refine z_icmp_ge (tgt := 20) hx hb dX0_ceilRoot_11 (by decide) (by omega) (by omega) (fun c11 => ?_) (fun c11 => ?_)
  · refine lv_iload_n hx hb dX0_ceilRoot_20 rfl (lv_at hl 0 rfl) ?_
    subst hAe
    refine z_top (b := clR q) (by unfold clR; (repeat' split) <;> omega) ?_
    exact z_iret hx hb hr hlocks hP hK hD hS (trivial) dX0_ceilRoot_21
  · refine lv_iinc (v := iI 1) (lv' := [(1, .int (iI 1)), (0, .int (iI q))]) hx hb dX0_ceilRoot_14 hl (k := 0) rfl ((iI_add _ _).trans (congrArg iI (by omega))) (by decide) rfl (fun ls hl => ?_)
    refine lv_goto (tgt := 2) hx hb dX0_ceilRoot_17 (by decide) ?_
    refine lv_iload_n hx hb dX0_ceilRoot_2 rfl (lv_at hl 0 rfl) ?_
    refine lv_iconst (v := iI 5) hx hb dX0_ceilRoot_3 rfl ?_
    refine z_icmp_ge (tgt := 20) hx hb dX0_ceilRoot_4 (by decide) (by omega) (by omega) (fun c4 => by exfalso; omega) (fun c4 => ?_)
    refine lv_iload_n hx hb dX0_ceilRoot_7 rfl (lv_at hl 0 rfl) ?_
    refine lv_iload_n hx hb dX0_ceilRoot_8 rfl (lv_at hl 0 rfl) ?_
    refine z_mul hx hb dX0_ceilRoot_9 ?_
    refine lv_iload_n hx hb dX0_ceilRoot_10 rfl (lv_at hl 1 rfl) ?_
    refine z_icmp_ge (tgt := 20) hx hb dX0_ceilRoot_11 (by decide) (by omega) (by omega) (fun c11 => ?_) (fun c11 => ?_)
    · refine lv_iload_n hx hb dX0_ceilRoot_20 rfl (lv_at hl 0 rfl) ?_
      subst hAe
      refine z_top (b := clR q) (by unfold clR; (repeat' split) <;> omega) ?_
      exact z_iret hx hb hr hlocks hP hK hD hS (trivial) dX0_ceilRoot_21
    · refine lv_iinc (v := iI 2) (lv' := [(1, .int (iI 2)), (0, .int (iI q))]) hx hb dX0_ceilRoot_14 hl (k := 0) rfl ((iI_add _ _).trans (congrArg iI (by omega))) (by decide) rfl (fun ls hl => ?_)
      refine lv_goto (tgt := 2) hx hb dX0_ceilRoot_17 (by decide) ?_
      refine lv_iload_n hx hb dX0_ceilRoot_2 rfl (lv_at hl 0 rfl) ?_
      refine lv_iconst (v := iI 5) hx hb dX0_ceilRoot_3 rfl ?_
      refine z_icmp_ge (tgt := 20) hx hb dX0_ceilRoot_4 (by decide) (by omega) (by omega) (fun c4 => by exfalso; omega) (fun c4 => ?_)
      refine lv_iload_n hx hb dX0_ceilRoot_7 rfl (lv_at hl 0 rfl) ?_
      refine lv_iload_n hx hb dX0_ceilRoot_8 rfl (lv_at hl 0 rfl) ?_
      refine z_mul hx hb dX0_ceilRoot_9 ?_
      refine lv_iload_n hx hb dX0_ceilRoot_10 rfl (lv_at hl 1 rfl) ?_
      refine z_icmp_ge (tgt := 20) hx hb dX0_ceilRoot_11 (by decide) (by omega) (by omega) (fun c11 => ?_) (fun c11 => ?_)
      · refine lv_iload_n hx hb dX0_ceilRoot_20 rfl (lv_at hl 0 rfl) ?_
        subst hAe
        refine z_top (b := clR q) (by unfold clR; (repeat' split) <;> omega) ?_
        exact z_iret hx hb hr hlocks hP hK hD hS (trivial) dX0_ceilRoot_21
      · refine lv_iinc (v := iI 3) (lv' := [(1, .int (iI 3)), (0, .int (iI q))]) hx hb dX0_ceilRoot_14 hl (k := 0) rfl ((iI_add _ _).trans (congrArg iI (by omega))) (by decide) rfl (fun ls hl => ?_)
        refine lv_goto (tgt := 2) hx hb dX0_ceilRoot_17 (by decide) ?_
        refine lv_iload_n hx hb dX0_ceilRoot_2 rfl (lv_at hl 0 rfl) ?_
        refine lv_iconst (v := iI 5) hx hb dX0_ceilRoot_3 rfl ?_
        refine z_icmp_ge (tgt := 20) hx hb dX0_ceilRoot_4 (by decide) (by omega) (by omega) (fun c4 => by exfalso; omega) (fun c4 => ?_)
        refine lv_iload_n hx hb dX0_ceilRoot_7 rfl (lv_at hl 0 rfl) ?_
        refine lv_iload_n hx hb dX0_ceilRoot_8 rfl (lv_at hl 0 rfl) ?_
        refine z_mul hx hb dX0_ceilRoot_9 ?_
        refine lv_iload_n hx hb dX0_ceilRoot_10 rfl (lv_at hl 1 rfl) ?_
        refine z_icmp_ge (tgt := 20) hx hb dX0_ceilRoot_11 (by decide) (by omega) (by omega) (fun c11 => ?_) (fun c11 => ?_)
        · refine lv_iload_n hx hb dX0_ceilRoot_20 rfl (lv_at hl 0 rfl) ?_
          subst hAe
          refine z_top (b := clR q) (by unfold clR; (repeat' split) <;> omega) ?_
          exact z_iret hx hb hr hlocks hP hK hD hS (trivial) dX0_ceilRoot_21
        · refine lv_iinc (v := iI 4) (lv' := [(1, .int (iI 4)), (0, .int (iI q))]) hx hb dX0_ceilRoot_14 hl (k := 0) rfl ((iI_add _ _).trans (congrArg iI (by omega))) (by decide) rfl (fun ls hl => ?_)
          refine lv_goto (tgt := 2) hx hb dX0_ceilRoot_17 (by decide) ?_
          refine lv_iload_n hx hb dX0_ceilRoot_2 rfl (lv_at hl 0 rfl) ?_
          refine lv_iconst (v := iI 5) hx hb dX0_ceilRoot_3 rfl ?_
          refine z_icmp_ge (tgt := 20) hx hb dX0_ceilRoot_4 (by decide) (by omega) (by omega) (fun c4 => by exfalso; omega) (fun c4 => ?_)
          refine lv_iload_n hx hb dX0_ceilRoot_7 rfl (lv_at hl 0 rfl) ?_
          refine lv_iload_n hx hb dX0_ceilRoot_8 rfl (lv_at hl 0 rfl) ?_
          refine z_mul hx hb dX0_ceilRoot_9 ?_
          refine lv_iload_n hx hb dX0_ceilRoot_10 rfl (lv_at hl 1 rfl) ?_
          refine z_icmp_ge (tgt := 20) hx hb dX0_ceilRoot_11 (by decide) (by omega) (by omega) (fun c11 => ?_) (fun c11 => ?_)
          · refine lv_iload_n hx hb dX0_ceilRoot_20 rfl (lv_at hl 0 rfl) ?_
            subst hAe
            refine z_top (b := clR q) (by unfold clR; (repeat' split) <;> omega) ?_
            exact z_iret hx hb hr hlocks hP hK hD hS (trivial) dX0_ceilRoot_21
          · refine lv_iinc (v := iI 5) (lv' := [(1, .int (iI 5)), (0, .int (iI q))]) hx hb dX0_ceilRoot_14 hl (k := 0) rfl ((iI_add _ _).trans (congrArg iI (by omega))) (by decide) rfl (fun ls hl => ?_)
            refine lv_goto (tgt := 2) hx hb dX0_ceilRoot_17 (by decide) ?_
            refine lv_iload_n hx hb dX0_ceilRoot_2 rfl (lv_at hl 0 rfl) ?_
            refine lv_iconst (v := iI 5) hx hb dX0_ceilRoot_3 rfl ?_
            refine z_icmp_ge (tgt := 20) hx hb dX0_ceilRoot_4 (by decide) (by omega) (by omega) (fun c4 => ?_) (fun c4 => by exfalso; omega)
            refine lv_iload_n hx hb dX0_ceilRoot_20 rfl (lv_at hl 0 rfl) ?_
            subst hAe
            refine z_top (b := clR q) (by unfold clR; (repeat' split) <;> omega) ?_
            exact z_iret hx hb hr hlocks hP hK hD hS (trivial) dX0_ceilRoot_21
theorem g_X0_34 : GoodIn wsAll (va_wsS RX0 34 yX0_floorRoot wsX0_floorRoot) := z_good (show ∀ w ∈ (Cond.methodLink RX0 34 yX0_floorRoot :: Cond.static yX0_floorRoot :: Cond.initialized RX0 :: Cond.code yX0_floorRoot prog_2_method_6_code 2 (some .int) :: wsAll), w ∈ wsAll from List.forall_mem_cons.mpr ⟨wm_266, List.forall_mem_cons.mpr ⟨wm_267, List.forall_mem_cons.mpr ⟨wm_111, List.forall_mem_cons.mpr ⟨wm_268, fun _ h => h⟩⟩⟩⟩)
theorem g_X0_37 : GoodIn wsAll (va_wsS RX0 37 yX0_ceilRoot wsX0_ceilRoot) := z_good (show ∀ w ∈ (Cond.methodLink RX0 37 yX0_ceilRoot :: Cond.static yX0_ceilRoot :: Cond.initialized RX0 :: Cond.code yX0_ceilRoot prog_2_method_7_code 2 (some .int) :: wsAll), w ∈ wsAll from List.forall_mem_cons.mpr ⟨wm_269, List.forall_mem_cons.mpr ⟨wm_270, List.forall_mem_cons.mpr ⟨wm_111, List.forall_mem_cons.mpr ⟨wm_271, fun _ h => h⟩⟩⟩⟩)
abbrev r_X0_depthAtSquare : Room := { frames := 1, cells := 0, slots := 0, locals := 21 }
set_option maxHeartbeats 4000000 in
set_option maxRecDepth 100000 in
theorem c_X0_depthAtSquare (l : Launch) (dC : Nat → ClassId) (dI : Nat → Nat → Nat) (sz : Nat) (t d : Nat) (cd : ClassId) (kd r : Int) (dp : Nat → Int) (q : Int) (h1 : rg kd) (h2 : 0 ≤ r ∧ r ≤ 5) (h3 : 0 ≤ q ∧ q ≤ 50) : Met l yX0_depthAtSquare wsX0_depthAtSquare r_X0_depthAtSquare (zP (dC, dI) vwCl ([(cd, .int)]) ([(t, oI 0 [.int (iI kd), .int (iI r), .ref d]), (d, aI cd 121 dp)]) sz [.ref t, .int (iI q)]) (zQi (dC, dI) vwCl ([(cd, .int)]) ([(t, oI 0 [.int (iI kd), .int (iI r), .ref d]), (d, aI cd 121 dp)]) sz (True) (das kd r q) ([(t, oI 0 [.int (iI kd), .int (iI r), .ref d]), (d, aI cd 121 dp)])) 0 0 (va_A ([(t, oI 0 [.int (iI kd), .int (iI r), .ref d]), (d, aI cd 121 dp)]) sz) := by
  refine Met.ofW (cc := cX0_depthAtSquare) (maxL := 3) (ret := (some .int)) (by decide) rfl ?_
  intro p e s m args below meth c s₁ B hml hv
  obtain ⟨rfl, hsz, hP, hK, hD0, hZ⟩ := hv
  have hx := B.exec
  have hb := B.bytes
  have hr := B.returns
  have hts0 := atoms_spec (ws := wsX0_depthAtSquare) B.pre
  have hts : ∀ w ∈ wsAll, w.before _ s = true := fun w h => hts0 w (List.mem_cons_of_mem _ h)
  have hown : s.vm.findClass RX0 = some m.cls := findClass_of_methodNamed B.named
  have hlocks := B.notSynchronized
  subst hsz
  have hD := hD0.self (sz := s.heap.size)
  obtain ⟨A, hAe⟩ : ∃ A, A = va_A ([(t, oI 0 [.int (iI kd), .int (iI r), .ref d]), (d, aI cd 121 dp)]) s.heap.size := ⟨_, rfl⟩
  rw [← hAe] at hD hZ
  have hA : ∀ q : Nat, s.heap.size ≤ q → A q := fun q h => by rw [hAe]; exact Or.inr h
  have hS : va_S A s.heap s.heap [] := va_S.rf
  have hP : va_P (dC, dI) vwCl ([(t, oI 0 [.int (iI kd), .int (iI r), .ref d]), (d, aI cd 121 dp)]) s.heap := hP
  have hl := lv_entry ([.ref t, .int (iI q)]) (n := 3) (Nat.le_of_ble_eq_true rfl)
  rw [lg_entry_eq]
  generalize (lg_sl ([.ref t, .int (iI q)]) ++ List.replicate (3 - (lg_sl ([.ref t, .int (iI q)])).length) Slot.unset).toArray = ls at hl ⊢
  have hl : lv_has ls 3 [(0, .ref t), (1, .int (iI q))] := hl
  have hrr := z_sq h2.1 h2.2
  refine lv_aload_n hx hb dX0_depthAtSquare_0 rfl (lv_at hl 0 rfl) ?_
  refine va_get (D := (dC, dI)) (ci := 0) (v := .int (iI r)) (C := RX0) (T := TX0) (N := 3) hx hb hts inX0 hown hK hP 0 rfl rfl 1 (by decide) (hts _ wm_136) (fun _ h9 => h9) rfl dX0_depthAtSquare_1 ?_
  refine lv_aload_n hx hb dX0_depthAtSquare_4 rfl (lv_at hl 0 rfl) ?_
  refine va_get (D := (dC, dI)) (ci := 0) (v := .int (iI r)) (C := RX0) (T := TX0) (N := 3) hx hb hts inX0 hown hK hP 0 rfl rfl 1 (by decide) (hts _ wm_136) (fun _ h9 => h9) rfl dX0_depthAtSquare_5 ?_
  refine z_mul hx hb dX0_depthAtSquare_8 ?_
  refine lv_iload_n hx hb dX0_depthAtSquare_9 rfl (lv_at hl 1 rfl) ?_
  refine z_sub hx hb dX0_depthAtSquare_10 ?_
  refine lv_istore_n (lv' := [(2, .int (iI ((r * r) - q))), (0, .ref t), (1, .int (iI q))]) hx hb dX0_depthAtSquare_11 rfl hl (by decide) rfl (fun ls hl => ?_)
  refine lv_iload_n hx hb dX0_depthAtSquare_12 rfl (lv_at hl 0 rfl) ?_
  refine z_if_ge (tgt := 18) hx hb dX0_depthAtSquare_13 (by decide) (by omega) (fun c13 => ?_) (fun c13 => ?_)
  · refine lv_aload_n hx hb dX0_depthAtSquare_18 rfl (lv_at hl 1 rfl) ?_
    refine va_get (D := (dC, dI)) (ci := 0) (v := .int (iI kd)) (C := RX0) (T := TX0) (N := 3) hx hb hts inX0 hown hK hP 0 rfl rfl 0 (by decide) (hts _ wm_135) (fun _ h9 => h9) rfl dX0_depthAtSquare_19 ?_
    refine z_look2 (t1 := 48) (t2 := 58) (t3 := 63) hx hb dX0_depthAtSquare_22 (by decide) (by omega) (by decide) (by decide) (by decide) (fun e22 => ?_) (fun e22 => ?_) (fun e22 f22 => ?_)
    · refine lv_aload_n hx hb dX0_depthAtSquare_48 rfl (lv_at hl 1 rfl) ?_
      refine va_get (D := (dC, dI)) (ci := 0) (v := .int (iI r)) (C := RX0) (T := TX0) (N := 3) hx hb hts inX0 hown hK hP 0 rfl rfl 1 (by decide) (hts _ wm_136) (fun _ h9 => h9) rfl dX0_depthAtSquare_49 ?_
      refine lv_iload_n hx hb dX0_depthAtSquare_52 rfl (lv_at hl 0 rfl) ?_
      refine z_rcalli (va_runS (As := [.int (iI ((r * r) - q))]) (rest := [.int (iI r)]) ⟨hx, hb, hml, hown, hts⟩ (c_X0_floorRoot l dC dI (s.heap).size ((r * r) - q) (by omega)) (va_cwS 1 hts g_X0_34 rfl rfl rfl (by decide +kernel) ⟨Nat.le_of_ble_eq_true rfl, Nat.le_of_ble_eq_true rfl⟩) (zP_S z_P0 (hK.sub [] rfl) z_D0 hS (z_free0 hS hA) hZ) rfl rfl hl.1 rfl (lv_room (Nat.le_of_ble_eq_true rfl)) dX0_depthAtSquare_53 ⟨Nat.le_of_ble_eq_true rfl, Nat.le_of_ble_eq_true rfl⟩) hP hD hS (z_free0 hS hA) (fun _ h => by cases h) (fun H locs _ hP hD hS _ => ?_)
      refine z_sub hx hb dX0_depthAtSquare_56 ?_
      subst hAe
      refine z_top (b := das kd r q) (by unfold das; (repeat' split) <;> omega) ?_
      exact z_iret hx hb hr hlocks hP hK hD hS (trivial) dX0_depthAtSquare_57
    · refine lv_iload_n hx hb dX0_depthAtSquare_58 rfl (lv_at hl 2 rfl) ?_
      refine z_rcalli (va_runS (As := [.int (iI q)]) (rest := []) ⟨hx, hb, hml, hown, hts⟩ (c_X0_ceilRoot l dC dI (s.heap).size q (by omega)) (va_cwS 1 hts g_X0_37 rfl rfl rfl (by decide +kernel) ⟨Nat.le_of_ble_eq_true rfl, Nat.le_of_ble_eq_true rfl⟩) (zP_S z_P0 (hK.sub [] rfl) z_D0 hS (z_free0 hS hA) hZ) rfl rfl hl.1 rfl (lv_room (Nat.le_of_ble_eq_true rfl)) dX0_depthAtSquare_59 ⟨Nat.le_of_ble_eq_true rfl, Nat.le_of_ble_eq_true rfl⟩) hP hD hS (z_free0 hS hA) (fun _ h => by cases h) (fun H locs _ hP hD hS _ => ?_)
      subst hAe
      refine z_top (b := das kd r q) (by unfold das; (repeat' split) <;> omega) ?_
      exact z_iret hx hb hr hlocks hP hK hD hS (trivial) dX0_depthAtSquare_62
    · refine lv_iconst (v := iI 0) hx hb dX0_depthAtSquare_63 rfl ?_
      subst hAe
      refine z_top (b := das kd r q) (by unfold das; (repeat' split) <;> omega) ?_
      exact z_iret hx hb hr hlocks hP hK hD hS (trivial) dX0_depthAtSquare_64
  · refine lv_iconst (v := iI (-1)) hx hb dX0_depthAtSquare_16 rfl ?_
    subst hAe
    refine z_top (b := das kd r q) (by unfold das; (repeat' split) <;> omega) ?_
    exact z_iret hx hb hr hlocks hP hK hD hS (trivial) dX0_depthAtSquare_17
theorem g_X0_30 : GoodIn wsAll (wsX2_isWithin) := z_good (show ∀ w ∈ (Cond.code yX2_isWithin prog_1_method_21_code 3 (some .boolean) :: wsAll), w ∈ wsAll from List.forall_mem_cons.mpr ⟨wm_235, fun _ h => h⟩)
theorem g_X0_22 : GoodIn wsAll (va_wsS RX0 22 yX0_cellOf wsX0_cellOf) := z_good (show ∀ w ∈ (Cond.methodLink RX0 22 yX0_cellOf :: Cond.static yX0_cellOf :: Cond.initialized RX0 :: Cond.code yX0_cellOf prog_2_method_4_code 2 (some .int) :: wsAll), w ∈ wsAll from List.forall_mem_cons.mpr ⟨wm_260, List.forall_mem_cons.mpr ⟨wm_261, List.forall_mem_cons.mpr ⟨wm_111, List.forall_mem_cons.mpr ⟨wm_262, fun _ h => h⟩⟩⟩⟩)
abbrev r_X0_depthOver : Room := { frames := 1, cells := 0, slots := 0, locals := 22 }
set_option maxHeartbeats 4000000 in
set_option maxRecDepth 100000 in
theorem c_X0_depthOver (l : Launch) (dC : Nat → ClassId) (dI : Nat → Nat → Nat) (sz : Nat) (t d : Nat) (cd : ClassId) (kd r : Int) (dp : Nat → Int) (x y : Int) (h1 : rg x) (h2 : rg y) (h3 : 0 ≤ r ∧ r ≤ 5) : Met l yX0_depthOver wsX0_depthOver r_X0_depthOver (zP (dC, dI) vwCl ([(cd, .int)]) ([(t, oI 0 [.int (iI kd), .int (iI r), .ref d]), (d, aI cd 121 dp)]) sz [.ref t, .int (iI x), .int (iI y)]) (zQi (dC, dI) vwCl ([(cd, .int)]) ([(t, oI 0 [.int (iI kd), .int (iI r), .ref d]), (d, aI cd 121 dp)]) sz (True) (dOv dp r x y) ([(t, oI 0 [.int (iI kd), .int (iI r), .ref d]), (d, aI cd 121 dp)])) 0 0 (va_A ([(t, oI 0 [.int (iI kd), .int (iI r), .ref d]), (d, aI cd 121 dp)]) sz) := by
  refine Met.ofW (cc := cX0_depthOver) (maxL := 3) (ret := (some .int)) (by decide) rfl ?_
  intro p e s m args below meth c s₁ B hml hv
  obtain ⟨rfl, hsz, hP, hK, hD0, hZ⟩ := hv
  have hx := B.exec
  have hb := B.bytes
  have hr := B.returns
  have hts0 := atoms_spec (ws := wsX0_depthOver) B.pre
  have hts : ∀ w ∈ wsAll, w.before _ s = true := fun w h => hts0 w (List.mem_cons_of_mem _ h)
  have hown : s.vm.findClass RX0 = some m.cls := findClass_of_methodNamed B.named
  have hlocks := B.notSynchronized
  subst hsz
  have hD := hD0.self (sz := s.heap.size)
  obtain ⟨A, hAe⟩ : ∃ A, A = va_A ([(t, oI 0 [.int (iI kd), .int (iI r), .ref d]), (d, aI cd 121 dp)]) s.heap.size := ⟨_, rfl⟩
  rw [← hAe] at hD hZ
  have hA : ∀ q : Nat, s.heap.size ≤ q → A q := fun q h => by rw [hAe]; exact Or.inr h
  have hS : va_S A s.heap s.heap [] := va_S.rf
  have hP : va_P (dC, dI) vwCl ([(t, oI 0 [.int (iI kd), .int (iI r), .ref d]), (d, aI cd 121 dp)]) s.heap := hP
  have hl := lv_entry ([.ref t, .int (iI x), .int (iI y)]) (n := 3) (Nat.le_of_ble_eq_true rfl)
  rw [lg_entry_eq]
  generalize (lg_sl ([.ref t, .int (iI x), .int (iI y)]) ++ List.replicate (3 - (lg_sl ([.ref t, .int (iI x), .int (iI y)])).length) Slot.unset).toArray = ls at hl ⊢
  have hl : lv_has ls 3 [(0, .ref t), (1, .int (iI x)), (2, .int (iI y))] := hl
  refine lv_iload_n hx hb dX0_depthOver_0 rfl (lv_at hl 1 rfl) ?_
  refine lv_aload_n hx hb dX0_depthOver_1 rfl (lv_at hl 0 rfl) ?_
  refine va_get (D := (dC, dI)) (ci := 0) (v := .int (iI r)) (C := RX0) (T := TX0) (N := 3) hx hb hts inX0 hown hK hP 0 rfl rfl 1 (by decide) (hts _ wm_136) (fun _ h9 => h9) rfl dX0_depthOver_2 ?_
  refine z_neg hx hb dX0_depthOver_5 ?_
  refine lv_aload_n hx hb dX0_depthOver_6 rfl (lv_at hl 0 rfl) ?_
  refine va_get (D := (dC, dI)) (ci := 0) (v := .int (iI r)) (C := RX0) (T := TX0) (N := 3) hx hb hts inX0 hown hK hP 0 rfl rfl 1 (by decide) (hts _ wm_136) (fun _ h9 => h9) rfl dX0_depthOver_7 ?_
  refine z_rcalli (va_runSN (As := [.int (iI x), .int (iI (-r)), .int (iI r)]) (rest := []) ⟨hx, hb, hml, hown, hts⟩ (c_X2_isWithin l dC dI (s.heap).size x (-r) r (by omega) (by omega) (by omega)) (⟨va_cnB 3 hts g_X0_30 rfl rfl rfl (hZ.1 (.methodLinkNest RX0 30 yX2_isWithin RX2) (by decide +kernel)) (hts _ wm_109) (by decide +kernel) ⟨Nat.le_of_ble_eq_true rfl, Nat.le_of_ble_eq_true rfl⟩, (hts _ wm_234), trivial⟩) (zP_S z_P0 (hK.sub [] rfl) z_D0 hS (z_free0 hS hA) hZ) rfl rfl hl.1 rfl (lv_room (Nat.le_of_ble_eq_true rfl)) dX0_depthOver_10 ⟨Nat.le_of_ble_eq_true rfl, Nat.le_of_ble_eq_true rfl⟩) hP hD hS (z_free0 hS hA) (fun _ h => by cases h) (fun H locs _ hP hD hS _ => ?_)
  refine z_if_eq (tgt := 32) hx hb dX0_depthOver_13 (by decide) (isW_rg _ _ _) (fun c13 => ?_) (fun c13 => ?_)
  · have c13 := isW_f.mp c13
    refine lv_iconst (v := iI (-1)) hx hb dX0_depthOver_32 rfl ?_
    subst hAe
    refine z_top (b := dOv dp r x y) (by unfold dOv; (repeat' split) <;> first | rfl | (exfalso; omega)) ?_
    exact z_iret hx hb hr hlocks hP hK hD hS (trivial) dX0_depthOver_33
  · have c13 := isW_t.mp c13
    refine lv_iload_n hx hb dX0_depthOver_16 rfl (lv_at hl 2 rfl) ?_
    refine lv_aload_n hx hb dX0_depthOver_17 rfl (lv_at hl 0 rfl) ?_
    refine va_get (D := (dC, dI)) (ci := 0) (v := .int (iI r)) (C := RX0) (T := TX0) (N := 3) hx hb hts inX0 hown hK hP 0 rfl rfl 1 (by decide) (hts _ wm_136) (fun _ h9 => h9) rfl dX0_depthOver_18 ?_
    refine z_neg hx hb dX0_depthOver_21 ?_
    refine lv_aload_n hx hb dX0_depthOver_22 rfl (lv_at hl 0 rfl) ?_
    refine va_get (D := (dC, dI)) (ci := 0) (v := .int (iI r)) (C := RX0) (T := TX0) (N := 3) hx hb hts inX0 hown hK hP 0 rfl rfl 1 (by decide) (hts _ wm_136) (fun _ h9 => h9) rfl dX0_depthOver_23 ?_
    refine z_rcalli (va_runSN (As := [.int (iI y), .int (iI (-r)), .int (iI r)]) (rest := []) ⟨hx, hb, hml, hown, hts⟩ (c_X2_isWithin l dC dI (H).size y (-r) r (by omega) (by omega) (by omega)) (⟨va_cnB 3 hts g_X0_30 rfl rfl rfl (hZ.1 (.methodLinkNest RX0 30 yX2_isWithin RX2) (by decide +kernel)) (hts _ wm_109) (by decide +kernel) ⟨Nat.le_of_ble_eq_true rfl, Nat.le_of_ble_eq_true rfl⟩, (hts _ wm_234), trivial⟩) (zP_S z_P0 (hK.sub [] rfl) z_D0 hS (z_free0 hS hA) hZ) rfl rfl hl.1 rfl (lv_room (Nat.le_of_ble_eq_true rfl)) dX0_depthOver_26 ⟨Nat.le_of_ble_eq_true rfl, Nat.le_of_ble_eq_true rfl⟩) hP hD hS (z_free0 hS hA) (fun _ h => by cases h) (fun H locs _ hP hD hS _ => ?_)
    refine z_if_ne (tgt := 34) hx hb dX0_depthOver_29 (by decide) (isW_rg _ _ _) (fun c29 => ?_) (fun c29 => ?_)
    · have c29 := isW_t.mp c29
      refine lv_aload_n hx hb dX0_depthOver_34 rfl (lv_at hl 0 rfl) ?_
      refine va_get (D := (dC, dI)) (ci := 0) (v := .ref d) (C := RX0) (T := TX0) (N := 3) hx hb hts inX0 hown hK hP 0 rfl rfl 2 (by decide) (hts _ wm_137) (fun _ h9 => h9) rfl dX0_depthOver_35 ?_
      refine lv_iload_n hx hb dX0_depthOver_38 rfl (lv_at hl 1 rfl) ?_
      refine lv_iload_n hx hb dX0_depthOver_39 rfl (lv_at hl 2 rfl) ?_
      refine z_rcalli (va_runS (As := [.int (iI x), .int (iI y)]) (rest := [.ref d]) ⟨hx, hb, hml, hown, hts⟩ (c_X0_cellOf l dC dI (H).size x y) (va_cwS 2 hts g_X0_22 rfl rfl rfl (by decide +kernel) ⟨Nat.le_of_ble_eq_true rfl, Nat.le_of_ble_eq_true rfl⟩) (zP_S z_P0 (hK.sub [] rfl) z_D0 hS (z_free0 hS hA) hZ) rfl rfl hl.1 rfl (lv_room (Nat.le_of_ble_eq_true rfl)) dX0_depthOver_40 ⟨Nat.le_of_ble_eq_true rfl, Nat.le_of_ble_eq_true rfl⟩) hP hD hS (z_free0 hS hA) (fun _ h => by cases h) (fun H locs _ hP hD hS _ => ?_)
      refine z_iald (f := dp) (i := (y + 5) * 11 + x + 5) hx hb hK hP 1 0 rfl rfl (by omega) (by omega) dX0_depthOver_43 ?_
      subst hAe
      refine z_top (b := dOv dp r x y) (by unfold dOv; (repeat' split) <;> first | rfl | (exfalso; omega)) ?_
      exact z_iret hx hb hr hlocks hP hK hD hS (trivial) dX0_depthOver_44
    · have c29 := isW_f.mp c29
      refine lv_iconst (v := iI (-1)) hx hb dX0_depthOver_32 rfl ?_
      subst hAe
      refine z_top (b := dOv dp r x y) (by unfold dOv; (repeat' split) <;> first | rfl | (exfalso; omega)) ?_
      exact z_iret hx hb hr hlocks hP hK hD hS (trivial) dX0_depthOver_33
end
section
theorem g_X0_26 : GoodIn wsAll (wsV RX0 26 RX0 yX0_depthAtSquare wsX0_depthAtSquare) := z_good (show ∀ w ∈ (Cond.methodLink RX0 26 yX0_depthAtSquare :: Cond.instanceMethod yX0_depthAtSquare :: Cond.selects RX0 yX0_depthAtSquare yX0_depthAtSquare :: Cond.initialized RX0 :: Cond.code yX0_depthAtSquare prog_2_method_5_code 3 (some .int) :: wsAll), w ∈ wsAll from List.forall_mem_cons.mpr ⟨wm_263, List.forall_mem_cons.mpr ⟨wm_264, List.forall_mem_cons.mpr ⟨wm_563, List.forall_mem_cons.mpr ⟨wm_111, List.forall_mem_cons.mpr ⟨wm_265, fun _ h => h⟩⟩⟩⟩⟩)
abbrev r_X0_become : Room := { frames := 2, cells := 0, slots := 0, locals := 43 }
set_option maxHeartbeats 4000000 in
set_option maxRecDepth 100000 in
theorem lp_X0_become_46 {p : Program} {l : Launch} {e : Env} {s : State} {m : MethodId} {args : Array Value} {below : List Frame} {meth : Method} {c : Code} {Q : State → Prop} {A : Nat → Prop} {dC : Nat → ClassId} {dI : Nat → Nat → Nat} (t d : Nat) (cd : ClassId) (k2 r2 y g : Int) (dp : Nat → Int) (hx : p.tables.exec = Jvm.exec) (hb : c.code = cX0_become) (hml : c.maxLocals = 6) (hown : s.vm.findClass RX0 = some m.cls) (hts : ∀ w ∈ wsAll, w.before args s = true) (hA : ∀ q : Nat, s.heap.size ≤ q → A q) (hZ : zZ A s s.heap) (hK : va_K (dC, dI) vwCl ([(cd, .int)]) s) (h3 : rg k2) (h4 : 0 ≤ r2 ∧ r2 ≤ 5) (hy : -r2 ≤ y ∧ y ≤ r2) (kk : ∀ (H : Heap) (locs : List Loc) (ls : Array Slot), va_P (dC, dI) vwCl ([(t, oI 0 [.int (iI k2), .int (iI r2), .ref d]), (d, aI cd 121 (becR k2 r2 (2 * r2 + 1).toNat y dp))]) H → va_D A ([(t, oI 0 [.int (iI k2), .int (iI r2), .ref d]), (d, aI cd 121 (becR k2 r2 (2 * r2 + 1).toNat y dp))]) → va_S A s.heap H locs → lv_has ls 6 [(0, .ref t), (1, .int (iI k2)), (2, .int (iI r2)), (3, .int (iI g)), (4, .int (iI y)), (5, .int (iI (-r2 + (((2 * r2 + 1).toNat : Nat) : Int))))] → W p l e r_X0_become s m args below meth c H locs 0 0 Q (F0 m 85 ls [])) : ∀ (n i : Nat), i + n = (2 * r2 + 1).toNat → ∀ (H : Heap) (locs : List Loc) (ls : Array Slot), va_P (dC, dI) vwCl ([(t, oI 0 [.int (iI k2), .int (iI r2), .ref d]), (d, aI cd 121 (becR k2 r2 i y dp))]) H → va_D A ([(t, oI 0 [.int (iI k2), .int (iI r2), .ref d]), (d, aI cd 121 (becR k2 r2 i y dp))]) → va_S A s.heap H locs → lv_has ls 6 [(0, .ref t), (1, .int (iI k2)), (2, .int (iI r2)), (3, .int (iI g)), (4, .int (iI y)), (5, .int (iI (-r2 + ((i : Nat) : Int))))] → W p l e r_X0_become s m args below meth c H locs 0 0 Q (F0 m 46 ls []) := by
  intro n
  induction n with
  | zero =>
    intro i hi H locs ls hP hD hS hl
    have hi9 : (2 * r2 + 1).toNat = i := by omega
    subst hi9
    refine lv_iload hx hb dX0_become_46 (lv_at hl 5 rfl) ?_
    refine lv_iload_n hx hb dX0_become_48 rfl (lv_at hl 2 rfl) ?_
    refine z_icmp_gt (tgt := 85) hx hb dX0_become_49 (by decide) (by omega) (by omega) (fun c49 => ?_) (fun c49 => by exfalso; omega)
    exact kk _ _ _ hP hD hS (lv_sub hl [0, 1, 2, 3, 4, 5] rfl)
  | succ n ih =>
    intro i hi H locs ls hP hD hS hl
    refine lv_iload hx hb dX0_become_46 (lv_at hl 5 rfl) ?_
    refine lv_iload_n hx hb dX0_become_48 rfl (lv_at hl 2 rfl) ?_
    refine z_icmp_gt (tgt := 85) hx hb dX0_become_49 (by decide) (by omega) (by omega) (fun c49 => by exfalso; omega) (fun c49 => ?_)
    refine lv_aload_n hx hb dX0_become_52 rfl (lv_at hl 0 rfl) ?_
    refine va_get (D := (dC, dI)) (ci := 0) (v := .ref d) (C := RX0) (T := TX0) (N := 3) hx hb hts inX0 hown hK hP 0 rfl rfl 2 (by decide) (hts _ wm_137) (fun _ h9 => h9) rfl dX0_become_53 ?_
    refine lv_iload hx hb dX0_become_56 (lv_at hl 5 rfl) ?_
    refine lv_iload hx hb dX0_become_58 (lv_at hl 4 rfl) ?_
    refine z_rcalli (va_runS (As := [.int (iI (-r2 + ((i : Nat) : Int))), .int (iI y)]) (rest := [.ref d]) ⟨hx, hb, hml, hown, hts⟩ (c_X0_cellOf l dC dI (H).size (-r2 + ((i : Nat) : Int)) y) (va_cwS 2 hts g_X0_22 rfl rfl rfl (by decide +kernel) ⟨Nat.le_of_ble_eq_true rfl, Nat.le_of_ble_eq_true rfl⟩) (zP_S z_P0 (hK.sub [] rfl) z_D0 hS (z_free0 hS hA) hZ) rfl rfl hl.1 rfl (lv_room (Nat.le_of_ble_eq_true rfl)) dX0_become_60 ⟨Nat.le_of_ble_eq_true rfl, Nat.le_of_ble_eq_true rfl⟩) hP hD hS (z_free0 hS hA) (fun _ h => by cases h) (fun H locs _ hP hD hS _ => ?_)
    have hyy := z_sqm (a := y) (r := r2) hy.1 hy.2 h4.2
    have hxx := z_sqm (a := -r2 + ((i : Nat) : Int)) (r := r2) (by omega) (by omega) h4.2
    have hq : 0 ≤ (-r2 + ((i : Nat) : Int)) * (-r2 + ((i : Nat) : Int)) + y * y ∧ (-r2 + ((i : Nat) : Int)) * (-r2 + ((i : Nat) : Int)) + y * y ≤ 50 := by omega
    refine lv_aload_n hx hb dX0_become_63 rfl (lv_at hl 0 rfl) ?_
    refine lv_iload hx hb dX0_become_64 (lv_at hl 5 rfl) ?_
    refine lv_iload hx hb dX0_become_66 (lv_at hl 5 rfl) ?_
    refine z_mul hx hb dX0_become_68 ?_
    refine lv_iload hx hb dX0_become_69 (lv_at hl 4 rfl) ?_
    refine lv_iload hx hb dX0_become_71 (lv_at hl 4 rfl) ?_
    refine z_mul hx hb dX0_become_73 ?_
    refine z_add hx hb dX0_become_74 ?_
    have hFc := z_freeR (wc := [(t, oI 0 [.int (iI k2), .int (iI r2), .ref d]), (d, aI cd 121 (becR k2 r2 i y dp))]) (fun _ h => h) hD hS hA
    refine z_wcalli (va_runV (As := [.int (iI (((-r2 + ((i : Nat) : Int)) * (-r2 + ((i : Nat) : Int))) + (y * y)))]) (rest := [.int (iI ((y + 5) * 11 + (-r2 + ((i : Nat) : Int)) + 5)), .ref d]) ⟨hx, hb, hml, hown, hts⟩ (c_X0_depthAtSquare l dC dI (H).size t d cd k2 r2 (becR k2 r2 i y dp) (((-r2 + ((i : Nat) : Int)) * (-r2 + ((i : Nat) : Int))) + (y * y)) h3 h4 hq) (cwV 1 hts g_X0_26 rfl rfl rfl (by decide +kernel) ⟨Nat.le_of_ble_eq_true rfl, Nat.le_of_ble_eq_true rfl⟩) (zP_V (ci := 0) (q0 := 0) rfl rfl hP hK hD hS hFc hZ) rfl rfl hl.1 rfl (lv_room (Nat.le_of_ble_eq_true rfl)) dX0_become_75 ⟨Nat.le_of_ble_eq_true rfl, Nat.le_of_ble_eq_true rfl⟩) hS hFc (fun H locs _ hP hD hS _ => ?_)
    refine z_iast (f := becR k2 r2 i y dp) (i := (y + 5) * 11 + (-r2 + ((i : Nat) : Int)) + 5) (x := das k2 r2 (((-r2 + ((i : Nat) : Int)) * (-r2 + ((i : Nat) : Int))) + (y * y))) hx hb hK hP hD hS 1 0 rfl rfl (by omega) (by decide) dX0_become_78 (fun H locs hP hD hS => ?_)
    have hP : va_P (dC, dI) vwCl ([(t, oI 0 [.int (iI k2), .int (iI r2), .ref d]), (d, aI cd 121 (uI (becR k2 r2 i y dp) ((y + 5) * 11 + (-r2 + ((i : Nat) : Int)) + 5).toNat (das k2 r2 (((-r2 + ((i : Nat) : Int)) * (-r2 + ((i : Nat) : Int))) + (y * y)))))]) H := hP
    have hD : va_D A ([(t, oI 0 [.int (iI k2), .int (iI r2), .ref d]), (d, aI cd 121 (uI (becR k2 r2 i y dp) ((y + 5) * 11 + (-r2 + ((i : Nat) : Int)) + 5).toNat (das k2 r2 (((-r2 + ((i : Nat) : Int)) * (-r2 + ((i : Nat) : Int))) + (y * y)))))]) := hD
    refine lv_iinc (v := iI (-r2 + (((i + 1) : Nat) : Int))) (lv' := [(5, .int (iI (-r2 + (((i + 1) : Nat) : Int)))), (0, .ref t), (1, .int (iI k2)), (2, .int (iI r2)), (3, .int (iI g)), (4, .int (iI y))]) hx hb dX0_become_79 hl (k := 5) rfl ((iI_add _ _).trans (congrArg iI (by omega))) (by decide) rfl (fun ls hl => ?_)
    refine lv_goto (tgt := 46) hx hb dX0_become_82 (by decide) ?_
    exact ih (i + 1) (by omega) _ _ _ hP hD hS (lv_sub hl [1, 2, 3, 4, 5, 0] rfl)
set_option maxHeartbeats 4000000 in
set_option maxRecDepth 100000 in
theorem lp_X0_become_36 {p : Program} {l : Launch} {e : Env} {s : State} {m : MethodId} {args : Array Value} {below : List Frame} {meth : Method} {c : Code} {Q : State → Prop} {A : Nat → Prop} {dC : Nat → ClassId} {dI : Nat → Nat → Nat} (t d : Nat) (cd : ClassId) (k2 r2 g : Int) (dp : Nat → Int) (hx : p.tables.exec = Jvm.exec) (hb : c.code = cX0_become) (hml : c.maxLocals = 6) (hown : s.vm.findClass RX0 = some m.cls) (hts : ∀ w ∈ wsAll, w.before args s = true) (hA : ∀ q : Nat, s.heap.size ≤ q → A q) (hZ : zZ A s s.heap) (hK : va_K (dC, dI) vwCl ([(cd, .int)]) s) (h3 : rg k2) (h4 : 0 ≤ r2 ∧ r2 ≤ 5) (kk : ∀ (H : Heap) (locs : List Loc) (ls : Array Slot), va_P (dC, dI) vwCl ([(t, oI 0 [.int (iI k2), .int (iI r2), .ref d]), (d, aI cd 121 (becF k2 r2 (2 * r2 + 1).toNat ((2 * r2 + 1).toNat) dp))]) H → va_D A ([(t, oI 0 [.int (iI k2), .int (iI r2), .ref d]), (d, aI cd 121 (becF k2 r2 (2 * r2 + 1).toNat ((2 * r2 + 1).toNat) dp))]) → va_S A s.heap H locs → lv_has ls 6 [(0, .ref t), (1, .int (iI k2)), (2, .int (iI r2)), (3, .int (iI g)), (4, .int (iI (-r2 + (((2 * r2 + 1).toNat : Nat) : Int))))] → W p l e r_X0_become s m args below meth c H locs 0 0 Q (F0 m 91 ls [])) : ∀ (n i : Nat), i + n = (2 * r2 + 1).toNat → ∀ (H : Heap) (locs : List Loc) (ls : Array Slot), va_P (dC, dI) vwCl ([(t, oI 0 [.int (iI k2), .int (iI r2), .ref d]), (d, aI cd 121 (becF k2 r2 (2 * r2 + 1).toNat i dp))]) H → va_D A ([(t, oI 0 [.int (iI k2), .int (iI r2), .ref d]), (d, aI cd 121 (becF k2 r2 (2 * r2 + 1).toNat i dp))]) → va_S A s.heap H locs → lv_has ls 6 [(0, .ref t), (1, .int (iI k2)), (2, .int (iI r2)), (3, .int (iI g)), (4, .int (iI (-r2 + ((i : Nat) : Int))))] → W p l e r_X0_become s m args below meth c H locs 0 0 Q (F0 m 36 ls []) := by
  intro n
  induction n with
  | zero =>
    intro i hi H locs ls hP hD hS hl
    have hi9 : (2 * r2 + 1).toNat = i := by omega
    subst hi9
    refine lv_iload hx hb dX0_become_36 (lv_at hl 4 rfl) ?_
    refine lv_iload_n hx hb dX0_become_38 rfl (lv_at hl 2 rfl) ?_
    refine z_icmp_gt (tgt := 91) hx hb dX0_become_39 (by decide) (by omega) (by omega) (fun c39 => ?_) (fun c39 => by exfalso; omega)
    exact kk _ _ _ hP hD hS (lv_sub hl [0, 1, 2, 3, 4] rfl)
  | succ n ih =>
    intro i hi H locs ls hP hD hS hl
    refine lv_iload hx hb dX0_become_36 (lv_at hl 4 rfl) ?_
    refine lv_iload_n hx hb dX0_become_38 rfl (lv_at hl 2 rfl) ?_
    refine z_icmp_gt (tgt := 91) hx hb dX0_become_39 (by decide) (by omega) (by omega) (fun c39 => by exfalso; omega) (fun c39 => ?_)
    refine lv_iload_n hx hb dX0_become_42 rfl (lv_at hl 2 rfl) ?_
    refine z_neg hx hb dX0_become_43 ?_
    refine z_top (b := -r2 + ((0 : Nat) : Int)) (by omega) ?_
    refine lv_istore (lv' := [(5, .int (iI (-r2 + ((0 : Nat) : Int)))), (0, .ref t), (1, .int (iI k2)), (2, .int (iI r2)), (3, .int (iI g)), (4, .int (iI (-r2 + ((i : Nat) : Int))))]) hx hb dX0_become_44 hl (by decide) rfl (fun ls hl => ?_)
    refine lp_X0_become_46 t d cd k2 r2 (-r2 + ((i : Nat) : Int)) g (becF k2 r2 (2 * r2 + 1).toNat i dp) hx hb hml hown hts hA hZ hK (h3) (h4) (by omega) (fun H locs ls hP hD hS hl => ?_)  ((2 * r2 + 1).toNat) 0 (by omega) _ _ _ hP hD hS (lv_sub hl [1, 2, 3, 4, 5, 0] rfl)
    have hP : va_P (dC, dI) vwCl ([(t, oI 0 [.int (iI k2), .int (iI r2), .ref d]), (d, aI cd 121 (becR k2 r2 (2 * r2 + 1).toNat (-r2 + ((i : Nat) : Int)) (becF k2 r2 (2 * r2 + 1).toNat i dp)))]) H := hP
    have hD : va_D A ([(t, oI 0 [.int (iI k2), .int (iI r2), .ref d]), (d, aI cd 121 (becR k2 r2 (2 * r2 + 1).toNat (-r2 + ((i : Nat) : Int)) (becF k2 r2 (2 * r2 + 1).toNat i dp)))]) := hD
    have hl : lv_has ls 6 [(0, .ref t), (1, .int (iI k2)), (2, .int (iI r2)), (3, .int (iI g)), (4, .int (iI (-r2 + ((i : Nat) : Int)))), (5, .int (iI (-r2 + (((2 * r2 + 1).toNat : Nat) : Int))))] := hl
    refine lv_iinc (v := iI (-r2 + (((i + 1) : Nat) : Int))) (lv' := [(4, .int (iI (-r2 + (((i + 1) : Nat) : Int)))), (0, .ref t), (1, .int (iI k2)), (2, .int (iI r2)), (3, .int (iI g)), (5, .int (iI (-r2 + (((2 * r2 + 1).toNat : Nat) : Int))))]) hx hb dX0_become_85 hl (k := 4) rfl ((iI_add _ _).trans (congrArg iI (by omega))) (by decide) rfl (fun ls hl => ?_)
    refine lv_goto (tgt := 36) hx hb dX0_become_88 (by decide) ?_
    exact ih (i + 1) (by omega) _ _ _ hP hD hS (lv_sub hl [1, 2, 3, 4, 0] rfl)
set_option maxHeartbeats 4000000 in
set_option maxRecDepth 100000 in
theorem c_X0_become (l : Launch) (dC : Nat → ClassId) (dI : Nat → Nat → Nat) (sz : Nat) (t d : Nat) (cd : ClassId) (kd r : Int) (dp : Nat → Int) (k2 r2 : Int) (h1 : rg kd) (h2 : rg r) (h3 : rg k2) (h4 : 0 ≤ r2 ∧ r2 ≤ 5) : Met l yX0_become wsX0_become r_X0_become (zP (dC, dI) vwCl ([(cd, .int)]) ([(t, oI 0 [.int (iI kd), .int (iI r), .ref d]), (d, aI cd 121 dp)]) sz [.ref t, .int (iI k2), .int (iI r2)]) (zQi (dC, dI) vwCl ([(cd, .int)]) ([(t, oI 0 [.int (iI kd), .int (iI r), .ref d]), (d, aI cd 121 dp)]) sz (True) (if kd = k2 ∧ r = r2 then 0 else 1) ([(t, oI 0 [.int (iI k2), .int (iI r2), .ref d]), (d, aI cd 121 (becF k2 r2 (2 * r2 + 1).toNat (2 * r2 + 1).toNat dp))])) 0 0 (va_A ([(t, oI 0 [.int (iI kd), .int (iI r), .ref d]), (d, aI cd 121 dp)]) sz) := by
  refine Met.ofW (cc := cX0_become) (maxL := 6) (ret := (some .boolean)) (by decide) rfl ?_
  intro p e s m args below meth c s₁ B hml hv
  obtain ⟨rfl, hsz, hP, hK, hD0, hZ⟩ := hv
  have hx := B.exec
  have hb := B.bytes
  have hr := B.returns
  have hts0 := atoms_spec (ws := wsX0_become) B.pre
  have hts : ∀ w ∈ wsAll, w.before _ s = true := fun w h => hts0 w (List.mem_cons_of_mem _ h)
  have hown : s.vm.findClass RX0 = some m.cls := findClass_of_methodNamed B.named
  have hlocks := B.notSynchronized
  subst hsz
  have hD := hD0.self (sz := s.heap.size)
  obtain ⟨A, hAe⟩ : ∃ A, A = va_A ([(t, oI 0 [.int (iI kd), .int (iI r), .ref d]), (d, aI cd 121 dp)]) s.heap.size := ⟨_, rfl⟩
  rw [← hAe] at hD hZ
  have hA : ∀ q : Nat, s.heap.size ≤ q → A q := fun q h => by rw [hAe]; exact Or.inr h
  have hS : va_S A s.heap s.heap [] := va_S.rf
  have hP : va_P (dC, dI) vwCl ([(t, oI 0 [.int (iI kd), .int (iI r), .ref d]), (d, aI cd 121 dp)]) s.heap := hP
  have hl := lv_entry ([.ref t, .int (iI k2), .int (iI r2)]) (n := 6) (Nat.le_of_ble_eq_true rfl)
  rw [lg_entry_eq]
  generalize (lg_sl ([.ref t, .int (iI k2), .int (iI r2)]) ++ List.replicate (6 - (lg_sl ([.ref t, .int (iI k2), .int (iI r2)])).length) Slot.unset).toArray = ls at hl ⊢
  have hl : lv_has ls 6 [(0, .ref t), (1, .int (iI k2)), (2, .int (iI r2))] := hl
  refine lv_aload_n hx hb dX0_become_0 rfl (lv_at hl 0 rfl) ?_
  refine va_get (D := (dC, dI)) (ci := 0) (v := .int (iI kd)) (C := RX0) (T := TX0) (N := 3) hx hb hts inX0 hown hK hP 0 rfl rfl 0 (by decide) (hts _ wm_135) (fun _ h9 => h9) rfl dX0_become_1 ?_
  refine lv_iload_n hx hb dX0_become_4 rfl (lv_at hl 1 rfl) ?_
  refine z_join (g0 := F0 m 21 ls [.int (iI (if kd = k2 ∧ r = r2 then 0 else 1))]) ?_ (fun J21 => ?_)
  · refine lv_istore_n (lv' := [(3, .int (iI (if kd = k2 ∧ r = r2 then 0 else 1))), (0, .ref t), (1, .int (iI k2)), (2, .int (iI r2))]) hx hb dX0_become_21 rfl hl (by decide) rfl (fun ls hl => ?_)
    refine lv_aload_n hx hb dX0_become_22 rfl (lv_at hl 1 rfl) ?_
    refine lv_iload_n hx hb dX0_become_23 rfl (lv_at hl 2 rfl) ?_
    refine va_put (D := (dC, dI)) (ci := 0) (v := .int (iI k2)) (ty := .int) (C := RX0) (T := TX0) (N := 3) hx hb hts inX0 tyX0 tyX0_ok nmX0 hown hK hP hD hS 0 rfl rfl 0 (by decide) (hts _ wm_135) (fun _ h9 => h9) rfl (by decide +kernel) rfl rfl (Nat.le_of_ble_eq_true rfl) dX0_become_24 (fun H locs hP hD hS => ?_)
    have hP : va_P (dC, dI) vwCl ([(t, oI 0 [.int (iI k2), .int (iI r), .ref d]), (d, aI cd 121 dp)]) H := hP
    have hD : va_D A ([(t, oI 0 [.int (iI k2), .int (iI r), .ref d]), (d, aI cd 121 dp)]) := hD
    refine lv_aload_n hx hb dX0_become_27 rfl (lv_at hl 1 rfl) ?_
    refine lv_iload_n hx hb dX0_become_28 rfl (lv_at hl 3 rfl) ?_
    refine va_put (D := (dC, dI)) (ci := 0) (v := .int (iI r2)) (ty := .int) (C := RX0) (T := TX0) (N := 3) hx hb hts inX0 tyX0 tyX0_ok nmX0 hown hK hP hD hS 0 rfl rfl 1 (by decide) (hts _ wm_136) (fun _ h9 => h9) rfl (by decide +kernel) rfl rfl (Nat.le_of_ble_eq_true rfl) dX0_become_29 (fun H locs hP hD hS => ?_)
    have hP : va_P (dC, dI) vwCl ([(t, oI 0 [.int (iI k2), .int (iI r2), .ref d]), (d, aI cd 121 dp)]) H := hP
    have hD : va_D A ([(t, oI 0 [.int (iI k2), .int (iI r2), .ref d]), (d, aI cd 121 dp)]) := hD
    refine lv_iload_n hx hb dX0_become_32 rfl (lv_at hl 3 rfl) ?_
    refine z_neg hx hb dX0_become_33 ?_
    refine z_top (b := -r2 + ((0 : Nat) : Int)) (by omega) ?_
    refine lv_istore (lv' := [(4, .int (iI (-r2 + ((0 : Nat) : Int)))), (3, .int (iI (if kd = k2 ∧ r = r2 then 0 else 1))), (0, .ref t), (1, .int (iI k2)), (2, .int (iI r2))]) hx hb dX0_become_34 hl (by decide) rfl (fun ls hl => ?_)
    refine lp_X0_become_36 t d cd k2 r2 (if kd = k2 ∧ r = r2 then 0 else 1) dp hx hb hml hown hts hA hZ hK (h3) (h4) (fun H locs ls hP hD hS hl => ?_)  ((2 * r2 + 1).toNat) 0 (by omega) _ _ _ hP hD hS (lv_sub hl [2, 3, 4, 1, 0] rfl)
    have hP : va_P (dC, dI) vwCl ([(t, oI 0 [.int (iI k2), .int (iI r2), .ref d]), (d, aI cd 121 (becF k2 r2 (2 * r2 + 1).toNat ((2 * r2 + 1).toNat) dp))]) H := hP
    have hD : va_D A ([(t, oI 0 [.int (iI k2), .int (iI r2), .ref d]), (d, aI cd 121 (becF k2 r2 (2 * r2 + 1).toNat ((2 * r2 + 1).toNat) dp))]) := hD
    have hl : lv_has ls 6 [(0, .ref t), (1, .int (iI k2)), (2, .int (iI r2)), (3, .int (iI (if kd = k2 ∧ r = r2 then 0 else 1))), (4, .int (iI (-r2 + (((2 * r2 + 1).toNat : Nat) : Int))))] := hl
    refine lv_iload_n hx hb dX0_become_91 rfl (lv_at hl 3 rfl) ?_
    subst hAe
    refine z_top (b := if kd = k2 ∧ r = r2 then 0 else 1) (rfl) ?_
    exact z_zret hx hb hr hlocks (by split <;> omega) hP hK hD hS (trivial) dX0_become_92
  · refine z_icmp_ne (tgt := 16) hx hb dX0_become_5 (by decide) (by omega) (by omega) (fun c5 => ?_) (fun c5 => ?_)
    · refine lv_iconst (v := iI 1) hx hb dX0_become_16 rfl ?_
      refine lv_goto (tgt := 21) hx hb dX0_become_17 (by decide) ?_
      exact z_top (b := if kd = k2 ∧ r = r2 then 0 else 1) (by (repeat' split) <;> omega) J21
    · refine lv_aload_n hx hb dX0_become_8 rfl (lv_at hl 0 rfl) ?_
      refine va_get (D := (dC, dI)) (ci := 0) (v := .int (iI r)) (C := RX0) (T := TX0) (N := 3) hx hb hts inX0 hown hK hP 0 rfl rfl 1 (by decide) (hts _ wm_136) (fun _ h9 => h9) rfl dX0_become_9 ?_
      refine lv_iload_n hx hb dX0_become_12 rfl (lv_at hl 2 rfl) ?_
      refine z_icmp_eq (tgt := 20) hx hb dX0_become_13 (by decide) (by omega) (by omega) (fun c13 => ?_) (fun c13 => ?_)
      · refine lv_iconst (v := iI 0) hx hb dX0_become_20 rfl ?_
        exact z_top (b := if kd = k2 ∧ r = r2 then 0 else 1) (by (repeat' split) <;> omega) J21
      · refine lv_iconst (v := iI 1) hx hb dX0_become_16 rfl ?_
        refine lv_goto (tgt := 21) hx hb dX0_become_17 (by decide) ?_
        exact z_top (b := if kd = k2 ∧ r = r2 then 0 else 1) (by (repeat' split) <;> omega) J21
end
section
abbrev r_X1_clear : Room := { frames := 0, cells := 0, slots := 0, locals := 0 }
set_option maxHeartbeats 4000000 in
set_option maxRecDepth 100000 in
theorem c_X1_clear (l : Launch) (dC : Nat → ClassId) (dI : Nat → Nat → Nat) (sz : Nat) (tr kp : Nat) (ck : ClassId) (T : TK) : Met l yX1_clear wsX1_clear r_X1_clear (zP (dC, dI) vwCl ([(ck, .int)]) (tkW tr kp ck T) sz [.ref tr]) (zQv (dC, dI) vwCl ([(ck, .int)]) (tkW tr kp ck T) sz (True) (tkW tr kp ck (tkC T))) 0 0 (va_A (tkW tr kp ck T) sz) := by
  refine Met.ofW (cc := cX1_clear) (maxL := 1) (ret := none) (by decide) rfl ?_
  intro p e s m args below meth c s₁ B hml hv
  obtain ⟨rfl, hsz, hP, hK, hD0, hZ⟩ := hv
  have hx := B.exec
  have hb := B.bytes
  have hr := B.returns
  have hts0 := atoms_spec (ws := wsX1_clear) B.pre
  have hts : ∀ w ∈ wsAll, w.before _ s = true := fun w h => hts0 w (List.mem_cons_of_mem _ h)
  have hown : s.vm.findClass RX1 = some m.cls := findClass_of_methodNamed B.named
  have hlocks := B.notSynchronized
  subst hsz
  have hD := hD0.self (sz := s.heap.size)
  obtain ⟨A, hAe⟩ : ∃ A, A = va_A (tkW tr kp ck T) s.heap.size := ⟨_, rfl⟩
  rw [← hAe] at hD hZ
  have hA : ∀ q : Nat, s.heap.size ≤ q → A q := fun q h => by rw [hAe]; exact Or.inr h
  have hS : va_S A s.heap s.heap [] := va_S.rf
  have hP : va_P (dC, dI) vwCl (tkW tr kp ck T) s.heap := hP
  have hl := lv_entry ([.ref tr]) (n := 1) (Nat.le_of_ble_eq_true rfl)
  rw [lg_entry_eq]
  generalize (lg_sl ([.ref tr]) ++ List.replicate (1 - (lg_sl ([.ref tr])).length) Slot.unset).toArray = ls at hl ⊢
  have hl : lv_has ls 1 [(0, .ref tr)] := hl
  refine lv_aload_n hx hb dX1_clear_0 rfl (lv_at hl 0 rfl) ?_
  refine lv_iconst (v := iI 0) hx hb dX1_clear_1 rfl ?_
  refine va_put (D := (dC, dI)) (ci := 1) (v := .int (iI 0)) (ty := .int) (C := RX1) (T := TX1) (N := 6) hx hb hts inX1 tyX1 tyX1_ok nmX1 hown hK hP hD hS 0 rfl rfl 1 (by decide) (hts _ wm_151) (fun _ h9 => h9) rfl (by decide +kernel) rfl rfl (Nat.le_of_ble_eq_true rfl) dX1_clear_2 (fun H locs hP hD hS => ?_)
  have hP : va_P (dC, dI) vwCl ([(tr, oI 1 [.ref kp, .int (iI 0), .long (lI T.2.2.1), .int (iI T.2.2.2.1), .int (iI T.2.2.2.2.1), .int (iI T.2.2.2.2.2)]), (kp, aI ck 2000 T.1)]) H := hP
  have hD : va_D A ([(tr, oI 1 [.ref kp, .int (iI 0), .long (lI T.2.2.1), .int (iI T.2.2.2.1), .int (iI T.2.2.2.2.1), .int (iI T.2.2.2.2.2)]), (kp, aI ck 2000 T.1)]) := hD
  refine lv_aload_n hx hb dX1_clear_5 rfl (lv_at hl 0 rfl) ?_
  refine lv_lconst (v := lI 0) hx hb dX1_clear_6 (by decide) ?_
  refine va_put (D := (dC, dI)) (ci := 1) (v := .long (lI 0)) (ty := .long) (C := RX1) (T := TX1) (N := 6) hx hb hts inX1 tyX1 tyX1_ok nmX1 hown hK hP hD hS 0 rfl rfl 2 (by decide) (hts _ wm_152) (fun _ h9 => h9) rfl (by decide +kernel) rfl rfl (Nat.le_of_ble_eq_true rfl) dX1_clear_7 (fun H locs hP hD hS => ?_)
  have hP : va_P (dC, dI) vwCl ([(tr, oI 1 [.ref kp, .int (iI 0), .long (lI 0), .int (iI T.2.2.2.1), .int (iI T.2.2.2.2.1), .int (iI T.2.2.2.2.2)]), (kp, aI ck 2000 T.1)]) H := hP
  have hD : va_D A ([(tr, oI 1 [.ref kp, .int (iI 0), .long (lI 0), .int (iI T.2.2.2.1), .int (iI T.2.2.2.2.1), .int (iI T.2.2.2.2.2)]), (kp, aI ck 2000 T.1)]) := hD
  subst hAe
  exact z_vret hx hb hr hlocks hP hK hD hS (trivial) dX1_clear_10
abbrev r_X1_add : Room := { frames := 1, cells := 0, slots := 0, locals := 24 }
set_option maxHeartbeats 4000000 in
set_option maxRecDepth 100000 in
theorem c_X1_add (l : Launch) (dC : Nat → ClassId) (dI : Nat → Nat → Nat) (sz : Nat) (tr kp : Nat) (ck : ClassId) (T : TK) (x y z : Int) (h0 : 0 ≤ T.2.1 ∧ T.2.1 < 2147483647) (h1 : 0 ≤ T.2.2.2.1 ∧ T.2.2.2.1 < 20) (h2 : 0 ≤ T.2.2.2.2.1 ∧ T.2.2.2.2.1 < 20) (h3 : 0 ≤ T.2.2.2.2.2 ∧ T.2.2.2.2.2 ≤ 1000) (h4 : 0 ≤ x ∧ x < 20) (h5 : 0 ≤ y ∧ y < 20) (h6 : 0 ≤ z ∧ z ≤ 1000) : Met l yX1_add wsX1_add r_X1_add (zP (dC, dI) vwCl ([(ck, .int)]) (tkW tr kp ck T) sz [.ref tr, .int (iI x), .int (iI y), .int (iI z)]) (zQv (dC, dI) vwCl ([(ck, .int)]) (tkW tr kp ck T) sz (True) (tkW tr kp ck (tkA x y z T))) 0 0 (va_A (tkW tr kp ck T) sz) := by
  refine Met.ofW (cc := cX1_add) (maxL := 4) (ret := none) (by decide) rfl ?_
  intro p e s m args below meth c s₁ B hml hv
  obtain ⟨rfl, hsz, hP, hK, hD0, hZ⟩ := hv
  have hx := B.exec
  have hb := B.bytes
  have hr := B.returns
  have hts0 := atoms_spec (ws := wsX1_add) B.pre
  have hts : ∀ w ∈ wsAll, w.before _ s = true := fun w h => hts0 w (List.mem_cons_of_mem _ h)
  have hown : s.vm.findClass RX1 = some m.cls := findClass_of_methodNamed B.named
  have hlocks := B.notSynchronized
  subst hsz
  have hD := hD0.self (sz := s.heap.size)
  obtain ⟨A, hAe⟩ : ∃ A, A = va_A (tkW tr kp ck T) s.heap.size := ⟨_, rfl⟩
  rw [← hAe] at hD hZ
  have hA : ∀ q : Nat, s.heap.size ≤ q → A q := fun q h => by rw [hAe]; exact Or.inr h
  have hS : va_S A s.heap s.heap [] := va_S.rf
  have hP : va_P (dC, dI) vwCl (tkW tr kp ck T) s.heap := hP
  have hl := lv_entry ([.ref tr, .int (iI x), .int (iI y), .int (iI z)]) (n := 4) (Nat.le_of_ble_eq_true rfl)
  rw [lg_entry_eq]
  generalize (lg_sl ([.ref tr, .int (iI x), .int (iI y), .int (iI z)]) ++ List.replicate (4 - (lg_sl ([.ref tr, .int (iI x), .int (iI y), .int (iI z)])).length) Slot.unset).toArray = ls at hl ⊢
  have hl : lv_has ls 4 [(0, .ref tr), (1, .int (iI x)), (2, .int (iI y)), (3, .int (iI z))] := hl
  refine lv_aload_n hx hb dX1_add_0 rfl (lv_at hl 0 rfl) ?_
  refine va_get (D := (dC, dI)) (ci := 1) (v := .int (iI T.2.1)) (C := RX1) (T := TX1) (N := 6) hx hb hts inX1 hown hK hP 0 rfl rfl 1 (by decide) (hts _ wm_151) (fun _ h9 => h9) rfl dX1_add_1 ?_
  refine z_if_le (tgt := 46) hx hb dX1_add_4 (by decide) (by omega) (fun c4 => ?_) (fun c4 => ?_)
  · refine lv_aload_n hx hb dX1_add_46 rfl (lv_at hl 0 rfl) ?_
    refine va_get (D := (dC, dI)) (ci := 1) (v := .int (iI T.2.1)) (C := RX1) (T := TX1) (N := 6) hx hb hts inX1 hown hK hP 0 rfl rfl 1 (by decide) (hts _ wm_151) (fun _ h9 => h9) rfl dX1_add_47 ?_
    refine lv_sipush (v := iI 2000) hx hb dX1_add_50 (by decide) ?_
    refine z_icmp_ge (tgt := 76) hx hb dX1_add_53 (by decide) (by omega) (by omega) (fun c53 => ?_) (fun c53 => ?_)
    · refine lv_aload_n hx hb dX1_add_76 rfl (lv_at hl 0 rfl) ?_
      refine lv_dup hx hb dX1_add_77 rfl ?_
      refine va_get (D := (dC, dI)) (ci := 1) (v := .int (iI T.2.1)) (C := RX1) (T := TX1) (N := 6) hx hb hts inX1 hown hK hP 0 rfl rfl 1 (by decide) (hts _ wm_151) (fun _ h9 => h9) rfl dX1_add_78 ?_
      refine lv_iconst (v := iI 1) hx hb dX1_add_81 rfl ?_
      refine z_add hx hb dX1_add_82 ?_
      refine va_put (D := (dC, dI)) (ci := 1) (v := .int (iI (T.2.1 + 1))) (ty := .int) (C := RX1) (T := TX1) (N := 6) hx hb hts inX1 tyX1 tyX1_ok nmX1 hown hK hP hD hS 0 rfl rfl 1 (by decide) (hts _ wm_151) (fun _ h9 => h9) rfl (by decide +kernel) rfl rfl (Nat.le_of_ble_eq_true rfl) dX1_add_83 (fun H locs hP hD hS => ?_)
      have hP : va_P (dC, dI) vwCl ([(tr, oI 1 [.ref kp, .int (iI (T.2.1 + 1)), .long (lI T.2.2.1), .int (iI T.2.2.2.1), .int (iI T.2.2.2.2.1), .int (iI T.2.2.2.2.2)]), (kp, aI ck 2000 T.1)]) H := hP
      have hD : va_D A ([(tr, oI 1 [.ref kp, .int (iI (T.2.1 + 1)), .long (lI T.2.2.1), .int (iI T.2.2.2.1), .int (iI T.2.2.2.2.1), .int (iI T.2.2.2.2.2)]), (kp, aI ck 2000 T.1)]) := hD
      refine lv_aload_n hx hb dX1_add_86 rfl (lv_at hl 0 rfl) ?_
      refine lv_iload_n hx hb dX1_add_87 rfl (lv_at hl 1 rfl) ?_
      refine va_put (D := (dC, dI)) (ci := 1) (v := .int (iI x)) (ty := .int) (C := RX1) (T := TX1) (N := 6) hx hb hts inX1 tyX1 tyX1_ok nmX1 hown hK hP hD hS 0 rfl rfl 3 (by decide) (hts _ wm_153) (fun _ h9 => h9) rfl (by decide +kernel) rfl rfl (Nat.le_of_ble_eq_true rfl) dX1_add_88 (fun H locs hP hD hS => ?_)
      have hP : va_P (dC, dI) vwCl ([(tr, oI 1 [.ref kp, .int (iI (T.2.1 + 1)), .long (lI T.2.2.1), .int (iI x), .int (iI T.2.2.2.2.1), .int (iI T.2.2.2.2.2)]), (kp, aI ck 2000 T.1)]) H := hP
      have hD : va_D A ([(tr, oI 1 [.ref kp, .int (iI (T.2.1 + 1)), .long (lI T.2.2.1), .int (iI x), .int (iI T.2.2.2.2.1), .int (iI T.2.2.2.2.2)]), (kp, aI ck 2000 T.1)]) := hD
      refine lv_aload_n hx hb dX1_add_91 rfl (lv_at hl 0 rfl) ?_
      refine lv_iload_n hx hb dX1_add_92 rfl (lv_at hl 2 rfl) ?_
      refine va_put (D := (dC, dI)) (ci := 1) (v := .int (iI y)) (ty := .int) (C := RX1) (T := TX1) (N := 6) hx hb hts inX1 tyX1 tyX1_ok nmX1 hown hK hP hD hS 0 rfl rfl 4 (by decide) (hts _ wm_154) (fun _ h9 => h9) rfl (by decide +kernel) rfl rfl (Nat.le_of_ble_eq_true rfl) dX1_add_93 (fun H locs hP hD hS => ?_)
      have hP : va_P (dC, dI) vwCl ([(tr, oI 1 [.ref kp, .int (iI (T.2.1 + 1)), .long (lI T.2.2.1), .int (iI x), .int (iI y), .int (iI T.2.2.2.2.2)]), (kp, aI ck 2000 T.1)]) H := hP
      have hD : va_D A ([(tr, oI 1 [.ref kp, .int (iI (T.2.1 + 1)), .long (lI T.2.2.1), .int (iI x), .int (iI y), .int (iI T.2.2.2.2.2)]), (kp, aI ck 2000 T.1)]) := hD
      refine lv_aload_n hx hb dX1_add_96 rfl (lv_at hl 0 rfl) ?_
      refine lv_iload_n hx hb dX1_add_97 rfl (lv_at hl 3 rfl) ?_
      refine va_put (D := (dC, dI)) (ci := 1) (v := .int (iI z)) (ty := .int) (C := RX1) (T := TX1) (N := 6) hx hb hts inX1 tyX1 tyX1_ok nmX1 hown hK hP hD hS 0 rfl rfl 5 (by decide) (hts _ wm_155) (fun _ h9 => h9) rfl (by decide +kernel) rfl rfl (Nat.le_of_ble_eq_true rfl) dX1_add_98 (fun H locs hP hD hS => ?_)
      have hP : va_P (dC, dI) vwCl ([(tr, oI 1 [.ref kp, .int (iI (T.2.1 + 1)), .long (lI T.2.2.1), .int (iI x), .int (iI y), .int (iI z)]), (kp, aI ck 2000 T.1)]) H := hP
      have hD : va_D A ([(tr, oI 1 [.ref kp, .int (iI (T.2.1 + 1)), .long (lI T.2.2.1), .int (iI x), .int (iI y), .int (iI z)]), (kp, aI ck 2000 T.1)]) := hD
      subst hAe
      rw [show tkA x y z T = (T.1, T.2.1 + 1, T.2.2.1, x, y, z) from by first | (exfalso; omega) | (unfold tkA; rw [if_pos (show T.2.1 < 2000 by omega), if_pos (show 0 < T.2.1 by omega)]) | (unfold tkA; rw [if_pos (show T.2.1 < 2000 by omega), if_neg (show ¬ 0 < T.2.1 by omega)]) | (unfold tkA; rw [if_neg (show ¬ T.2.1 < 2000 by omega), if_pos (show 0 < T.2.1 by omega)]) | (unfold tkA; rw [if_neg (show ¬ T.2.1 < 2000 by omega), if_neg (show ¬ 0 < T.2.1 by omega)])]
      exact z_vret hx hb hr hlocks hP hK hD hS (trivial) dX1_add_101
    · refine lv_aload_n hx hb dX1_add_56 rfl (lv_at hl 0 rfl) ?_
      refine va_get (D := (dC, dI)) (ci := 1) (v := .ref kp) (C := RX1) (T := TX1) (N := 6) hx hb hts inX1 hown hK hP 0 rfl rfl 0 (by decide) (hts _ wm_150) (fun _ h9 => h9) rfl dX1_add_57 ?_
      refine lv_aload_n hx hb dX1_add_60 rfl (lv_at hl 0 rfl) ?_
      refine va_get (D := (dC, dI)) (ci := 1) (v := .int (iI T.2.1)) (C := RX1) (T := TX1) (N := 6) hx hb hts inX1 hown hK hP 0 rfl rfl 1 (by decide) (hts _ wm_151) (fun _ h9 => h9) rfl dX1_add_61 ?_
      refine lv_iload_n hx hb dX1_add_64 rfl (lv_at hl 3 rfl) ?_
      refine lv_bipush (v := iI 20) hx hb dX1_add_65 (by decide) ?_
      refine z_mul hx hb dX1_add_67 ?_
      refine lv_iload_n hx hb dX1_add_68 rfl (lv_at hl 2 rfl) ?_
      refine z_add hx hb dX1_add_69 ?_
      refine lv_bipush (v := iI 20) hx hb dX1_add_70 (by decide) ?_
      refine z_mul hx hb dX1_add_72 ?_
      refine lv_iload_n hx hb dX1_add_73 rfl (lv_at hl 1 rfl) ?_
      refine z_add hx hb dX1_add_74 ?_
      refine z_iast (f := T.1) (i := T.2.1) (x := (((z * 20) + y) * 20) + x) hx hb hK hP hD hS 1 0 rfl rfl (by omega) (by omega) dX1_add_75 (fun H locs hP hD hS => ?_)
      have hP : va_P (dC, dI) vwCl ([(tr, oI 1 [.ref kp, .int (iI T.2.1), .long (lI T.2.2.1), .int (iI T.2.2.2.1), .int (iI T.2.2.2.2.1), .int (iI T.2.2.2.2.2)]), (kp, aI ck 2000 (uI T.1 (T.2.1).toNat ((((z * 20) + y) * 20) + x)))]) H := hP
      have hD : va_D A ([(tr, oI 1 [.ref kp, .int (iI T.2.1), .long (lI T.2.2.1), .int (iI T.2.2.2.1), .int (iI T.2.2.2.2.1), .int (iI T.2.2.2.2.2)]), (kp, aI ck 2000 (uI T.1 (T.2.1).toNat ((((z * 20) + y) * 20) + x)))]) := hD
      refine lv_aload_n hx hb dX1_add_76 rfl (lv_at hl 0 rfl) ?_
      refine lv_dup hx hb dX1_add_77 rfl ?_
      refine va_get (D := (dC, dI)) (ci := 1) (v := .int (iI T.2.1)) (C := RX1) (T := TX1) (N := 6) hx hb hts inX1 hown hK hP 0 rfl rfl 1 (by decide) (hts _ wm_151) (fun _ h9 => h9) rfl dX1_add_78 ?_
      refine lv_iconst (v := iI 1) hx hb dX1_add_81 rfl ?_
      refine z_add hx hb dX1_add_82 ?_
      refine va_put (D := (dC, dI)) (ci := 1) (v := .int (iI (T.2.1 + 1))) (ty := .int) (C := RX1) (T := TX1) (N := 6) hx hb hts inX1 tyX1 tyX1_ok nmX1 hown hK hP hD hS 0 rfl rfl 1 (by decide) (hts _ wm_151) (fun _ h9 => h9) rfl (by decide +kernel) rfl rfl (Nat.le_of_ble_eq_true rfl) dX1_add_83 (fun H locs hP hD hS => ?_)
      have hP : va_P (dC, dI) vwCl ([(tr, oI 1 [.ref kp, .int (iI (T.2.1 + 1)), .long (lI T.2.2.1), .int (iI T.2.2.2.1), .int (iI T.2.2.2.2.1), .int (iI T.2.2.2.2.2)]), (kp, aI ck 2000 (uI T.1 (T.2.1).toNat ((((z * 20) + y) * 20) + x)))]) H := hP
      have hD : va_D A ([(tr, oI 1 [.ref kp, .int (iI (T.2.1 + 1)), .long (lI T.2.2.1), .int (iI T.2.2.2.1), .int (iI T.2.2.2.2.1), .int (iI T.2.2.2.2.2)]), (kp, aI ck 2000 (uI T.1 (T.2.1).toNat ((((z * 20) + y) * 20) + x)))]) := hD
      refine lv_aload_n hx hb dX1_add_86 rfl (lv_at hl 0 rfl) ?_
      refine lv_iload_n hx hb dX1_add_87 rfl (lv_at hl 1 rfl) ?_
      refine va_put (D := (dC, dI)) (ci := 1) (v := .int (iI x)) (ty := .int) (C := RX1) (T := TX1) (N := 6) hx hb hts inX1 tyX1 tyX1_ok nmX1 hown hK hP hD hS 0 rfl rfl 3 (by decide) (hts _ wm_153) (fun _ h9 => h9) rfl (by decide +kernel) rfl rfl (Nat.le_of_ble_eq_true rfl) dX1_add_88 (fun H locs hP hD hS => ?_)
      have hP : va_P (dC, dI) vwCl ([(tr, oI 1 [.ref kp, .int (iI (T.2.1 + 1)), .long (lI T.2.2.1), .int (iI x), .int (iI T.2.2.2.2.1), .int (iI T.2.2.2.2.2)]), (kp, aI ck 2000 (uI T.1 (T.2.1).toNat ((((z * 20) + y) * 20) + x)))]) H := hP
      have hD : va_D A ([(tr, oI 1 [.ref kp, .int (iI (T.2.1 + 1)), .long (lI T.2.2.1), .int (iI x), .int (iI T.2.2.2.2.1), .int (iI T.2.2.2.2.2)]), (kp, aI ck 2000 (uI T.1 (T.2.1).toNat ((((z * 20) + y) * 20) + x)))]) := hD
      refine lv_aload_n hx hb dX1_add_91 rfl (lv_at hl 0 rfl) ?_
      refine lv_iload_n hx hb dX1_add_92 rfl (lv_at hl 2 rfl) ?_
      refine va_put (D := (dC, dI)) (ci := 1) (v := .int (iI y)) (ty := .int) (C := RX1) (T := TX1) (N := 6) hx hb hts inX1 tyX1 tyX1_ok nmX1 hown hK hP hD hS 0 rfl rfl 4 (by decide) (hts _ wm_154) (fun _ h9 => h9) rfl (by decide +kernel) rfl rfl (Nat.le_of_ble_eq_true rfl) dX1_add_93 (fun H locs hP hD hS => ?_)
      have hP : va_P (dC, dI) vwCl ([(tr, oI 1 [.ref kp, .int (iI (T.2.1 + 1)), .long (lI T.2.2.1), .int (iI x), .int (iI y), .int (iI T.2.2.2.2.2)]), (kp, aI ck 2000 (uI T.1 (T.2.1).toNat ((((z * 20) + y) * 20) + x)))]) H := hP
      have hD : va_D A ([(tr, oI 1 [.ref kp, .int (iI (T.2.1 + 1)), .long (lI T.2.2.1), .int (iI x), .int (iI y), .int (iI T.2.2.2.2.2)]), (kp, aI ck 2000 (uI T.1 (T.2.1).toNat ((((z * 20) + y) * 20) + x)))]) := hD
      refine lv_aload_n hx hb dX1_add_96 rfl (lv_at hl 0 rfl) ?_
      refine lv_iload_n hx hb dX1_add_97 rfl (lv_at hl 3 rfl) ?_
      refine va_put (D := (dC, dI)) (ci := 1) (v := .int (iI z)) (ty := .int) (C := RX1) (T := TX1) (N := 6) hx hb hts inX1 tyX1 tyX1_ok nmX1 hown hK hP hD hS 0 rfl rfl 5 (by decide) (hts _ wm_155) (fun _ h9 => h9) rfl (by decide +kernel) rfl rfl (Nat.le_of_ble_eq_true rfl) dX1_add_98 (fun H locs hP hD hS => ?_)
      have hP : va_P (dC, dI) vwCl ([(tr, oI 1 [.ref kp, .int (iI (T.2.1 + 1)), .long (lI T.2.2.1), .int (iI x), .int (iI y), .int (iI z)]), (kp, aI ck 2000 (uI T.1 (T.2.1).toNat ((((z * 20) + y) * 20) + x)))]) H := hP
      have hD : va_D A ([(tr, oI 1 [.ref kp, .int (iI (T.2.1 + 1)), .long (lI T.2.2.1), .int (iI x), .int (iI y), .int (iI z)]), (kp, aI ck 2000 (uI T.1 (T.2.1).toNat ((((z * 20) + y) * 20) + x)))]) := hD
      subst hAe
      rw [show tkA x y z T = (uI T.1 (T.2.1).toNat ((((z * 20) + y) * 20) + x), T.2.1 + 1, T.2.2.1, x, y, z) from by first | (exfalso; omega) | (unfold tkA; rw [if_pos (show T.2.1 < 2000 by omega), if_pos (show 0 < T.2.1 by omega)]) | (unfold tkA; rw [if_pos (show T.2.1 < 2000 by omega), if_neg (show ¬ 0 < T.2.1 by omega)]) | (unfold tkA; rw [if_neg (show ¬ T.2.1 < 2000 by omega), if_pos (show 0 < T.2.1 by omega)]) | (unfold tkA; rw [if_neg (show ¬ T.2.1 < 2000 by omega), if_neg (show ¬ 0 < T.2.1 by omega)])]
      exact z_vret hx hb hr hlocks hP hK hD hS (trivial) dX1_add_101
  · refine lv_aload_n hx hb dX1_add_7 rfl (lv_at hl 0 rfl) ?_
    refine lv_dup hx hb dX1_add_8 rfl ?_
    refine va_get (D := (dC, dI)) (ci := 1) (v := .long (lI T.2.2.1)) (C := RX1) (T := TX1) (N := 6) hx hb hts inX1 hown hK hP 0 rfl rfl 2 (by decide) (hts _ wm_152) (fun _ h9 => h9) rfl dX1_add_9 ?_
    refine lv_iload_n hx hb dX1_add_12 rfl (lv_at hl 1 rfl) ?_
    refine lv_aload_n hx hb dX1_add_13 rfl (lv_at hl 0 rfl) ?_
    refine va_get (D := (dC, dI)) (ci := 1) (v := .int (iI T.2.2.2.1)) (C := RX1) (T := TX1) (N := 6) hx hb hts inX1 hown hK hP 0 rfl rfl 3 (by decide) (hts _ wm_153) (fun _ h9 => h9) rfl dX1_add_14 ?_
    refine z_sub hx hb dX1_add_17 ?_
    refine z_abs hx hb (hml.trans hl.1.symm) hown (hts _ wm_324) (hts _ wm_325) (hts _ wm_110) (hts _ wm_326) (Nat.le_of_ble_eq_true rfl) (Nat.le_of_ble_eq_true rfl) (Nat.le_of_ble_eq_true rfl) (Nat.le_of_ble_eq_true rfl) dX1_add_18 (by omega) ?_
    refine lv_iload_n hx hb dX1_add_21 rfl (lv_at hl 2 rfl) ?_
    refine lv_aload_n hx hb dX1_add_22 rfl (lv_at hl 0 rfl) ?_
    refine va_get (D := (dC, dI)) (ci := 1) (v := .int (iI T.2.2.2.2.1)) (C := RX1) (T := TX1) (N := 6) hx hb hts inX1 hown hK hP 0 rfl rfl 4 (by decide) (hts _ wm_154) (fun _ h9 => h9) rfl dX1_add_23 ?_
    refine z_sub hx hb dX1_add_26 ?_
    refine z_abs hx hb (hml.trans hl.1.symm) hown (hts _ wm_324) (hts _ wm_325) (hts _ wm_110) (hts _ wm_326) (Nat.le_of_ble_eq_true rfl) (Nat.le_of_ble_eq_true rfl) (Nat.le_of_ble_eq_true rfl) (Nat.le_of_ble_eq_true rfl) dX1_add_27 (by omega) ?_
    refine z_add hx hb dX1_add_30 ?_
    refine lv_iload_n hx hb dX1_add_31 rfl (lv_at hl 3 rfl) ?_
    refine lv_aload_n hx hb dX1_add_32 rfl (lv_at hl 0 rfl) ?_
    refine va_get (D := (dC, dI)) (ci := 1) (v := .int (iI T.2.2.2.2.2)) (C := RX1) (T := TX1) (N := 6) hx hb hts inX1 hown hK hP 0 rfl rfl 5 (by decide) (hts _ wm_155) (fun _ h9 => h9) rfl dX1_add_33 ?_
    refine z_sub hx hb dX1_add_36 ?_
    refine z_abs hx hb (hml.trans hl.1.symm) hown (hts _ wm_324) (hts _ wm_325) (hts _ wm_110) (hts _ wm_326) (Nat.le_of_ble_eq_true rfl) (Nat.le_of_ble_eq_true rfl) (Nat.le_of_ble_eq_true rfl) (Nat.le_of_ble_eq_true rfl) dX1_add_37 (by omega) ?_
    refine z_add hx hb dX1_add_40 ?_
    refine z_i2l hx hb dX1_add_41 (by
      have e1 := zab_le (a := x - T.2.2.2.1) (b := 20) (by omega) (by omega)
      have e2 := zab_le (a := y - T.2.2.2.2.1) (b := 20) (by omega) (by omega)
      have e3 := zab_le (a := z - T.2.2.2.2.2) (b := 1000) (by omega) (by omega)
      omega) ?_
    refine z_ladd hx hb dX1_add_42 ?_
    refine va_put (D := (dC, dI)) (ci := 1) (v := .long (lI (T.2.2.1 + (((zab (x - T.2.2.2.1)) + (zab (y - T.2.2.2.2.1))) + (zab (z - T.2.2.2.2.2)))))) (ty := .long) (C := RX1) (T := TX1) (N := 6) hx hb hts inX1 tyX1 tyX1_ok nmX1 hown hK hP hD hS 0 rfl rfl 2 (by decide) (hts _ wm_152) (fun _ h9 => h9) rfl (by decide +kernel) rfl rfl (Nat.le_of_ble_eq_true rfl) dX1_add_43 (fun H locs hP hD hS => ?_)
    have hP : va_P (dC, dI) vwCl ([(tr, oI 1 [.ref kp, .int (iI T.2.1), .long (lI (T.2.2.1 + (((zab (x - T.2.2.2.1)) + (zab (y - T.2.2.2.2.1))) + (zab (z - T.2.2.2.2.2))))), .int (iI T.2.2.2.1), .int (iI T.2.2.2.2.1), .int (iI T.2.2.2.2.2)]), (kp, aI ck 2000 T.1)]) H := hP
    have hD : va_D A ([(tr, oI 1 [.ref kp, .int (iI T.2.1), .long (lI (T.2.2.1 + (((zab (x - T.2.2.2.1)) + (zab (y - T.2.2.2.2.1))) + (zab (z - T.2.2.2.2.2))))), .int (iI T.2.2.2.1), .int (iI T.2.2.2.2.1), .int (iI T.2.2.2.2.2)]), (kp, aI ck 2000 T.1)]) := hD
    refine lv_aload_n hx hb dX1_add_46 rfl (lv_at hl 0 rfl) ?_
    refine va_get (D := (dC, dI)) (ci := 1) (v := .int (iI T.2.1)) (C := RX1) (T := TX1) (N := 6) hx hb hts inX1 hown hK hP 0 rfl rfl 1 (by decide) (hts _ wm_151) (fun _ h9 => h9) rfl dX1_add_47 ?_
    refine lv_sipush (v := iI 2000) hx hb dX1_add_50 (by decide) ?_
    refine z_icmp_ge (tgt := 76) hx hb dX1_add_53 (by decide) (by omega) (by omega) (fun c53 => ?_) (fun c53 => ?_)
    · refine lv_aload_n hx hb dX1_add_76 rfl (lv_at hl 0 rfl) ?_
      refine lv_dup hx hb dX1_add_77 rfl ?_
      refine va_get (D := (dC, dI)) (ci := 1) (v := .int (iI T.2.1)) (C := RX1) (T := TX1) (N := 6) hx hb hts inX1 hown hK hP 0 rfl rfl 1 (by decide) (hts _ wm_151) (fun _ h9 => h9) rfl dX1_add_78 ?_
      refine lv_iconst (v := iI 1) hx hb dX1_add_81 rfl ?_
      refine z_add hx hb dX1_add_82 ?_
      refine va_put (D := (dC, dI)) (ci := 1) (v := .int (iI (T.2.1 + 1))) (ty := .int) (C := RX1) (T := TX1) (N := 6) hx hb hts inX1 tyX1 tyX1_ok nmX1 hown hK hP hD hS 0 rfl rfl 1 (by decide) (hts _ wm_151) (fun _ h9 => h9) rfl (by decide +kernel) rfl rfl (Nat.le_of_ble_eq_true rfl) dX1_add_83 (fun H locs hP hD hS => ?_)
      have hP : va_P (dC, dI) vwCl ([(tr, oI 1 [.ref kp, .int (iI (T.2.1 + 1)), .long (lI (T.2.2.1 + (((zab (x - T.2.2.2.1)) + (zab (y - T.2.2.2.2.1))) + (zab (z - T.2.2.2.2.2))))), .int (iI T.2.2.2.1), .int (iI T.2.2.2.2.1), .int (iI T.2.2.2.2.2)]), (kp, aI ck 2000 T.1)]) H := hP
      have hD : va_D A ([(tr, oI 1 [.ref kp, .int (iI (T.2.1 + 1)), .long (lI (T.2.2.1 + (((zab (x - T.2.2.2.1)) + (zab (y - T.2.2.2.2.1))) + (zab (z - T.2.2.2.2.2))))), .int (iI T.2.2.2.1), .int (iI T.2.2.2.2.1), .int (iI T.2.2.2.2.2)]), (kp, aI ck 2000 T.1)]) := hD
      refine lv_aload_n hx hb dX1_add_86 rfl (lv_at hl 0 rfl) ?_
      refine lv_iload_n hx hb dX1_add_87 rfl (lv_at hl 1 rfl) ?_
      refine va_put (D := (dC, dI)) (ci := 1) (v := .int (iI x)) (ty := .int) (C := RX1) (T := TX1) (N := 6) hx hb hts inX1 tyX1 tyX1_ok nmX1 hown hK hP hD hS 0 rfl rfl 3 (by decide) (hts _ wm_153) (fun _ h9 => h9) rfl (by decide +kernel) rfl rfl (Nat.le_of_ble_eq_true rfl) dX1_add_88 (fun H locs hP hD hS => ?_)
      have hP : va_P (dC, dI) vwCl ([(tr, oI 1 [.ref kp, .int (iI (T.2.1 + 1)), .long (lI (T.2.2.1 + (((zab (x - T.2.2.2.1)) + (zab (y - T.2.2.2.2.1))) + (zab (z - T.2.2.2.2.2))))), .int (iI x), .int (iI T.2.2.2.2.1), .int (iI T.2.2.2.2.2)]), (kp, aI ck 2000 T.1)]) H := hP
      have hD : va_D A ([(tr, oI 1 [.ref kp, .int (iI (T.2.1 + 1)), .long (lI (T.2.2.1 + (((zab (x - T.2.2.2.1)) + (zab (y - T.2.2.2.2.1))) + (zab (z - T.2.2.2.2.2))))), .int (iI x), .int (iI T.2.2.2.2.1), .int (iI T.2.2.2.2.2)]), (kp, aI ck 2000 T.1)]) := hD
      refine lv_aload_n hx hb dX1_add_91 rfl (lv_at hl 0 rfl) ?_
      refine lv_iload_n hx hb dX1_add_92 rfl (lv_at hl 2 rfl) ?_
      refine va_put (D := (dC, dI)) (ci := 1) (v := .int (iI y)) (ty := .int) (C := RX1) (T := TX1) (N := 6) hx hb hts inX1 tyX1 tyX1_ok nmX1 hown hK hP hD hS 0 rfl rfl 4 (by decide) (hts _ wm_154) (fun _ h9 => h9) rfl (by decide +kernel) rfl rfl (Nat.le_of_ble_eq_true rfl) dX1_add_93 (fun H locs hP hD hS => ?_)
      have hP : va_P (dC, dI) vwCl ([(tr, oI 1 [.ref kp, .int (iI (T.2.1 + 1)), .long (lI (T.2.2.1 + (((zab (x - T.2.2.2.1)) + (zab (y - T.2.2.2.2.1))) + (zab (z - T.2.2.2.2.2))))), .int (iI x), .int (iI y), .int (iI T.2.2.2.2.2)]), (kp, aI ck 2000 T.1)]) H := hP
      have hD : va_D A ([(tr, oI 1 [.ref kp, .int (iI (T.2.1 + 1)), .long (lI (T.2.2.1 + (((zab (x - T.2.2.2.1)) + (zab (y - T.2.2.2.2.1))) + (zab (z - T.2.2.2.2.2))))), .int (iI x), .int (iI y), .int (iI T.2.2.2.2.2)]), (kp, aI ck 2000 T.1)]) := hD
      refine lv_aload_n hx hb dX1_add_96 rfl (lv_at hl 0 rfl) ?_
      refine lv_iload_n hx hb dX1_add_97 rfl (lv_at hl 3 rfl) ?_
      refine va_put (D := (dC, dI)) (ci := 1) (v := .int (iI z)) (ty := .int) (C := RX1) (T := TX1) (N := 6) hx hb hts inX1 tyX1 tyX1_ok nmX1 hown hK hP hD hS 0 rfl rfl 5 (by decide) (hts _ wm_155) (fun _ h9 => h9) rfl (by decide +kernel) rfl rfl (Nat.le_of_ble_eq_true rfl) dX1_add_98 (fun H locs hP hD hS => ?_)
      have hP : va_P (dC, dI) vwCl ([(tr, oI 1 [.ref kp, .int (iI (T.2.1 + 1)), .long (lI (T.2.2.1 + (((zab (x - T.2.2.2.1)) + (zab (y - T.2.2.2.2.1))) + (zab (z - T.2.2.2.2.2))))), .int (iI x), .int (iI y), .int (iI z)]), (kp, aI ck 2000 T.1)]) H := hP
      have hD : va_D A ([(tr, oI 1 [.ref kp, .int (iI (T.2.1 + 1)), .long (lI (T.2.2.1 + (((zab (x - T.2.2.2.1)) + (zab (y - T.2.2.2.2.1))) + (zab (z - T.2.2.2.2.2))))), .int (iI x), .int (iI y), .int (iI z)]), (kp, aI ck 2000 T.1)]) := hD
      subst hAe
      rw [show tkA x y z T = (T.1, T.2.1 + 1, T.2.2.1 + (((zab (x - T.2.2.2.1)) + (zab (y - T.2.2.2.2.1))) + (zab (z - T.2.2.2.2.2))), x, y, z) from by first | (exfalso; omega) | (unfold tkA; rw [if_pos (show T.2.1 < 2000 by omega), if_pos (show 0 < T.2.1 by omega)]) | (unfold tkA; rw [if_pos (show T.2.1 < 2000 by omega), if_neg (show ¬ 0 < T.2.1 by omega)]) | (unfold tkA; rw [if_neg (show ¬ T.2.1 < 2000 by omega), if_pos (show 0 < T.2.1 by omega)]) | (unfold tkA; rw [if_neg (show ¬ T.2.1 < 2000 by omega), if_neg (show ¬ 0 < T.2.1 by omega)])]
      exact z_vret hx hb hr hlocks hP hK hD hS (trivial) dX1_add_101
    · refine lv_aload_n hx hb dX1_add_56 rfl (lv_at hl 0 rfl) ?_
      refine va_get (D := (dC, dI)) (ci := 1) (v := .ref kp) (C := RX1) (T := TX1) (N := 6) hx hb hts inX1 hown hK hP 0 rfl rfl 0 (by decide) (hts _ wm_150) (fun _ h9 => h9) rfl dX1_add_57 ?_
      refine lv_aload_n hx hb dX1_add_60 rfl (lv_at hl 0 rfl) ?_
      refine va_get (D := (dC, dI)) (ci := 1) (v := .int (iI T.2.1)) (C := RX1) (T := TX1) (N := 6) hx hb hts inX1 hown hK hP 0 rfl rfl 1 (by decide) (hts _ wm_151) (fun _ h9 => h9) rfl dX1_add_61 ?_
      refine lv_iload_n hx hb dX1_add_64 rfl (lv_at hl 3 rfl) ?_
      refine lv_bipush (v := iI 20) hx hb dX1_add_65 (by decide) ?_
      refine z_mul hx hb dX1_add_67 ?_
      refine lv_iload_n hx hb dX1_add_68 rfl (lv_at hl 2 rfl) ?_
      refine z_add hx hb dX1_add_69 ?_
      refine lv_bipush (v := iI 20) hx hb dX1_add_70 (by decide) ?_
      refine z_mul hx hb dX1_add_72 ?_
      refine lv_iload_n hx hb dX1_add_73 rfl (lv_at hl 1 rfl) ?_
      refine z_add hx hb dX1_add_74 ?_
      refine z_iast (f := T.1) (i := T.2.1) (x := (((z * 20) + y) * 20) + x) hx hb hK hP hD hS 1 0 rfl rfl (by omega) (by omega) dX1_add_75 (fun H locs hP hD hS => ?_)
      have hP : va_P (dC, dI) vwCl ([(tr, oI 1 [.ref kp, .int (iI T.2.1), .long (lI (T.2.2.1 + (((zab (x - T.2.2.2.1)) + (zab (y - T.2.2.2.2.1))) + (zab (z - T.2.2.2.2.2))))), .int (iI T.2.2.2.1), .int (iI T.2.2.2.2.1), .int (iI T.2.2.2.2.2)]), (kp, aI ck 2000 (uI T.1 (T.2.1).toNat ((((z * 20) + y) * 20) + x)))]) H := hP
      have hD : va_D A ([(tr, oI 1 [.ref kp, .int (iI T.2.1), .long (lI (T.2.2.1 + (((zab (x - T.2.2.2.1)) + (zab (y - T.2.2.2.2.1))) + (zab (z - T.2.2.2.2.2))))), .int (iI T.2.2.2.1), .int (iI T.2.2.2.2.1), .int (iI T.2.2.2.2.2)]), (kp, aI ck 2000 (uI T.1 (T.2.1).toNat ((((z * 20) + y) * 20) + x)))]) := hD
      refine lv_aload_n hx hb dX1_add_76 rfl (lv_at hl 0 rfl) ?_
      refine lv_dup hx hb dX1_add_77 rfl ?_
      refine va_get (D := (dC, dI)) (ci := 1) (v := .int (iI T.2.1)) (C := RX1) (T := TX1) (N := 6) hx hb hts inX1 hown hK hP 0 rfl rfl 1 (by decide) (hts _ wm_151) (fun _ h9 => h9) rfl dX1_add_78 ?_
      refine lv_iconst (v := iI 1) hx hb dX1_add_81 rfl ?_
      refine z_add hx hb dX1_add_82 ?_
      refine va_put (D := (dC, dI)) (ci := 1) (v := .int (iI (T.2.1 + 1))) (ty := .int) (C := RX1) (T := TX1) (N := 6) hx hb hts inX1 tyX1 tyX1_ok nmX1 hown hK hP hD hS 0 rfl rfl 1 (by decide) (hts _ wm_151) (fun _ h9 => h9) rfl (by decide +kernel) rfl rfl (Nat.le_of_ble_eq_true rfl) dX1_add_83 (fun H locs hP hD hS => ?_)
      have hP : va_P (dC, dI) vwCl ([(tr, oI 1 [.ref kp, .int (iI (T.2.1 + 1)), .long (lI (T.2.2.1 + (((zab (x - T.2.2.2.1)) + (zab (y - T.2.2.2.2.1))) + (zab (z - T.2.2.2.2.2))))), .int (iI T.2.2.2.1), .int (iI T.2.2.2.2.1), .int (iI T.2.2.2.2.2)]), (kp, aI ck 2000 (uI T.1 (T.2.1).toNat ((((z * 20) + y) * 20) + x)))]) H := hP
      have hD : va_D A ([(tr, oI 1 [.ref kp, .int (iI (T.2.1 + 1)), .long (lI (T.2.2.1 + (((zab (x - T.2.2.2.1)) + (zab (y - T.2.2.2.2.1))) + (zab (z - T.2.2.2.2.2))))), .int (iI T.2.2.2.1), .int (iI T.2.2.2.2.1), .int (iI T.2.2.2.2.2)]), (kp, aI ck 2000 (uI T.1 (T.2.1).toNat ((((z * 20) + y) * 20) + x)))]) := hD
      refine lv_aload_n hx hb dX1_add_86 rfl (lv_at hl 0 rfl) ?_
      refine lv_iload_n hx hb dX1_add_87 rfl (lv_at hl 1 rfl) ?_
      refine va_put (D := (dC, dI)) (ci := 1) (v := .int (iI x)) (ty := .int) (C := RX1) (T := TX1) (N := 6) hx hb hts inX1 tyX1 tyX1_ok nmX1 hown hK hP hD hS 0 rfl rfl 3 (by decide) (hts _ wm_153) (fun _ h9 => h9) rfl (by decide +kernel) rfl rfl (Nat.le_of_ble_eq_true rfl) dX1_add_88 (fun H locs hP hD hS => ?_)
      have hP : va_P (dC, dI) vwCl ([(tr, oI 1 [.ref kp, .int (iI (T.2.1 + 1)), .long (lI (T.2.2.1 + (((zab (x - T.2.2.2.1)) + (zab (y - T.2.2.2.2.1))) + (zab (z - T.2.2.2.2.2))))), .int (iI x), .int (iI T.2.2.2.2.1), .int (iI T.2.2.2.2.2)]), (kp, aI ck 2000 (uI T.1 (T.2.1).toNat ((((z * 20) + y) * 20) + x)))]) H := hP
      have hD : va_D A ([(tr, oI 1 [.ref kp, .int (iI (T.2.1 + 1)), .long (lI (T.2.2.1 + (((zab (x - T.2.2.2.1)) + (zab (y - T.2.2.2.2.1))) + (zab (z - T.2.2.2.2.2))))), .int (iI x), .int (iI T.2.2.2.2.1), .int (iI T.2.2.2.2.2)]), (kp, aI ck 2000 (uI T.1 (T.2.1).toNat ((((z * 20) + y) * 20) + x)))]) := hD
      refine lv_aload_n hx hb dX1_add_91 rfl (lv_at hl 0 rfl) ?_
      refine lv_iload_n hx hb dX1_add_92 rfl (lv_at hl 2 rfl) ?_
      refine va_put (D := (dC, dI)) (ci := 1) (v := .int (iI y)) (ty := .int) (C := RX1) (T := TX1) (N := 6) hx hb hts inX1 tyX1 tyX1_ok nmX1 hown hK hP hD hS 0 rfl rfl 4 (by decide) (hts _ wm_154) (fun _ h9 => h9) rfl (by decide +kernel) rfl rfl (Nat.le_of_ble_eq_true rfl) dX1_add_93 (fun H locs hP hD hS => ?_)
      have hP : va_P (dC, dI) vwCl ([(tr, oI 1 [.ref kp, .int (iI (T.2.1 + 1)), .long (lI (T.2.2.1 + (((zab (x - T.2.2.2.1)) + (zab (y - T.2.2.2.2.1))) + (zab (z - T.2.2.2.2.2))))), .int (iI x), .int (iI y), .int (iI T.2.2.2.2.2)]), (kp, aI ck 2000 (uI T.1 (T.2.1).toNat ((((z * 20) + y) * 20) + x)))]) H := hP
      have hD : va_D A ([(tr, oI 1 [.ref kp, .int (iI (T.2.1 + 1)), .long (lI (T.2.2.1 + (((zab (x - T.2.2.2.1)) + (zab (y - T.2.2.2.2.1))) + (zab (z - T.2.2.2.2.2))))), .int (iI x), .int (iI y), .int (iI T.2.2.2.2.2)]), (kp, aI ck 2000 (uI T.1 (T.2.1).toNat ((((z * 20) + y) * 20) + x)))]) := hD
      refine lv_aload_n hx hb dX1_add_96 rfl (lv_at hl 0 rfl) ?_
      refine lv_iload_n hx hb dX1_add_97 rfl (lv_at hl 3 rfl) ?_
      refine va_put (D := (dC, dI)) (ci := 1) (v := .int (iI z)) (ty := .int) (C := RX1) (T := TX1) (N := 6) hx hb hts inX1 tyX1 tyX1_ok nmX1 hown hK hP hD hS 0 rfl rfl 5 (by decide) (hts _ wm_155) (fun _ h9 => h9) rfl (by decide +kernel) rfl rfl (Nat.le_of_ble_eq_true rfl) dX1_add_98 (fun H locs hP hD hS => ?_)
      have hP : va_P (dC, dI) vwCl ([(tr, oI 1 [.ref kp, .int (iI (T.2.1 + 1)), .long (lI (T.2.2.1 + (((zab (x - T.2.2.2.1)) + (zab (y - T.2.2.2.2.1))) + (zab (z - T.2.2.2.2.2))))), .int (iI x), .int (iI y), .int (iI z)]), (kp, aI ck 2000 (uI T.1 (T.2.1).toNat ((((z * 20) + y) * 20) + x)))]) H := hP
      have hD : va_D A ([(tr, oI 1 [.ref kp, .int (iI (T.2.1 + 1)), .long (lI (T.2.2.1 + (((zab (x - T.2.2.2.1)) + (zab (y - T.2.2.2.2.1))) + (zab (z - T.2.2.2.2.2))))), .int (iI x), .int (iI y), .int (iI z)]), (kp, aI ck 2000 (uI T.1 (T.2.1).toNat ((((z * 20) + y) * 20) + x)))]) := hD
      subst hAe
      rw [show tkA x y z T = (uI T.1 (T.2.1).toNat ((((z * 20) + y) * 20) + x), T.2.1 + 1, T.2.2.1 + (((zab (x - T.2.2.2.1)) + (zab (y - T.2.2.2.2.1))) + (zab (z - T.2.2.2.2.2))), x, y, z) from by first | (exfalso; omega) | (unfold tkA; rw [if_pos (show T.2.1 < 2000 by omega), if_pos (show 0 < T.2.1 by omega)]) | (unfold tkA; rw [if_pos (show T.2.1 < 2000 by omega), if_neg (show ¬ 0 < T.2.1 by omega)]) | (unfold tkA; rw [if_neg (show ¬ T.2.1 < 2000 by omega), if_pos (show 0 < T.2.1 by omega)]) | (unfold tkA; rw [if_neg (show ¬ T.2.1 < 2000 by omega), if_neg (show ¬ 0 < T.2.1 by omega)])]
      exact z_vret hx hb hr hlocks hP hK hD hS (trivial) dX1_add_101
abbrev r_X1_holds : Room := { frames := 0, cells := 0, slots := 0, locals := 0 }
set_option maxHeartbeats 4000000 in
set_option maxRecDepth 100000 in
theorem c_X1_holds (l : Launch) (dC : Nat → ClassId) (dI : Nat → Nat → Nat) (sz : Nat) (tr kp : Nat) (ck : ClassId) (T : TK) (k : Int) (h0 : rg T.2.1) (h1 : rg k) : Met l yX1_holds wsX1_holds r_X1_holds (zP (dC, dI) vwCl ([(ck, .int)]) (tkW tr kp ck T) sz [.ref tr, .int (iI k)]) (zQi (dC, dI) vwCl ([(ck, .int)]) (tkW tr kp ck T) sz (True) (if 0 ≤ k ∧ k < T.2.1 ∧ k < 2000 then 1 else 0) (tkW tr kp ck T)) 0 0 (va_A (tkW tr kp ck T) sz) := by
  refine Met.ofW (cc := cX1_holds) (maxL := 2) (ret := (some .boolean)) (by decide) rfl ?_
  intro p e s m args below meth c s₁ B hml hv
  obtain ⟨rfl, hsz, hP, hK, hD0, hZ⟩ := hv
  have hx := B.exec
  have hb := B.bytes
  have hr := B.returns
  have hts0 := atoms_spec (ws := wsX1_holds) B.pre
  have hts : ∀ w ∈ wsAll, w.before _ s = true := fun w h => hts0 w (List.mem_cons_of_mem _ h)
  have hown : s.vm.findClass RX1 = some m.cls := findClass_of_methodNamed B.named
  have hlocks := B.notSynchronized
  subst hsz
  have hD := hD0.self (sz := s.heap.size)
  obtain ⟨A, hAe⟩ : ∃ A, A = va_A (tkW tr kp ck T) s.heap.size := ⟨_, rfl⟩
  rw [← hAe] at hD hZ
  have hA : ∀ q : Nat, s.heap.size ≤ q → A q := fun q h => by rw [hAe]; exact Or.inr h
  have hS : va_S A s.heap s.heap [] := va_S.rf
  have hP : va_P (dC, dI) vwCl (tkW tr kp ck T) s.heap := hP
  have hl := lv_entry ([.ref tr, .int (iI k)]) (n := 2) (Nat.le_of_ble_eq_true rfl)
  rw [lg_entry_eq]
  generalize (lg_sl ([.ref tr, .int (iI k)]) ++ List.replicate (2 - (lg_sl ([.ref tr, .int (iI k)])).length) Slot.unset).toArray = ls at hl ⊢
  have hl : lv_has ls 2 [(0, .ref tr), (1, .int (iI k))] := hl
  refine lv_iload_n hx hb dX1_holds_0 rfl (lv_at hl 1 rfl) ?_
  refine z_if_lt (tgt := 23) hx hb dX1_holds_1 (by decide) (by omega) (fun c1 => ?_) (fun c1 => ?_)
  · refine lv_iconst (v := iI 0) hx hb dX1_holds_23 rfl ?_
    subst hAe
    refine z_top (b := if 0 ≤ k ∧ k < T.2.1 ∧ k < 2000 then 1 else 0) (by (repeat' split) <;> omega) ?_
    exact z_zret hx hb hr hlocks (by split <;> omega) hP hK hD hS (trivial) dX1_holds_24
  · refine lv_iload_n hx hb dX1_holds_4 rfl (lv_at hl 1 rfl) ?_
    refine lv_aload_n hx hb dX1_holds_5 rfl (lv_at hl 0 rfl) ?_
    refine va_get (D := (dC, dI)) (ci := 1) (v := .int (iI T.2.1)) (C := RX1) (T := TX1) (N := 6) hx hb hts inX1 hown hK hP 0 rfl rfl 1 (by decide) (hts _ wm_151) (fun _ h9 => h9) rfl dX1_holds_6 ?_
    refine z_icmp_ge (tgt := 23) hx hb dX1_holds_9 (by decide) (by omega) (by omega) (fun c9 => ?_) (fun c9 => ?_)
    · refine lv_iconst (v := iI 0) hx hb dX1_holds_23 rfl ?_
      subst hAe
      refine z_top (b := if 0 ≤ k ∧ k < T.2.1 ∧ k < 2000 then 1 else 0) (by (repeat' split) <;> omega) ?_
      exact z_zret hx hb hr hlocks (by split <;> omega) hP hK hD hS (trivial) dX1_holds_24
    · refine lv_iload_n hx hb dX1_holds_12 rfl (lv_at hl 1 rfl) ?_
      refine lv_sipush (v := iI 2000) hx hb dX1_holds_13 (by decide) ?_
      refine z_icmp_ge (tgt := 23) hx hb dX1_holds_16 (by decide) (by omega) (by omega) (fun c16 => ?_) (fun c16 => ?_)
      · refine lv_iconst (v := iI 0) hx hb dX1_holds_23 rfl ?_
        subst hAe
        refine z_top (b := if 0 ≤ k ∧ k < T.2.1 ∧ k < 2000 then 1 else 0) (by (repeat' split) <;> omega) ?_
        exact z_zret hx hb hr hlocks (by split <;> omega) hP hK hD hS (trivial) dX1_holds_24
      · refine lv_iconst (v := iI 1) hx hb dX1_holds_19 rfl ?_
        refine lv_goto (tgt := 24) hx hb dX1_holds_20 (by decide) ?_
        subst hAe
        refine z_top (b := if 0 ≤ k ∧ k < T.2.1 ∧ k < 2000 then 1 else 0) (by (repeat' split) <;> omega) ?_
        exact z_zret hx hb hr hlocks (by split <;> omega) hP hK hD hS (trivial) dX1_holds_24
abbrev r_X1_xOf : Room := { frames := 0, cells := 0, slots := 0, locals := 0 }
set_option maxHeartbeats 4000000 in
set_option maxRecDepth 100000 in
theorem c_X1_xOf (l : Launch) (dC : Nat → ClassId) (dI : Nat → Nat → Nat) (sz : Nat) (tr kp : Nat) (ck : ClassId) (T : TK) (k : Int) (h0 : 0 ≤ k ∧ k < 2000) (h1 : 0 ≤ T.1 k.toNat ∧ T.1 k.toNat < 2147483648) : Met l yX1_xOf wsX1_xOf r_X1_xOf (zP (dC, dI) vwCl ([(ck, .int)]) (tkW tr kp ck T) sz [.ref tr, .int (iI k)]) (zQi (dC, dI) vwCl ([(ck, .int)]) (tkW tr kp ck T) sz (True) (T.1 k.toNat % 20) (tkW tr kp ck T)) 0 0 (va_A (tkW tr kp ck T) sz) := by
  refine Met.ofW (cc := cX1_xOf) (maxL := 2) (ret := (some .int)) (by decide) rfl ?_
  intro p e s m args below meth c s₁ B hml hv
  obtain ⟨rfl, hsz, hP, hK, hD0, hZ⟩ := hv
  have hx := B.exec
  have hb := B.bytes
  have hr := B.returns
  have hts0 := atoms_spec (ws := wsX1_xOf) B.pre
  have hts : ∀ w ∈ wsAll, w.before _ s = true := fun w h => hts0 w (List.mem_cons_of_mem _ h)
  have hown : s.vm.findClass RX1 = some m.cls := findClass_of_methodNamed B.named
  have hlocks := B.notSynchronized
  subst hsz
  have hD := hD0.self (sz := s.heap.size)
  obtain ⟨A, hAe⟩ : ∃ A, A = va_A (tkW tr kp ck T) s.heap.size := ⟨_, rfl⟩
  rw [← hAe] at hD hZ
  have hA : ∀ q : Nat, s.heap.size ≤ q → A q := fun q h => by rw [hAe]; exact Or.inr h
  have hS : va_S A s.heap s.heap [] := va_S.rf
  have hP : va_P (dC, dI) vwCl (tkW tr kp ck T) s.heap := hP
  have hl := lv_entry ([.ref tr, .int (iI k)]) (n := 2) (Nat.le_of_ble_eq_true rfl)
  rw [lg_entry_eq]
  generalize (lg_sl ([.ref tr, .int (iI k)]) ++ List.replicate (2 - (lg_sl ([.ref tr, .int (iI k)])).length) Slot.unset).toArray = ls at hl ⊢
  have hl : lv_has ls 2 [(0, .ref tr), (1, .int (iI k))] := hl
  refine lv_aload_n hx hb dX1_xOf_0 rfl (lv_at hl 0 rfl) ?_
  refine va_get (D := (dC, dI)) (ci := 1) (v := .ref kp) (C := RX1) (T := TX1) (N := 6) hx hb hts inX1 hown hK hP 0 rfl rfl 0 (by decide) (hts _ wm_150) (fun _ h9 => h9) rfl dX1_xOf_1 ?_
  refine lv_iload_n hx hb dX1_xOf_4 rfl (lv_at hl 1 rfl) ?_
  refine z_iald (f := T.1) (i := k) hx hb hK hP 1 0 rfl rfl (by omega) (by omega) dX1_xOf_5 ?_
  refine lv_bipush (v := iI 20) hx hb dX1_xOf_6 (by decide) ?_
  refine z_rem hx hb dX1_xOf_8 (by omega) (by omega) ?_
  subst hAe
  refine z_top (b := T.1 k.toNat % 20) (rfl) ?_
  exact z_iret hx hb hr hlocks hP hK hD hS (trivial) dX1_xOf_9
abbrev r_X1_yOf : Room := { frames := 0, cells := 0, slots := 0, locals := 0 }
set_option maxHeartbeats 4000000 in
set_option maxRecDepth 100000 in
theorem c_X1_yOf (l : Launch) (dC : Nat → ClassId) (dI : Nat → Nat → Nat) (sz : Nat) (tr kp : Nat) (ck : ClassId) (T : TK) (k : Int) (h0 : 0 ≤ k ∧ k < 2000) (h1 : 0 ≤ T.1 k.toNat ∧ T.1 k.toNat < 2147483648) : Met l yX1_yOf wsX1_yOf r_X1_yOf (zP (dC, dI) vwCl ([(ck, .int)]) (tkW tr kp ck T) sz [.ref tr, .int (iI k)]) (zQi (dC, dI) vwCl ([(ck, .int)]) (tkW tr kp ck T) sz (True) (T.1 k.toNat / 20 % 20) (tkW tr kp ck T)) 0 0 (va_A (tkW tr kp ck T) sz) := by
  refine Met.ofW (cc := cX1_yOf) (maxL := 2) (ret := (some .int)) (by decide) rfl ?_
  intro p e s m args below meth c s₁ B hml hv
  obtain ⟨rfl, hsz, hP, hK, hD0, hZ⟩ := hv
  have hx := B.exec
  have hb := B.bytes
  have hr := B.returns
  have hts0 := atoms_spec (ws := wsX1_yOf) B.pre
  have hts : ∀ w ∈ wsAll, w.before _ s = true := fun w h => hts0 w (List.mem_cons_of_mem _ h)
  have hown : s.vm.findClass RX1 = some m.cls := findClass_of_methodNamed B.named
  have hlocks := B.notSynchronized
  subst hsz
  have hD := hD0.self (sz := s.heap.size)
  obtain ⟨A, hAe⟩ : ∃ A, A = va_A (tkW tr kp ck T) s.heap.size := ⟨_, rfl⟩
  rw [← hAe] at hD hZ
  have hA : ∀ q : Nat, s.heap.size ≤ q → A q := fun q h => by rw [hAe]; exact Or.inr h
  have hS : va_S A s.heap s.heap [] := va_S.rf
  have hP : va_P (dC, dI) vwCl (tkW tr kp ck T) s.heap := hP
  have hl := lv_entry ([.ref tr, .int (iI k)]) (n := 2) (Nat.le_of_ble_eq_true rfl)
  rw [lg_entry_eq]
  generalize (lg_sl ([.ref tr, .int (iI k)]) ++ List.replicate (2 - (lg_sl ([.ref tr, .int (iI k)])).length) Slot.unset).toArray = ls at hl ⊢
  have hl : lv_has ls 2 [(0, .ref tr), (1, .int (iI k))] := hl
  refine lv_aload_n hx hb dX1_yOf_0 rfl (lv_at hl 0 rfl) ?_
  refine va_get (D := (dC, dI)) (ci := 1) (v := .ref kp) (C := RX1) (T := TX1) (N := 6) hx hb hts inX1 hown hK hP 0 rfl rfl 0 (by decide) (hts _ wm_150) (fun _ h9 => h9) rfl dX1_yOf_1 ?_
  refine lv_iload_n hx hb dX1_yOf_4 rfl (lv_at hl 1 rfl) ?_
  refine z_iald (f := T.1) (i := k) hx hb hK hP 1 0 rfl rfl (by omega) (by omega) dX1_yOf_5 ?_
  refine lv_bipush (v := iI 20) hx hb dX1_yOf_6 (by decide) ?_
  refine z_div hx hb dX1_yOf_8 (by omega) (by omega) ?_
  refine lv_bipush (v := iI 20) hx hb dX1_yOf_9 (by decide) ?_
  refine z_rem hx hb dX1_yOf_11 (by omega) (by omega) ?_
  subst hAe
  refine z_top (b := T.1 k.toNat / 20 % 20) (rfl) ?_
  exact z_iret hx hb hr hlocks hP hK hD hS (trivial) dX1_yOf_12
abbrev r_X1_zOf : Room := { frames := 0, cells := 0, slots := 0, locals := 0 }
set_option maxHeartbeats 4000000 in
set_option maxRecDepth 100000 in
theorem c_X1_zOf (l : Launch) (dC : Nat → ClassId) (dI : Nat → Nat → Nat) (sz : Nat) (tr kp : Nat) (ck : ClassId) (T : TK) (k : Int) (h0 : 0 ≤ k ∧ k < 2000) (h1 : 0 ≤ T.1 k.toNat ∧ T.1 k.toNat < 2147483648) : Met l yX1_zOf wsX1_zOf r_X1_zOf (zP (dC, dI) vwCl ([(ck, .int)]) (tkW tr kp ck T) sz [.ref tr, .int (iI k)]) (zQi (dC, dI) vwCl ([(ck, .int)]) (tkW tr kp ck T) sz (True) (T.1 k.toNat / 400) (tkW tr kp ck T)) 0 0 (va_A (tkW tr kp ck T) sz) := by
  refine Met.ofW (cc := cX1_zOf) (maxL := 2) (ret := (some .int)) (by decide) rfl ?_
  intro p e s m args below meth c s₁ B hml hv
  obtain ⟨rfl, hsz, hP, hK, hD0, hZ⟩ := hv
  have hx := B.exec
  have hb := B.bytes
  have hr := B.returns
  have hts0 := atoms_spec (ws := wsX1_zOf) B.pre
  have hts : ∀ w ∈ wsAll, w.before _ s = true := fun w h => hts0 w (List.mem_cons_of_mem _ h)
  have hown : s.vm.findClass RX1 = some m.cls := findClass_of_methodNamed B.named
  have hlocks := B.notSynchronized
  subst hsz
  have hD := hD0.self (sz := s.heap.size)
  obtain ⟨A, hAe⟩ : ∃ A, A = va_A (tkW tr kp ck T) s.heap.size := ⟨_, rfl⟩
  rw [← hAe] at hD hZ
  have hA : ∀ q : Nat, s.heap.size ≤ q → A q := fun q h => by rw [hAe]; exact Or.inr h
  have hS : va_S A s.heap s.heap [] := va_S.rf
  have hP : va_P (dC, dI) vwCl (tkW tr kp ck T) s.heap := hP
  have hl := lv_entry ([.ref tr, .int (iI k)]) (n := 2) (Nat.le_of_ble_eq_true rfl)
  rw [lg_entry_eq]
  generalize (lg_sl ([.ref tr, .int (iI k)]) ++ List.replicate (2 - (lg_sl ([.ref tr, .int (iI k)])).length) Slot.unset).toArray = ls at hl ⊢
  have hl : lv_has ls 2 [(0, .ref tr), (1, .int (iI k))] := hl
  refine lv_aload_n hx hb dX1_zOf_0 rfl (lv_at hl 0 rfl) ?_
  refine va_get (D := (dC, dI)) (ci := 1) (v := .ref kp) (C := RX1) (T := TX1) (N := 6) hx hb hts inX1 hown hK hP 0 rfl rfl 0 (by decide) (hts _ wm_150) (fun _ h9 => h9) rfl dX1_zOf_1 ?_
  refine lv_iload_n hx hb dX1_zOf_4 rfl (lv_at hl 1 rfl) ?_
  refine z_iald (f := T.1) (i := k) hx hb hK hP 1 0 rfl rfl (by omega) (by omega) dX1_zOf_5 ?_
  refine lv_sipush (v := iI 400) hx hb dX1_zOf_6 (by decide) ?_
  refine z_div hx hb dX1_zOf_9 (by omega) (by omega) ?_
  subst hAe
  refine z_top (b := T.1 k.toNat / 400) (rfl) ?_
  exact z_iret hx hb hr hlocks hP hK hD hS (trivial) dX1_zOf_10
end
section
abbrev r_X2_placeAt : Room := { frames := 0, cells := 0, slots := 0, locals := 0 }
set_option maxHeartbeats 4000000 in
set_option maxRecDepth 100000 in
theorem c_X2_placeAt (l : Launch) (dC : Nat → ClassId) (dI : Nat → Nat → Nat) (sz : Nat) (a : Nat → Nat) (cA : Nat → ClassId) (w h : Nat) (wa ma ka li : Nat → Int) (hk sh : Int) (T : TK) (kd rd : Nat → Int) (dp : Nat → Nat → Int) (x y : Int) : Met l yX2_placeAt wsX2_placeAt r_X2_placeAt (zP (dC, dI) vwCl (rpT cA) (rpW a cA w h wa ma ka li hk sh T kd rd dp) sz [.ref (a 0), .int (iI x), .int (iI y)]) (zQi (dC, dI) vwCl (rpT cA) (rpW a cA w h wa ma ka li hk sh T kd rd dp) sz (True) (y * (w : Int) + x) (rpW a cA w h wa ma ka li hk sh T kd rd dp)) 0 0 (va_A (rpW a cA w h wa ma ka li hk sh T kd rd dp) sz) := by
  refine Met.ofW (cc := cX2_placeAt) (maxL := 3) (ret := (some .int)) (by decide) rfl ?_
  intro p e s m args below meth c s₁ B hml hv
  obtain ⟨rfl, hsz, hP, hK, hD0, hZ⟩ := hv
  have hx := B.exec
  have hb := B.bytes
  have hr := B.returns
  have hts0 := atoms_spec (ws := wsX2_placeAt) B.pre
  have hts : ∀ w ∈ wsAll, w.before _ s = true := fun w h => hts0 w (List.mem_cons_of_mem _ h)
  have hown : s.vm.findClass RX2 = some m.cls := findClass_of_methodNamed B.named
  have hlocks := B.notSynchronized
  subst hsz
  have hD := hD0.self (sz := s.heap.size)
  obtain ⟨A, hAe⟩ : ∃ A, A = va_A (rpW a cA w h wa ma ka li hk sh T kd rd dp) s.heap.size := ⟨_, rfl⟩
  rw [← hAe] at hD hZ
  have hA : ∀ q : Nat, s.heap.size ≤ q → A q := fun q h => by rw [hAe]; exact Or.inr h
  have hS : va_S A s.heap s.heap [] := va_S.rf
  have hP : va_P (dC, dI) vwCl (rpW a cA w h wa ma ka li hk sh T kd rd dp) s.heap := hP
  have hl := lv_entry ([.ref (a 0), .int (iI x), .int (iI y)]) (n := 3) (Nat.le_of_ble_eq_true rfl)
  rw [lg_entry_eq]
  generalize (lg_sl ([.ref (a 0), .int (iI x), .int (iI y)]) ++ List.replicate (3 - (lg_sl ([.ref (a 0), .int (iI x), .int (iI y)])).length) Slot.unset).toArray = ls at hl ⊢
  have hl : lv_has ls 3 [(0, .ref (a 0)), (1, .int (iI x)), (2, .int (iI y))] := hl
  refine lv_iload_n hx hb dX2_placeAt_0 rfl (lv_at hl 2 rfl) ?_
  refine lv_aload_n hx hb dX2_placeAt_1 rfl (lv_at hl 0 rfl) ?_
  refine va_get (D := (dC, dI)) (ci := 2) (v := .int (iI (w : Int))) (C := RX2) (T := TX2) (N := 10) hx hb hts inX2 hown hK hP 0 rfl rfl 0 (by decide) (hts _ wm_171) (fun _ h9 => h9) rfl dX2_placeAt_2 ?_
  refine z_mul hx hb dX2_placeAt_5 ?_
  refine lv_iload_n hx hb dX2_placeAt_6 rfl (lv_at hl 1 rfl) ?_
  refine z_add hx hb dX2_placeAt_7 ?_
  subst hAe
  refine z_top (b := y * (w : Int) + x) (rfl) ?_
  exact z_iret hx hb hr hlocks hP hK hD hS (trivial) dX2_placeAt_8
abbrev r_X2_leftAt : Room := { frames := 0, cells := 0, slots := 0, locals := 0 }
set_option maxHeartbeats 4000000 in
set_option maxRecDepth 100000 in
theorem c_X2_leftAt (l : Launch) (dC : Nat → ClassId) (dI : Nat → Nat → Nat) (sz : Nat) (a : Nat → Nat) (cA : Nat → ClassId) (w h : Nat) (wa ma ka li : Nat → Int) (hk sh : Int) (T : TK) (kd rd : Nat → Int) (dp : Nat → Nat → Int) (k : Int) (hw : 1 ≤ w ∧ w ≤ 20) (hh : 1 ≤ h ∧ h ≤ 20) (hk0 : 0 ≤ k ∧ k < ((w * h : Nat) : Int)) : Met l yX2_leftAt wsX2_leftAt r_X2_leftAt (zP (dC, dI) vwCl (rpT cA) (rpW a cA w h wa ma ka li hk sh T kd rd dp) sz [.ref (a 0), .int (iI k)]) (zQi (dC, dI) vwCl (rpT cA) (rpW a cA w h wa ma ka li hk sh T kd rd dp) sz (True) (ma k.toNat - wa k.toNat) (rpW a cA w h wa ma ka li hk sh T kd rd dp)) 0 0 (va_A (rpW a cA w h wa ma ka li hk sh T kd rd dp) sz) := by
  refine Met.ofW (cc := cX2_leftAt) (maxL := 2) (ret := (some .int)) (by decide) rfl ?_
  intro p e s m args below meth c s₁ B hml hv
  obtain ⟨rfl, hsz, hP, hK, hD0, hZ⟩ := hv
  have hx := B.exec
  have hb := B.bytes
  have hr := B.returns
  have hts0 := atoms_spec (ws := wsX2_leftAt) B.pre
  have hts : ∀ w ∈ wsAll, w.before _ s = true := fun w h => hts0 w (List.mem_cons_of_mem _ h)
  have hown : s.vm.findClass RX2 = some m.cls := findClass_of_methodNamed B.named
  have hlocks := B.notSynchronized
  subst hsz
  have hD := hD0.self (sz := s.heap.size)
  obtain ⟨A, hAe⟩ : ∃ A, A = va_A (rpW a cA w h wa ma ka li hk sh T kd rd dp) s.heap.size := ⟨_, rfl⟩
  rw [← hAe] at hD hZ
  have hA : ∀ q : Nat, s.heap.size ≤ q → A q := fun q h => by rw [hAe]; exact Or.inr h
  have hS : va_S A s.heap s.heap [] := va_S.rf
  have hP : va_P (dC, dI) vwCl (rpW a cA w h wa ma ka li hk sh T kd rd dp) s.heap := hP
  have hl := lv_entry ([.ref (a 0), .int (iI k)]) (n := 2) (Nat.le_of_ble_eq_true rfl)
  rw [lg_entry_eq]
  generalize (lg_sl ([.ref (a 0), .int (iI k)]) ++ List.replicate (2 - (lg_sl ([.ref (a 0), .int (iI k)])).length) Slot.unset).toArray = ls at hl ⊢
  have hl : lv_has ls 2 [(0, .ref (a 0)), (1, .int (iI k))] := hl
  have hwh := z_wh hw.2 hh.2
  refine lv_aload_n hx hb dX2_leftAt_0 rfl (lv_at hl 0 rfl) ?_
  refine va_get (D := (dC, dI)) (ci := 2) (v := .ref (a 2)) (C := RX2) (T := TX2) (N := 10) hx hb hts inX2 hown hK hP 0 rfl rfl 3 (by decide) (hts _ wm_174) (fun _ h9 => h9) rfl dX2_leftAt_1 ?_
  refine lv_iload_n hx hb dX2_leftAt_4 rfl (lv_at hl 1 rfl) ?_
  refine z_iald (f := ma) (i := k) hx hb hK hP 2 1 rfl rfl (hk0) (by omega) dX2_leftAt_5 ?_
  refine lv_aload_n hx hb dX2_leftAt_6 rfl (lv_at hl 0 rfl) ?_
  refine va_get (D := (dC, dI)) (ci := 2) (v := .ref (a 1)) (C := RX2) (T := TX2) (N := 10) hx hb hts inX2 hown hK hP 0 rfl rfl 2 (by decide) (hts _ wm_173) (fun _ h9 => h9) rfl dX2_leftAt_7 ?_
  refine lv_iload_n hx hb dX2_leftAt_10 rfl (lv_at hl 1 rfl) ?_
  refine z_iald (f := wa) (i := k) hx hb hK hP 1 0 rfl rfl (hk0) (by omega) dX2_leftAt_11 ?_
  refine z_sub hx hb dX2_leftAt_12 ?_
  subst hAe
  refine z_top (b := ma k.toNat - wa k.toNat) (rfl) ?_
  exact z_iret hx hb hr hlocks hP hK hD hS (trivial) dX2_leftAt_13
abbrev r_X2_setWanted : Room := { frames := 0, cells := 0, slots := 0, locals := 0 }
set_option maxHeartbeats 4000000 in
set_option maxRecDepth 100000 in
theorem c_X2_setWanted (l : Launch) (dC : Nat → ClassId) (dI : Nat → Nat → Nat) (sz : Nat) (a : Nat → Nat) (cA : Nat → ClassId) (w h : Nat) (wa ma ka li : Nat → Int) (hk sh : Int) (T : TK) (kd rd : Nat → Int) (dp : Nat → Nat → Int) (k v : Int) (hw : 1 ≤ w ∧ w ≤ 20) (hh : 1 ≤ h ∧ h ≤ 20) (hk0 : 0 ≤ k ∧ k < ((w * h : Nat) : Int)) (hv : rg v) (hwa : rg (wa k.toNat)) : Met l yX2_setWanted wsX2_setWanted r_X2_setWanted (zP (dC, dI) vwCl (rpT cA) (rpW a cA w h wa ma ka li hk sh T kd rd dp) sz [.ref (a 0), .int (iI k), .int (iI v)]) (zQi (dC, dI) vwCl (rpT cA) (rpW a cA w h wa ma ka li hk sh T kd rd dp) sz (True) (if wa k.toNat = v then 0 else 1) (rpW a cA w h (uI wa k.toNat v) ma ka li hk sh T kd rd dp)) 0 0 (va_A (rpW a cA w h wa ma ka li hk sh T kd rd dp) sz) := by
  refine Met.ofW (cc := cX2_setWanted) (maxL := 4) (ret := (some .boolean)) (by decide) rfl ?_
  intro p e s m args below meth c s₁ B hml hv
  obtain ⟨rfl, hsz, hP, hK, hD0, hZ⟩ := hv
  have hx := B.exec
  have hb := B.bytes
  have hr := B.returns
  have hts0 := atoms_spec (ws := wsX2_setWanted) B.pre
  have hts : ∀ w ∈ wsAll, w.before _ s = true := fun w h => hts0 w (List.mem_cons_of_mem _ h)
  have hown : s.vm.findClass RX2 = some m.cls := findClass_of_methodNamed B.named
  have hlocks := B.notSynchronized
  subst hsz
  have hD := hD0.self (sz := s.heap.size)
  obtain ⟨A, hAe⟩ : ∃ A, A = va_A (rpW a cA w h wa ma ka li hk sh T kd rd dp) s.heap.size := ⟨_, rfl⟩
  rw [← hAe] at hD hZ
  have hA : ∀ q : Nat, s.heap.size ≤ q → A q := fun q h => by rw [hAe]; exact Or.inr h
  have hS : va_S A s.heap s.heap [] := va_S.rf
  have hP : va_P (dC, dI) vwCl (rpW a cA w h wa ma ka li hk sh T kd rd dp) s.heap := hP
  have hl := lv_entry ([.ref (a 0), .int (iI k), .int (iI v)]) (n := 4) (Nat.le_of_ble_eq_true rfl)
  rw [lg_entry_eq]
  generalize (lg_sl ([.ref (a 0), .int (iI k), .int (iI v)]) ++ List.replicate (4 - (lg_sl ([.ref (a 0), .int (iI k), .int (iI v)])).length) Slot.unset).toArray = ls at hl ⊢
  have hl : lv_has ls 4 [(0, .ref (a 0)), (1, .int (iI k)), (2, .int (iI v))] := hl
  have hwh := z_wh hw.2 hh.2
  refine lv_aload_n hx hb dX2_setWanted_0 rfl (lv_at hl 0 rfl) ?_
  refine va_get (D := (dC, dI)) (ci := 2) (v := .ref (a 1)) (C := RX2) (T := TX2) (N := 10) hx hb hts inX2 hown hK hP 0 rfl rfl 2 (by decide) (hts _ wm_173) (fun _ h9 => h9) rfl dX2_setWanted_1 ?_
  refine lv_iload_n hx hb dX2_setWanted_4 rfl (lv_at hl 1 rfl) ?_
  refine z_iald (f := wa) (i := k) hx hb hK hP 1 0 rfl rfl (hk0) (by omega) dX2_setWanted_5 ?_
  refine lv_iload_n hx hb dX2_setWanted_6 rfl (lv_at hl 2 rfl) ?_
  refine z_join (g0 := F0 m 15 ls [.int (iI (if wa k.toNat = v then 0 else 1))]) ?_ (fun J15 => ?_)
  · refine lv_istore_n (lv' := [(3, .int (iI (if wa k.toNat = v then 0 else 1))), (0, .ref (a 0)), (1, .int (iI k)), (2, .int (iI v))]) hx hb dX2_setWanted_15 rfl hl (by decide) rfl (fun ls hl => ?_)
    refine lv_aload_n hx hb dX2_setWanted_16 rfl (lv_at hl 1 rfl) ?_
    refine va_get (D := (dC, dI)) (ci := 2) (v := .ref (a 1)) (C := RX2) (T := TX2) (N := 10) hx hb hts inX2 hown hK hP 0 rfl rfl 2 (by decide) (hts _ wm_173) (fun _ h9 => h9) rfl dX2_setWanted_17 ?_
    refine lv_iload_n hx hb dX2_setWanted_20 rfl (lv_at hl 2 rfl) ?_
    refine lv_iload_n hx hb dX2_setWanted_21 rfl (lv_at hl 3 rfl) ?_
    refine z_iast (f := wa) (i := k) (x := v) hx hb hK hP hD hS 1 0 rfl rfl (hk0) (by omega) dX2_setWanted_22 (fun H locs hP hD hS => ?_)
    have hP : va_P (dC, dI) vwCl (rpW a cA w h (uI wa (k).toNat v) ma ka li hk sh T kd rd dp) H := hP
    have hD : va_D A (rpW a cA w h (uI wa (k).toNat v) ma ka li hk sh T kd rd dp) := hD
    refine lv_iload_n hx hb dX2_setWanted_23 rfl (lv_at hl 0 rfl) ?_
    subst hAe
    exact z_zret hx hb hr hlocks (by split <;> omega) hP hK hD hS (trivial) dX2_setWanted_24
  · refine z_icmp_eq (tgt := 14) hx hb dX2_setWanted_7 (by decide) (by omega) (by omega) (fun c7 => ?_) (fun c7 => ?_)
    · refine lv_iconst (v := iI 0) hx hb dX2_setWanted_14 rfl ?_
      exact z_top (b := if wa k.toNat = v then 0 else 1) (by (repeat' split) <;> omega) J15
    · refine lv_iconst (v := iI 1) hx hb dX2_setWanted_10 rfl ?_
      refine lv_goto (tgt := 15) hx hb dX2_setWanted_11 (by decide) ?_
      exact z_top (b := if wa k.toNat = v then 0 else 1) (by (repeat' split) <;> omega) J15
theorem g_X2_9 : GoodIn wsAll (va_wsS RX2 9 yX2_nearest wsX2_nearest) := z_good (show ∀ w ∈ (Cond.methodLink RX2 9 yX2_nearest :: Cond.static yX2_nearest :: Cond.initialized RX2 :: Cond.code yX2_nearest prog_1_method_22_code 3 (some .int) :: wsAll), w ∈ wsAll from List.forall_mem_cons.mpr ⟨wm_121, List.forall_mem_cons.mpr ⟨wm_122, List.forall_mem_cons.mpr ⟨wm_109, List.forall_mem_cons.mpr ⟨wm_123, fun _ h => h⟩⟩⟩⟩)
abbrev r_X2_merged : Room := { frames := 2, cells := 0, slots := 0, locals := 46 }
set_option maxHeartbeats 4000000 in
set_option maxRecDepth 100000 in
theorem c_X2_merged (l : Launch) (dC : Nat → ClassId) (dI : Nat → Nat → Nat) (sz : Nat) (u b d v : Int) (h1 : rg u) (h2 : 0 ≤ b ∧ b ≤ 1000) (h3 : 0 ≤ d ∧ d ≤ 1000) (h4 : 0 ≤ v ∧ v ≤ 1000) : Met l yX2_merged wsX2_merged r_X2_merged (zP (dC, dI) vwCl ([]) ([]) sz [.int (iI u), .int (iI b), .int (iI d), .int (iI v)]) (zQi (dC, dI) vwCl ([]) ([]) sz (True) (mgF u b d v) ([])) 0 0 (va_A ([]) sz) := by
  refine Met.ofW (cc := cX2_merged) (maxL := 4) (ret := (some .int)) (by decide) rfl ?_
  intro p e s m args below meth c s₁ B hml hv
  obtain ⟨rfl, hsz, hP, hK, hD0, hZ⟩ := hv
  have hx := B.exec
  have hb := B.bytes
  have hr := B.returns
  have hts0 := atoms_spec (ws := wsX2_merged) B.pre
  have hts : ∀ w ∈ wsAll, w.before _ s = true := fun w h => hts0 w (List.mem_cons_of_mem _ h)
  have hown : s.vm.findClass RX2 = some m.cls := findClass_of_methodNamed B.named
  have hlocks := B.notSynchronized
  subst hsz
  have hD := hD0.self (sz := s.heap.size)
  obtain ⟨A, hAe⟩ : ∃ A, A = va_A ([]) s.heap.size := ⟨_, rfl⟩
  rw [← hAe] at hD hZ
  have hA : ∀ q : Nat, s.heap.size ≤ q → A q := fun q h => by rw [hAe]; exact Or.inr h
  have hS : va_S A s.heap s.heap [] := va_S.rf
  have hP : va_P (dC, dI) vwCl ([]) s.heap := hP
  have hl := lv_entry ([.int (iI u), .int (iI b), .int (iI d), .int (iI v)]) (n := 4) (Nat.le_of_ble_eq_true rfl)
  rw [lg_entry_eq]
  generalize (lg_sl ([.int (iI u), .int (iI b), .int (iI d), .int (iI v)]) ++ List.replicate (4 - (lg_sl ([.int (iI u), .int (iI b), .int (iI d), .int (iI v)])).length) Slot.unset).toArray = ls at hl ⊢
  have hl : lv_has ls 4 [(0, .int (iI u)), (1, .int (iI b)), (2, .int (iI d)), (3, .int (iI v))] := hl
  refine lv_iload_n hx hb dX2_merged_0 rfl (lv_at hl 0 rfl) ?_
  refine z_look2 (t1 := 28) (t2 := 34) (t3 := 40) hx hb dX2_merged_1 (by decide) (by omega) (by decide) (by decide) (by decide) (fun e1 => ?_) (fun e1 => ?_) (fun e1 f1 => ?_)
  · refine lv_iload_n hx hb dX2_merged_28 rfl (lv_at hl 1 rfl) ?_
    refine lv_iload_n hx hb dX2_merged_29 rfl (lv_at hl 2 rfl) ?_
    refine z_max hx hb (hml.trans hl.1.symm) hown (hts _ wm_127) (hts _ wm_128) (hts _ wm_110) (hts _ wm_129) (Nat.le_of_ble_eq_true rfl) (Nat.le_of_ble_eq_true rfl) (Nat.le_of_ble_eq_true rfl) (Nat.le_of_ble_eq_true rfl) dX2_merged_30 (by omega) (by omega) ?_
    subst hAe
    refine z_top (b := mgF u b d v) (by unfold mgF; (repeat' split) <;> first | rfl | (exfalso; omega)) ?_
    exact z_iret hx hb hr hlocks hP hK hD hS (trivial) dX2_merged_33
  · refine lv_iload_n hx hb dX2_merged_34 rfl (lv_at hl 1 rfl) ?_
    refine lv_iload_n hx hb dX2_merged_35 rfl (lv_at hl 2 rfl) ?_
    refine z_min hx hb (hml.trans hl.1.symm) hown (hts _ wm_124) (hts _ wm_125) (hts _ wm_110) (hts _ wm_126) (Nat.le_of_ble_eq_true rfl) (Nat.le_of_ble_eq_true rfl) (Nat.le_of_ble_eq_true rfl) (Nat.le_of_ble_eq_true rfl) dX2_merged_36 (by omega) (by omega) ?_
    subst hAe
    refine z_top (b := mgF u b d v) (by unfold mgF; (repeat' split) <;> first | rfl | (exfalso; omega)) ?_
    exact z_iret hx hb hr hlocks hP hK hD hS (trivial) dX2_merged_39
  · refine lv_iload_n hx hb dX2_merged_40 rfl (lv_at hl 1 rfl) ?_
    refine lv_iload_n hx hb dX2_merged_41 rfl (lv_at hl 2 rfl) ?_
    refine z_add hx hb dX2_merged_42 ?_
    refine lv_iload_n hx hb dX2_merged_43 rfl (lv_at hl 3 rfl) ?_
    refine z_sub hx hb dX2_merged_44 ?_
    refine lv_iconst (v := iI 0) hx hb dX2_merged_45 rfl ?_
    refine lv_sipush (v := iI 1000) hx hb dX2_merged_46 (by decide) ?_
    refine z_rcalli (va_runS (As := [.int (iI ((b + d) - v)), .int (iI 0), .int (iI 1000)]) (rest := []) ⟨hx, hb, hml, hown, hts⟩ (c_X2_nearest l dC dI (s.heap).size ((b + d) - v) 0 1000 (by omega) (by omega) (by omega)) (va_cwS 3 hts g_X2_9 rfl rfl rfl (by decide +kernel) ⟨Nat.le_of_ble_eq_true rfl, Nat.le_of_ble_eq_true rfl⟩) (zP_S z_P0 (hK.sub [] rfl) z_D0 hS (z_free0 hS hA) hZ) rfl rfl hl.1 rfl (lv_room (Nat.le_of_ble_eq_true rfl)) dX2_merged_49 ⟨Nat.le_of_ble_eq_true rfl, Nat.le_of_ble_eq_true rfl⟩) hP hD hS (z_free0 hS hA) (fun _ h => by cases h) (fun H locs _ hP hD hS _ => ?_)
    subst hAe
    refine z_top (b := mgF u b d v) (by unfold mgF; (repeat' split) <;> first | rfl | (exfalso; omega)) ?_
    exact z_iret hx hb hr hlocks hP hK hD hS (trivial) dX2_merged_52
end
section
theorem g_X2_165 : GoodIn wsAll (va_wsS RX2 165 yX2_isWithin wsX2_isWithin) := z_good (show ∀ w ∈ (Cond.methodLink RX2 165 yX2_isWithin :: Cond.static yX2_isWithin :: Cond.initialized RX2 :: Cond.code yX2_isWithin prog_1_method_21_code 3 (some .boolean) :: wsAll), w ∈ wsAll from List.forall_mem_cons.mpr ⟨wm_233, List.forall_mem_cons.mpr ⟨wm_234, List.forall_mem_cons.mpr ⟨wm_109, List.forall_mem_cons.mpr ⟨wm_235, fun _ h => h⟩⟩⟩⟩)
abbrev r_X2_needPlace : Room := { frames := 6, cells := 1, slots := 6, locals := 91 }
set_option maxHeartbeats 4000000 in
set_option maxRecDepth 100000 in
theorem c_X2_needPlace (l : Launch) (hl9 : l.stackTraces = false) (dC : Nat → ClassId) (dI : Nat → Nat → Nat) (sz : Nat) (a : Nat → Nat) (cA : Nat → ClassId) (w h : Nat) (wa ma ka li : Nat → Int) (hk sh : Int) (T : TK) (kd rd : Nat → Int) (dp : Nat → Nat → Int) (x y : Int) (hw : 1 ≤ w ∧ w ≤ 20) (hh : 1 ≤ h ∧ h ≤ 20) (h1 : rg x) (h2 : rg y) : vx_Met l yX2_needPlace wsX2_needPlace r_X2_needPlace (zP (dC, dI) vwCl (rpT cA) (rpW a cA w h wa ma ka li hk sh T kd rd dp) sz [.ref (a 0), .int (iI x), .int (iI y)]) (zQv (dC, dI) vwCl (rpT cA) (rpW a cA w h wa ma ka li hk sh T kd rd dp) sz (0 ≤ x ∧ x < (w : Int) ∧ 0 ≤ y ∧ y < (h : Int)) (rpW a cA w h wa ma ka li hk sh T kd rd dp)) (zX (dC, dI) vwCl (rpT cA) (rpW a cA w h wa ma ka li hk sh T kd rd dp) sz (fun E => E = "java/lang/IndexOutOfBoundsException" ∧ ¬ (0 ≤ x ∧ x < (w : Int) ∧ 0 ≤ y ∧ y < (h : Int)))) 1 6 (va_A (rpW a cA w h wa ma ka li hk sh T kd rd dp) sz) := by
  refine vx_ofW (cc := cX2_needPlace) (maxL := 3) (ret := none) (by decide) rfl ?_
  intro p e s m args below meth c s₁ B hml ht9 hv
  obtain ⟨rfl, hsz, hP, hK, hD0, hZ⟩ := hv
  have hx := B.exec
  have hb := B.bytes
  have hr := B.returns
  have hts0 := atoms_spec (ws := wsX2_needPlace) B.pre
  have hts : ∀ w ∈ wsAll, w.before _ s = true := fun w h => hts0 w (List.mem_cons_of_mem _ h)
  have hown : s.vm.findClass RX2 = some m.cls := findClass_of_methodNamed B.named
  have hlocks := B.notSynchronized
  subst hsz
  have hD := hD0.self (sz := s.heap.size)
  obtain ⟨A, hAe⟩ : ∃ A, A = va_A (rpW a cA w h wa ma ka li hk sh T kd rd dp) s.heap.size := ⟨_, rfl⟩
  rw [← hAe] at hD hZ
  have hA : ∀ q : Nat, s.heap.size ≤ q → A q := fun q h => by rw [hAe]; exact Or.inr h
  have hS : va_S A s.heap s.heap [] := va_S.rf
  have hP : va_P (dC, dI) vwCl (rpW a cA w h wa ma ka li hk sh T kd rd dp) s.heap := hP
  have hl := lv_entry ([.ref (a 0), .int (iI x), .int (iI y)]) (n := 3) (Nat.le_of_ble_eq_true rfl)
  rw [lg_entry_eq]
  generalize (lg_sl ([.ref (a 0), .int (iI x), .int (iI y)]) ++ List.replicate (3 - (lg_sl ([.ref (a 0), .int (iI x), .int (iI y)])).length) Slot.unset).toArray = ls at hl ⊢
  have hl : lv_has ls 3 [(0, .ref (a 0)), (1, .int (iI x)), (2, .int (iI y))] := hl
  refine lv_iload_n hx hb dX2_needPlace_0 rfl (lv_at hl 1 rfl) ?_
  refine lv_iconst (v := iI 0) hx hb dX2_needPlace_1 rfl ?_
  refine lv_aload_n hx hb dX2_needPlace_2 rfl (lv_at hl 0 rfl) ?_
  refine va_get (D := (dC, dI)) (ci := 2) (v := .int (iI (w : Int))) (C := RX2) (T := TX2) (N := 10) hx hb hts inX2 hown hK hP 0 rfl rfl 0 (by decide) (hts _ wm_171) (fun _ h9 => h9) rfl dX2_needPlace_3 ?_
  refine lv_iconst (v := iI 1) hx hb dX2_needPlace_6 rfl ?_
  refine z_sub hx hb dX2_needPlace_7 ?_
  refine z_rcalli (va_runS (As := [.int (iI x), .int (iI 0), .int (iI ((w : Int) - 1))]) (rest := []) ⟨hx, hb, hml, hown, hts⟩ (c_X2_isWithin l dC dI (s.heap).size x 0 ((w : Int) - 1) (by omega) (by omega) (by omega)) (va_cwS 3 hts g_X2_165 rfl rfl rfl (by decide +kernel) ⟨Nat.le_of_ble_eq_true rfl, Nat.le_of_ble_eq_true rfl⟩) (zP_S z_P0 (hK.sub [] rfl) z_D0 hS (z_free0 hS hA) hZ) rfl rfl hl.1 rfl (lv_room (Nat.le_of_ble_eq_true rfl)) dX2_needPlace_8 ⟨Nat.le_of_ble_eq_true rfl, Nat.le_of_ble_eq_true rfl⟩) hP hD hS (z_free0 hS hA) (fun _ h => by cases h) (fun H locs _ hP hD hS _ => ?_)
  refine z_if_eq (tgt := 28) hx hb dX2_needPlace_11 (by decide) (isW_rg _ _ _) (fun c11 => ?_) (fun c11 => ?_)
  · have c11 := isW_f.mp c11
    obtain ⟨sa9, hsa9⟩ := hZ.2.1 (RX2, 169, "no such place") (by decide +kernel)
    subst hAe
    exact vx_throwS (own := RX2) (cls := "java/lang/IndexOutOfBoundsException") (names := ["java/lang/RuntimeException", "java/lang/Exception"]) hx hb hl9 hown (by decide +kernel) (by decide +kernel) (hts _ wm_16) (hts _ wm_3) hsa9 (vx_hat (L := vx_atS RX2 139 "java/lang/IndexOutOfBoundsException" ["java/lang/RuntimeException", "java/lang/Exception"]) (B := [.castable "java/lang/IndexOutOfBoundsException" "java/lang/IndexOutOfBoundsException", .declares ⟨"java/lang/RuntimeException", "<init>", "(Ljava/lang/String;)V"⟩, .declares ⟨"java/lang/Exception", "<init>", "(Ljava/lang/String;)V"⟩, .declares ⟨"java/lang/Throwable", "<init>", "(Ljava/lang/String;)V"⟩]) (fun w hw => hts w (wsE_in w ((by decide +kernel : ∀ w ∈ (vx_atS RX2 139 "java/lang/IndexOutOfBoundsException" ["java/lang/RuntimeException", "java/lang/Exception"]).filter goodWord, w ∈ wsE) w hw))) (by decide +kernel) (vx_c (va_Nw.use rfl (hZ.1 (.castable "java/lang/IndexOutOfBoundsException" "java/lang/IndexOutOfBoundsException") (by decide +kernel))) (vx_c (va_Nw.use rfl (hZ.1 (.declares ⟨"java/lang/RuntimeException", "<init>", "(Ljava/lang/String;)V"⟩) (by decide +kernel))) (vx_c (va_Nw.use rfl (hZ.1 (.declares ⟨"java/lang/Exception", "<init>", "(Ljava/lang/String;)V"⟩) (by decide +kernel))) (vx_c (va_Nw.use rfl (hZ.1 (.declares ⟨"java/lang/Throwable", "<init>", "(Ljava/lang/String;)V"⟩) (by decide +kernel))) (vx_n)))))) (by decide +kernel) hZ.2.2.2.1 hZ.2.2.2.2 hS (hl.1.trans hml.symm) dX2_needPlace_28 dX2_needPlace_31 dX2_needPlace_32 dX2_needPlace_34 dX2_needPlace_37 (fun x h => (ht9 x h).elim) (Nat.le_of_ble_eq_true rfl) (Nat.le_of_ble_eq_true rfl) (Nat.le_of_ble_eq_true rfl) (Nat.le_of_ble_eq_true rfl) hlocks (z_xnew (⟨rfl, by omega⟩) hP hK hD hS) hS.2.2 (Nat.le_of_ble_eq_true rfl) (Nat.le_of_ble_eq_true rfl)
  · have c11 := isW_t.mp c11
    refine lv_iload_n hx hb dX2_needPlace_14 rfl (lv_at hl 2 rfl) ?_
    refine lv_iconst (v := iI 0) hx hb dX2_needPlace_15 rfl ?_
    refine lv_aload_n hx hb dX2_needPlace_16 rfl (lv_at hl 0 rfl) ?_
    refine va_get (D := (dC, dI)) (ci := 2) (v := .int (iI (h : Int))) (C := RX2) (T := TX2) (N := 10) hx hb hts inX2 hown hK hP 0 rfl rfl 1 (by decide) (hts _ wm_172) (fun _ h9 => h9) rfl dX2_needPlace_17 ?_
    refine lv_iconst (v := iI 1) hx hb dX2_needPlace_20 rfl ?_
    refine z_sub hx hb dX2_needPlace_21 ?_
    refine z_rcalli (va_runS (As := [.int (iI y), .int (iI 0), .int (iI ((h : Int) - 1))]) (rest := []) ⟨hx, hb, hml, hown, hts⟩ (c_X2_isWithin l dC dI (H).size y 0 ((h : Int) - 1) (by omega) (by omega) (by omega)) (va_cwS 3 hts g_X2_165 rfl rfl rfl (by decide +kernel) ⟨Nat.le_of_ble_eq_true rfl, Nat.le_of_ble_eq_true rfl⟩) (zP_S z_P0 (hK.sub [] rfl) z_D0 hS (z_free0 hS hA) hZ) rfl rfl hl.1 rfl (lv_room (Nat.le_of_ble_eq_true rfl)) dX2_needPlace_22 ⟨Nat.le_of_ble_eq_true rfl, Nat.le_of_ble_eq_true rfl⟩) hP hD hS (z_free0 hS hA) (fun _ h => by cases h) (fun H locs _ hP hD hS _ => ?_)
    refine z_if_ne (tgt := 38) hx hb dX2_needPlace_25 (by decide) (isW_rg _ _ _) (fun c25 => ?_) (fun c25 => ?_)
    · have c25 := isW_t.mp c25
      refine W.widen (k := 1) (n := 6) (by omega) (by omega) ?_
      refine vx_ret ?_
      subst hAe
      exact z_vret hx hb hr hlocks hP hK hD hS (by omega) dX2_needPlace_38
    · have c25 := isW_f.mp c25
      obtain ⟨sa9, hsa9⟩ := hZ.2.1 (RX2, 169, "no such place") (by decide +kernel)
      subst hAe
      exact vx_throwS (own := RX2) (cls := "java/lang/IndexOutOfBoundsException") (names := ["java/lang/RuntimeException", "java/lang/Exception"]) hx hb hl9 hown (by decide +kernel) (by decide +kernel) (hts _ wm_16) (hts _ wm_3) hsa9 (vx_hat (L := vx_atS RX2 139 "java/lang/IndexOutOfBoundsException" ["java/lang/RuntimeException", "java/lang/Exception"]) (B := [.castable "java/lang/IndexOutOfBoundsException" "java/lang/IndexOutOfBoundsException", .declares ⟨"java/lang/RuntimeException", "<init>", "(Ljava/lang/String;)V"⟩, .declares ⟨"java/lang/Exception", "<init>", "(Ljava/lang/String;)V"⟩, .declares ⟨"java/lang/Throwable", "<init>", "(Ljava/lang/String;)V"⟩]) (fun w hw => hts w (wsE_in w ((by decide +kernel : ∀ w ∈ (vx_atS RX2 139 "java/lang/IndexOutOfBoundsException" ["java/lang/RuntimeException", "java/lang/Exception"]).filter goodWord, w ∈ wsE) w hw))) (by decide +kernel) (vx_c (va_Nw.use rfl (hZ.1 (.castable "java/lang/IndexOutOfBoundsException" "java/lang/IndexOutOfBoundsException") (by decide +kernel))) (vx_c (va_Nw.use rfl (hZ.1 (.declares ⟨"java/lang/RuntimeException", "<init>", "(Ljava/lang/String;)V"⟩) (by decide +kernel))) (vx_c (va_Nw.use rfl (hZ.1 (.declares ⟨"java/lang/Exception", "<init>", "(Ljava/lang/String;)V"⟩) (by decide +kernel))) (vx_c (va_Nw.use rfl (hZ.1 (.declares ⟨"java/lang/Throwable", "<init>", "(Ljava/lang/String;)V"⟩) (by decide +kernel))) (vx_n)))))) (by decide +kernel) hZ.2.2.2.1 hZ.2.2.2.2 hS (hl.1.trans hml.symm) dX2_needPlace_28 dX2_needPlace_31 dX2_needPlace_32 dX2_needPlace_34 dX2_needPlace_37 (fun x h => (ht9 x h).elim) (Nat.le_of_ble_eq_true rfl) (Nat.le_of_ble_eq_true rfl) (Nat.le_of_ble_eq_true rfl) (Nat.le_of_ble_eq_true rfl) hlocks (z_xnew (⟨rfl, by omega⟩) hP hK hD hS) hS.2.2 (Nat.le_of_ble_eq_true rfl) (Nat.le_of_ble_eq_true rfl)
abbrev r_X2_needTool : Room := { frames := 6, cells := 1, slots := 6, locals := 91 }
set_option maxHeartbeats 4000000 in
set_option maxRecDepth 100000 in
theorem c_X2_needTool (l : Launch) (hl9 : l.stackTraces = false) (dC : Nat → ClassId) (dI : Nat → Nat → Nat) (sz : Nat) (x : Int) (h1 : rg x) : vx_Met l yX2_needTool wsX2_needTool r_X2_needTool (zP (dC, dI) vwCl ([]) ([]) sz [.int (iI x)]) (zQv (dC, dI) vwCl ([]) ([]) sz (0 ≤ x ∧ x ≤ 3) ([])) (zX (dC, dI) vwCl ([]) ([]) sz (fun E => E = "java/lang/IndexOutOfBoundsException" ∧ ¬ (0 ≤ x ∧ x ≤ 3))) 1 6 (va_A ([]) sz) := by
  refine vx_ofW (cc := cX2_needTool) (maxL := 1) (ret := none) (by decide) rfl ?_
  intro p e s m args below meth c s₁ B hml ht9 hv
  obtain ⟨rfl, hsz, hP, hK, hD0, hZ⟩ := hv
  have hx := B.exec
  have hb := B.bytes
  have hr := B.returns
  have hts0 := atoms_spec (ws := wsX2_needTool) B.pre
  have hts : ∀ w ∈ wsAll, w.before _ s = true := fun w h => hts0 w (List.mem_cons_of_mem _ h)
  have hown : s.vm.findClass RX2 = some m.cls := findClass_of_methodNamed B.named
  have hlocks := B.notSynchronized
  subst hsz
  have hD := hD0.self (sz := s.heap.size)
  obtain ⟨A, hAe⟩ : ∃ A, A = va_A ([]) s.heap.size := ⟨_, rfl⟩
  rw [← hAe] at hD hZ
  have hA : ∀ q : Nat, s.heap.size ≤ q → A q := fun q h => by rw [hAe]; exact Or.inr h
  have hS : va_S A s.heap s.heap [] := va_S.rf
  have hP : va_P (dC, dI) vwCl ([]) s.heap := hP
  have hl := lv_entry ([.int (iI x)]) (n := 1) (Nat.le_of_ble_eq_true rfl)
  rw [lg_entry_eq]
  generalize (lg_sl ([.int (iI x)]) ++ List.replicate (1 - (lg_sl ([.int (iI x)])).length) Slot.unset).toArray = ls at hl ⊢
  have hl : lv_has ls 1 [(0, .int (iI x))] := hl
  refine lv_iload_n hx hb dX2_needTool_0 rfl (lv_at hl 0 rfl) ?_
  refine lv_iconst (v := iI 0) hx hb dX2_needTool_1 rfl ?_
  refine lv_iconst (v := iI 3) hx hb dX2_needTool_2 rfl ?_
  refine z_rcalli (va_runS (As := [.int (iI x), .int (iI 0), .int (iI 3)]) (rest := []) ⟨hx, hb, hml, hown, hts⟩ (c_X2_isWithin l dC dI (s.heap).size x 0 3 (by omega) (by omega) (by omega)) (va_cwS 3 hts g_X2_165 rfl rfl rfl (by decide +kernel) ⟨Nat.le_of_ble_eq_true rfl, Nat.le_of_ble_eq_true rfl⟩) (zP_S z_P0 (hK.sub [] rfl) z_D0 hS (z_free0 hS hA) hZ) rfl rfl hl.1 rfl (lv_room (Nat.le_of_ble_eq_true rfl)) dX2_needTool_3 ⟨Nat.le_of_ble_eq_true rfl, Nat.le_of_ble_eq_true rfl⟩) hP hD hS (z_free0 hS hA) (fun _ h => by cases h) (fun H locs _ hP hD hS _ => ?_)
  refine z_if_ne (tgt := 19) hx hb dX2_needTool_6 (by decide) (isW_rg _ _ _) (fun c6 => ?_) (fun c6 => ?_)
  · have c6 := isW_t.mp c6
    refine W.widen (k := 1) (n := 6) (by omega) (by omega) ?_
    refine vx_ret ?_
    subst hAe
    exact z_vret hx hb hr hlocks hP hK hD hS (by omega) dX2_needTool_19
  · have c6 := isW_f.mp c6
    obtain ⟨sa9, hsa9⟩ := hZ.2.1 (RX2, 171, "no such tool") (by decide +kernel)
    subst hAe
    exact vx_throwS (own := RX2) (cls := "java/lang/IndexOutOfBoundsException") (names := ["java/lang/RuntimeException", "java/lang/Exception"]) hx hb hl9 hown (by decide +kernel) (by decide +kernel) (hts _ wm_16) (hts _ wm_3) hsa9 (vx_hat (L := vx_atS RX2 139 "java/lang/IndexOutOfBoundsException" ["java/lang/RuntimeException", "java/lang/Exception"]) (B := [.castable "java/lang/IndexOutOfBoundsException" "java/lang/IndexOutOfBoundsException", .declares ⟨"java/lang/RuntimeException", "<init>", "(Ljava/lang/String;)V"⟩, .declares ⟨"java/lang/Exception", "<init>", "(Ljava/lang/String;)V"⟩, .declares ⟨"java/lang/Throwable", "<init>", "(Ljava/lang/String;)V"⟩]) (fun w hw => hts w (wsE_in w ((by decide +kernel : ∀ w ∈ (vx_atS RX2 139 "java/lang/IndexOutOfBoundsException" ["java/lang/RuntimeException", "java/lang/Exception"]).filter goodWord, w ∈ wsE) w hw))) (by decide +kernel) (vx_c (va_Nw.use rfl (hZ.1 (.castable "java/lang/IndexOutOfBoundsException" "java/lang/IndexOutOfBoundsException") (by decide +kernel))) (vx_c (va_Nw.use rfl (hZ.1 (.declares ⟨"java/lang/RuntimeException", "<init>", "(Ljava/lang/String;)V"⟩) (by decide +kernel))) (vx_c (va_Nw.use rfl (hZ.1 (.declares ⟨"java/lang/Exception", "<init>", "(Ljava/lang/String;)V"⟩) (by decide +kernel))) (vx_c (va_Nw.use rfl (hZ.1 (.declares ⟨"java/lang/Throwable", "<init>", "(Ljava/lang/String;)V"⟩) (by decide +kernel))) (vx_n)))))) (by decide +kernel) hZ.2.2.2.1 hZ.2.2.2.2 hS (hl.1.trans hml.symm) dX2_needTool_9 dX2_needTool_12 dX2_needTool_13 dX2_needTool_15 dX2_needTool_18 (fun x h => (ht9 x h).elim) (Nat.le_of_ble_eq_true rfl) (Nat.le_of_ble_eq_true rfl) (Nat.le_of_ble_eq_true rfl) (Nat.le_of_ble_eq_true rfl) hlocks (z_xnew (⟨rfl, by omega⟩) hP hK hD hS) hS.2.2 (Nat.le_of_ble_eq_true rfl) (Nat.le_of_ble_eq_true rfl)
abbrev r_X2_needWithin : Room := { frames := 6, cells := 1, slots := 6, locals := 91 }
set_option maxHeartbeats 4000000 in
set_option maxRecDepth 100000 in
theorem c_X2_needWithin (l : Launch) (hl9 : l.stackTraces = false) (dC : Nat → ClassId) (dI : Nat → Nat → Nat) (sz : Nat) (x y z : Int) (h1 : rg x) (h2 : rg y) (h3 : rg z) : vx_Met l yX2_needWithin wsX2_needWithin r_X2_needWithin (zP (dC, dI) vwCl ([]) ([]) sz [.int (iI x), .int (iI y), .int (iI z)]) (zQv (dC, dI) vwCl ([]) ([]) sz (y ≤ x ∧ x ≤ z) ([])) (zX (dC, dI) vwCl ([]) ([]) sz (fun E => E = "java/lang/IllegalArgumentException" ∧ ¬ (y ≤ x ∧ x ≤ z))) 1 6 (va_A ([]) sz) := by
  refine vx_ofW (cc := cX2_needWithin) (maxL := 3) (ret := none) (by decide) rfl ?_
  intro p e s m args below meth c s₁ B hml ht9 hv
  obtain ⟨rfl, hsz, hP, hK, hD0, hZ⟩ := hv
  have hx := B.exec
  have hb := B.bytes
  have hr := B.returns
  have hts0 := atoms_spec (ws := wsX2_needWithin) B.pre
  have hts : ∀ w ∈ wsAll, w.before _ s = true := fun w h => hts0 w (List.mem_cons_of_mem _ h)
  have hown : s.vm.findClass RX2 = some m.cls := findClass_of_methodNamed B.named
  have hlocks := B.notSynchronized
  subst hsz
  have hD := hD0.self (sz := s.heap.size)
  obtain ⟨A, hAe⟩ : ∃ A, A = va_A ([]) s.heap.size := ⟨_, rfl⟩
  rw [← hAe] at hD hZ
  have hA : ∀ q : Nat, s.heap.size ≤ q → A q := fun q h => by rw [hAe]; exact Or.inr h
  have hS : va_S A s.heap s.heap [] := va_S.rf
  have hP : va_P (dC, dI) vwCl ([]) s.heap := hP
  have hl := lv_entry ([.int (iI x), .int (iI y), .int (iI z)]) (n := 3) (Nat.le_of_ble_eq_true rfl)
  rw [lg_entry_eq]
  generalize (lg_sl ([.int (iI x), .int (iI y), .int (iI z)]) ++ List.replicate (3 - (lg_sl ([.int (iI x), .int (iI y), .int (iI z)])).length) Slot.unset).toArray = ls at hl ⊢
  have hl : lv_has ls 3 [(0, .int (iI x)), (1, .int (iI y)), (2, .int (iI z))] := hl
  refine lv_iload_n hx hb dX2_needWithin_0 rfl (lv_at hl 0 rfl) ?_
  refine lv_iload_n hx hb dX2_needWithin_1 rfl (lv_at hl 1 rfl) ?_
  refine lv_iload_n hx hb dX2_needWithin_2 rfl (lv_at hl 2 rfl) ?_
  refine z_rcalli (va_runS (As := [.int (iI x), .int (iI y), .int (iI z)]) (rest := []) ⟨hx, hb, hml, hown, hts⟩ (c_X2_isWithin l dC dI (s.heap).size x y z (by omega) (by omega) (by omega)) (va_cwS 3 hts g_X2_165 rfl rfl rfl (by decide +kernel) ⟨Nat.le_of_ble_eq_true rfl, Nat.le_of_ble_eq_true rfl⟩) (zP_S z_P0 (hK.sub [] rfl) z_D0 hS (z_free0 hS hA) hZ) rfl rfl hl.1 rfl (lv_room (Nat.le_of_ble_eq_true rfl)) dX2_needWithin_3 ⟨Nat.le_of_ble_eq_true rfl, Nat.le_of_ble_eq_true rfl⟩) hP hD hS (z_free0 hS hA) (fun _ h => by cases h) (fun H locs _ hP hD hS _ => ?_)
  refine z_if_ne (tgt := 19) hx hb dX2_needWithin_6 (by decide) (isW_rg _ _ _) (fun c6 => ?_) (fun c6 => ?_)
  · have c6 := isW_t.mp c6
    refine W.widen (k := 1) (n := 6) (by omega) (by omega) ?_
    refine vx_ret ?_
    subst hAe
    exact z_vret hx hb hr hlocks hP hK hD hS (by omega) dX2_needWithin_19
  · have c6 := isW_f.mp c6
    obtain ⟨sa9, hsa9⟩ := hZ.2.1 (RX2, 175, "a number is not as said") (by decide +kernel)
    subst hAe
    exact vx_throwS (own := RX2) (cls := "java/lang/IllegalArgumentException") (names := ["java/lang/RuntimeException", "java/lang/Exception"]) hx hb hl9 hown (by decide +kernel) (by decide +kernel) (hts _ wm_72) (hts _ wm_4) hsa9 (vx_hat (L := vx_atS RX2 177 "java/lang/IllegalArgumentException" ["java/lang/RuntimeException", "java/lang/Exception"]) (B := [.castable "java/lang/IllegalArgumentException" "java/lang/IllegalArgumentException", .declares ⟨"java/lang/RuntimeException", "<init>", "(Ljava/lang/String;)V"⟩, .declares ⟨"java/lang/Exception", "<init>", "(Ljava/lang/String;)V"⟩, .declares ⟨"java/lang/Throwable", "<init>", "(Ljava/lang/String;)V"⟩]) (fun w hw => hts w (wsE_in w ((by decide +kernel : ∀ w ∈ (vx_atS RX2 177 "java/lang/IllegalArgumentException" ["java/lang/RuntimeException", "java/lang/Exception"]).filter goodWord, w ∈ wsE) w hw))) (by decide +kernel) (vx_c (va_Nw.use rfl (hZ.1 (.castable "java/lang/IllegalArgumentException" "java/lang/IllegalArgumentException") (by decide +kernel))) (vx_c (va_Nw.use rfl (hZ.1 (.declares ⟨"java/lang/RuntimeException", "<init>", "(Ljava/lang/String;)V"⟩) (by decide +kernel))) (vx_c (va_Nw.use rfl (hZ.1 (.declares ⟨"java/lang/Exception", "<init>", "(Ljava/lang/String;)V"⟩) (by decide +kernel))) (vx_c (va_Nw.use rfl (hZ.1 (.declares ⟨"java/lang/Throwable", "<init>", "(Ljava/lang/String;)V"⟩) (by decide +kernel))) (vx_n)))))) (by decide +kernel) hZ.2.2.2.1 hZ.2.2.2.2 hS (hl.1.trans hml.symm) dX2_needWithin_9 dX2_needWithin_12 dX2_needWithin_13 dX2_needWithin_15 dX2_needWithin_18 (fun x h => (ht9 x h).elim) (Nat.le_of_ble_eq_true rfl) (Nat.le_of_ble_eq_true rfl) (Nat.le_of_ble_eq_true rfl) (Nat.le_of_ble_eq_true rfl) hlocks (z_xnew (⟨rfl, by omega⟩) hP hK hD hS) hS.2.2 (Nat.le_of_ble_eq_true rfl) (Nat.le_of_ble_eq_true rfl)
end
section
theorem g_X2_98 : GoodIn wsAll (wsV RX2 98 RX0 yX0_depthOver wsX0_depthOver) := z_good (show ∀ w ∈ (Cond.methodLink RX2 98 yX0_depthOver :: Cond.instanceMethod yX0_depthOver :: Cond.selects RX0 yX0_depthOver yX0_depthOver :: Cond.initialized RX0 :: Cond.code yX0_depthOver prog_2_method_3_code 3 (some .int) :: wsAll), w ∈ wsAll from List.forall_mem_cons.mpr ⟨wm_292, List.forall_mem_cons.mpr ⟨wm_293, List.forall_mem_cons.mpr ⟨wm_294, List.forall_mem_cons.mpr ⟨wm_111, List.forall_mem_cons.mpr ⟨wm_295, fun _ h => h⟩⟩⟩⟩⟩)
theorem g_X2_68 : GoodIn wsAll (wsV RX2 68 RX2 yX2_placeAt wsX2_placeAt) := z_good (show ∀ w ∈ (Cond.methodLink RX2 68 yX2_placeAt :: Cond.instanceMethod yX2_placeAt :: Cond.selects RX2 yX2_placeAt yX2_placeAt :: Cond.initialized RX2 :: Cond.code yX2_placeAt prog_1_method_23_code 3 (some .int) :: wsAll), w ∈ wsAll from List.forall_mem_cons.mpr ⟨wm_240, List.forall_mem_cons.mpr ⟨wm_241, List.forall_mem_cons.mpr ⟨wm_561, List.forall_mem_cons.mpr ⟨wm_109, List.forall_mem_cons.mpr ⟨wm_242, fun _ h => h⟩⟩⟩⟩⟩)
abbrev r_X2_liftOver : Room := { frames := 2, cells := 0, slots := 0, locals := 44 }
set_option maxHeartbeats 4000000 in
set_option maxRecDepth 100000 in
theorem lp_X2_liftOver_68 {p : Program} {l : Launch} {e : Env} {s : State} {m : MethodId} {args : Array Value} {below : List Frame} {meth : Method} {c : Code} {Q : State → Prop} {A : Nat → Prop} {dC : Nat → ClassId} {dI : Nat → Nat → Nat} (a : Nat → Nat) (cA : Nat → ClassId) (w h : Nat) (wa ma ka li : Nat → Int) (hk sh : Int) (T : TK) (kd rd : Nat → Int) (dp : Nat → Nat → Int) (j : Nat) (x y u v g : Int) (hx : p.tables.exec = Jvm.exec) (hb : c.code = cX2_liftOver) (hml : c.maxLocals = 10) (hown : s.vm.findClass RX2 = some m.cls) (hts : ∀ w ∈ wsAll, w.before args s = true) (hA : ∀ q : Nat, s.heap.size ≤ q → A q) (hZ : zZ A s s.heap) (hK : va_K (dC, dI) vwCl (rpT cA) s) (hw : 1 ≤ w ∧ w ≤ 20) (hh : 1 ≤ h ∧ h ≤ 20) (hj : j < 4) (hrd : 0 ≤ rd j ∧ rd j ≤ 5) (hx0 : 0 ≤ x ∧ x < (w : Int)) (hy0 : 0 ≤ y ∧ y < (h : Int)) (hdp : bd (dp j) (-1) 5) (hwa : bd wa 0 1000) (hu : 0 ≤ u ∧ u < (h : Int)) (hg : 0 ≤ g ∧ g ≤ 1000) (kk : ∀ (H : Heap) (locs : List Loc) (ls : Array Slot), va_P (dC, dI) vwCl (rpW a cA w h wa ma ka li hk sh T kd rd dp) H → va_D A (rpW a cA w h wa ma ka li hk sh T kd rd dp) → va_S A s.heap H locs → lv_has ls 10 [(0, .ref (a 0)), (1, .ref (a (8 + j))), (2, .int (iI x)), (3, .int (iI y)), (4, .int (iI (lfR w wa (dp j) (rd j) x y u (nB w (rd j) x) g))), (5, .int (iI (hiB w (rd j) x))), (6, .int (iI v)), (7, .int (iI u)), (8, .int (iI (loB (rd j) x + ((nB w (rd j) x : Nat) : Int))))] → W p l e r_X2_liftOver s m args below meth c H locs 0 0 Q (F0 m 124 ls [])) : ∀ (n i : Nat), i + n = nB w (rd j) x → ∀ (H : Heap) (locs : List Loc) (ls : Array Slot), va_P (dC, dI) vwCl (rpW a cA w h wa ma ka li hk sh T kd rd dp) H → va_D A (rpW a cA w h wa ma ka li hk sh T kd rd dp) → va_S A s.heap H locs → lv_has ls 10 [(0, .ref (a 0)), (1, .ref (a (8 + j))), (2, .int (iI x)), (3, .int (iI y)), (4, .int (iI (lfR w wa (dp j) (rd j) x y u i g))), (5, .int (iI (hiB w (rd j) x))), (6, .int (iI v)), (7, .int (iI u)), (8, .int (iI (loB (rd j) x + ((i : Nat) : Int))))] → W p l e r_X2_liftOver s m args below meth c H locs 0 0 Q (F0 m 68 ls []) := by
  intro n
  induction n with
  | zero =>
    intro i hi H locs ls hP hD hS hl
    have hi9 : nB w (rd j) x = i := by omega
    subst hi9
    have hB := B_out (n := w) (r := rd j) (x := x) hx0.1 hx0.2 hrd.1
    refine lv_iload hx hb dX2_liftOver_68 (lv_at hl 8 rfl) ?_
    refine lv_iload hx hb dX2_liftOver_70 (lv_at hl 5 rfl) ?_
    refine z_icmp_gt (tgt := 124) hx hb dX2_liftOver_72 (by decide) (by omega) (by omega) (fun c72 => ?_) (fun c72 => by exfalso; omega)
    exact kk _ _ _ hP hD hS (lv_sub hl [0, 1, 2, 3, 4, 5, 6, 7, 8] rfl)
  | succ n ih =>
    intro i hi H locs ls hP hD hS hl
    have hB := B_in (n := w) (i := i) (r := rd j) (x := x) (by omega) hx0.1 hx0.2 hrd.1
    refine lv_iload hx hb dX2_liftOver_68 (lv_at hl 8 rfl) ?_
    refine lv_iload hx hb dX2_liftOver_70 (lv_at hl 5 rfl) ?_
    refine z_icmp_gt (tgt := 124) hx hb dX2_liftOver_72 (by decide) (by omega) (by omega) (fun c72 => by exfalso; omega) (fun c72 => ?_)
    refine lv_aload_n hx hb dX2_liftOver_75 rfl (lv_at hl 1 rfl) ?_
    refine lv_iload hx hb dX2_liftOver_76 (lv_at hl 8 rfl) ?_
    refine lv_iload_n hx hb dX2_liftOver_78 rfl (lv_at hl 2 rfl) ?_
    refine z_sub hx hb dX2_liftOver_79 ?_
    refine lv_iload hx hb dX2_liftOver_80 (lv_at hl 7 rfl) ?_
    refine lv_iload_n hx hb dX2_liftOver_82 rfl (lv_at hl 3 rfl) ?_
    refine z_sub hx hb dX2_liftOver_83 ?_
    have hdv := dOv_rg (dp := dp j) (r := rd j) (dx := loB (rd j) x + ((i : Nat) : Int) - x) (dy := u - y) hdp
    have hgr := lfR_rg (w := w) (r := rd j) (x := x) (y := y) (py := u) (n := i) hwa hdp hg
    have hwb := hwa (u * (w : Int) + (loB (rd j) x + ((i : Nat) : Int))).toNat
    have hix := z_ix (w := w) (h := h) hB.1 (by omega) hu.1 hu.2
    have hwh := z_wh hw.2 hh.2
    have hsub := rpW_sub (a := a) (cA := cA) (w := w) (h := h) (wa := wa) (ma := ma) (ka := ka) (li := li) (hk := hk) (sh := sh) (T := T) (kd := kd) (rd := rd) (dp := dp) hj
    have hFc := z_freeR hsub hD hS hA
    refine z_rcalli (va_runV (As := [.int (iI ((loB (rd j) x + ((i : Nat) : Int)) - x)), .int (iI (u - y))]) (rest := []) ⟨hx, hb, hml, hown, hts⟩ (c_X0_depthOver l dC dI (H).size (a (8 + j)) (a (12 + j)) (cA (6 + j)) (kd j) (rd j) (dp j) ((loB (rd j) x + ((i : Nat) : Int)) - x) (u - y) (by omega) (by omega) hrd) (cwV 2 hts g_X2_98 rfl rfl rfl (by decide +kernel) ⟨Nat.le_of_ble_eq_true rfl, Nat.le_of_ble_eq_true rfl⟩) (zP_V (ci := 0) (q0 := 0) rfl rfl (z_subP hsub hP) (rpT_K hj hK) (rpW_DT hj hD) hS hFc hZ) rfl rfl hl.1 rfl (lv_room (Nat.le_of_ble_eq_true rfl)) dX2_liftOver_84 ⟨Nat.le_of_ble_eq_true rfl, Nat.le_of_ble_eq_true rfl⟩) hP hD hS hFc (hsub) (fun H locs _ hP hD hS _ => ?_)
    refine lv_istore (lv' := [(9, .int (iI (dOv (dp j) (rd j) ((loB (rd j) x + ((i : Nat) : Int)) - x) (u - y)))), (0, .ref (a 0)), (1, .ref (a (8 + j))), (2, .int (iI x)), (3, .int (iI y)), (4, .int (iI (lfR w wa (dp j) (rd j) x y u i g))), (5, .int (iI (hiB w (rd j) x))), (6, .int (iI v)), (7, .int (iI u)), (8, .int (iI (loB (rd j) x + ((i : Nat) : Int))))]) hx hb dX2_liftOver_87 hl (by decide) rfl (fun ls hl => ?_)
    refine lv_iload hx hb dX2_liftOver_89 (lv_at hl 0 rfl) ?_
    refine lv_iconst (v := iI (-1)) hx hb dX2_liftOver_91 rfl ?_
    refine z_icmp_eq (tgt := 118) hx hb dX2_liftOver_92 (by decide) (by omega) (by omega) (fun c92 => ?_) (fun c92 => ?_)
    · refine lv_iinc (v := iI (loB (rd j) x + (((i + 1) : Nat) : Int))) (lv' := [(8, .int (iI (loB (rd j) x + (((i + 1) : Nat) : Int)))), (9, .int (iI (dOv (dp j) (rd j) ((loB (rd j) x + ((i : Nat) : Int)) - x) (u - y)))), (0, .ref (a 0)), (1, .ref (a (8 + j))), (2, .int (iI x)), (3, .int (iI y)), (4, .int (iI (lfR w wa (dp j) (rd j) x y u i g))), (5, .int (iI (hiB w (rd j) x))), (6, .int (iI v)), (7, .int (iI u))]) hx hb dX2_liftOver_118 hl (k := 9) rfl ((iI_add _ _).trans (congrArg iI (by omega))) (by decide) rfl (fun ls hl => ?_)
      refine lv_goto (tgt := 68) hx hb dX2_liftOver_121 (by decide) ?_
      have eg : lfR w wa (dp j) (rd j) x y u (i + 1) g = lfR w wa (dp j) (rd j) x y u i g := by
        show lfS w wa (dp j) (rd j) x y (loB (rd j) x + ((i : Nat) : Int)) u (lfR w wa (dp j) (rd j) x y u i g) = _
        unfold lfS
        split <;> first | rfl | (exfalso; omega)
      exact ih (i + 1) (by omega) _ _ _ hP hD hS (by rw [eg]; exact lv_sub hl [2, 3, 4, 5, 6, 7, 8, 9, 0] rfl)
    · refine lv_iload hx hb dX2_liftOver_95 (lv_at hl 5 rfl) ?_
      refine lv_aload_n hx hb dX2_liftOver_97 rfl (lv_at hl 1 rfl) ?_
      refine va_get (D := (dC, dI)) (ci := 2) (v := .ref (a 1)) (C := RX2) (T := TX2) (N := 10) hx hb hts inX2 hown hK hP 0 rfl rfl 2 (by decide) (hts _ wm_173) (fun _ h9 => h9) rfl dX2_liftOver_98 ?_
      refine lv_aload_n hx hb dX2_liftOver_101 rfl (lv_at hl 1 rfl) ?_
      refine lv_iload hx hb dX2_liftOver_102 (lv_at hl 9 rfl) ?_
      refine lv_iload hx hb dX2_liftOver_104 (lv_at hl 8 rfl) ?_
      have hFc := z_freeR (wc := rpW a cA w h wa ma ka li hk sh T kd rd dp) (fun _ h => h) hD hS hA
      refine z_wcalli (va_runV (As := [.int (iI (loB (rd j) x + ((i : Nat) : Int))), .int (iI u)]) (rest := [.ref (a 1), .int (iI (lfR w wa (dp j) (rd j) x y u i g))]) ⟨hx, hb, hml, hown, hts⟩ (c_X2_placeAt l dC dI (H).size a cA w h wa ma ka li hk sh T kd rd dp (loB (rd j) x + ((i : Nat) : Int)) u) (cwV 2 hts g_X2_68 rfl rfl rfl (by decide +kernel) ⟨Nat.le_of_ble_eq_true rfl, Nat.le_of_ble_eq_true rfl⟩) (zP_V (ci := 2) (q0 := 0) rfl rfl hP hK hD hS hFc hZ) rfl rfl hl.1 rfl (lv_room (Nat.le_of_ble_eq_true rfl)) dX2_liftOver_106 ⟨Nat.le_of_ble_eq_true rfl, Nat.le_of_ble_eq_true rfl⟩) hS hFc (fun H locs _ hP hD hS _ => ?_)
      have hP : va_P (dC, dI) vwCl (rpW a cA w h wa ma ka li hk sh T kd rd dp) H := hP
      have hD : va_D A (rpW a cA w h wa ma ka li hk sh T kd rd dp) := hD
      refine z_iald (f := wa) (i := u * (w : Int) + (loB (rd j) x + ((i : Nat) : Int))) hx hb hK hP 1 0 rfl rfl (hix) (by omega) dX2_liftOver_109 ?_
      refine lv_iload hx hb dX2_liftOver_110 (lv_at hl 0 rfl) ?_
      refine z_sub hx hb dX2_liftOver_112 ?_
      refine z_max hx hb (hml.trans hl.1.symm) hown (hts _ wm_127) (hts _ wm_128) (hts _ wm_110) (hts _ wm_129) (Nat.le_of_ble_eq_true rfl) (Nat.le_of_ble_eq_true rfl) (Nat.le_of_ble_eq_true rfl) (Nat.le_of_ble_eq_true rfl) dX2_liftOver_113 (by omega) (by omega) ?_
      refine lv_istore (lv' := [(4, .int (iI (max (lfR w wa (dp j) (rd j) x y u i g) ((wa (u * (w : Int) + (loB (rd j) x + ((i : Nat) : Int))).toNat) - (dOv (dp j) (rd j) ((loB (rd j) x + ((i : Nat) : Int)) - x) (u - y)))))), (9, .int (iI (dOv (dp j) (rd j) ((loB (rd j) x + ((i : Nat) : Int)) - x) (u - y)))), (0, .ref (a 0)), (1, .ref (a (8 + j))), (2, .int (iI x)), (3, .int (iI y)), (5, .int (iI (hiB w (rd j) x))), (6, .int (iI v)), (7, .int (iI u)), (8, .int (iI (loB (rd j) x + ((i : Nat) : Int))))]) hx hb dX2_liftOver_116 hl (by decide) rfl (fun ls hl => ?_)
      refine lv_iinc (v := iI (loB (rd j) x + (((i + 1) : Nat) : Int))) (lv' := [(8, .int (iI (loB (rd j) x + (((i + 1) : Nat) : Int)))), (4, .int (iI (max (lfR w wa (dp j) (rd j) x y u i g) ((wa (u * (w : Int) + (loB (rd j) x + ((i : Nat) : Int))).toNat) - (dOv (dp j) (rd j) ((loB (rd j) x + ((i : Nat) : Int)) - x) (u - y)))))), (9, .int (iI (dOv (dp j) (rd j) ((loB (rd j) x + ((i : Nat) : Int)) - x) (u - y)))), (0, .ref (a 0)), (1, .ref (a (8 + j))), (2, .int (iI x)), (3, .int (iI y)), (5, .int (iI (hiB w (rd j) x))), (6, .int (iI v)), (7, .int (iI u))]) hx hb dX2_liftOver_118 hl (k := 9) rfl ((iI_add _ _).trans (congrArg iI (by omega))) (by decide) rfl (fun ls hl => ?_)
      refine lv_goto (tgt := 68) hx hb dX2_liftOver_121 (by decide) ?_
      have eg : lfR w wa (dp j) (rd j) x y u (i + 1) g = max (lfR w wa (dp j) (rd j) x y u i g) ((wa (u * (w : Int) + (loB (rd j) x + ((i : Nat) : Int))).toNat) - (dOv (dp j) (rd j) ((loB (rd j) x + ((i : Nat) : Int)) - x) (u - y))) := by
        show lfS w wa (dp j) (rd j) x y (loB (rd j) x + ((i : Nat) : Int)) u (lfR w wa (dp j) (rd j) x y u i g) = _
        unfold lfS
        split <;> first | rfl | (exfalso; omega)
      exact ih (i + 1) (by omega) _ _ _ hP hD hS (by rw [eg]; exact lv_sub hl [3, 4, 5, 6, 1, 7, 8, 9, 0] rfl)
set_option maxHeartbeats 4000000 in
set_option maxRecDepth 100000 in
theorem lp_X2_liftOver_49 {p : Program} {l : Launch} {e : Env} {s : State} {m : MethodId} {args : Array Value} {below : List Frame} {meth : Method} {c : Code} {Q : State → Prop} {A : Nat → Prop} {dC : Nat → ClassId} {dI : Nat → Nat → Nat} (a : Nat → Nat) (cA : Nat → ClassId) (w h : Nat) (wa ma ka li : Nat → Int) (hk sh : Int) (T : TK) (kd rd : Nat → Int) (dp : Nat → Nat → Int) (j : Nat) (x y : Int) (hx : p.tables.exec = Jvm.exec) (hb : c.code = cX2_liftOver) (hml : c.maxLocals = 10) (hown : s.vm.findClass RX2 = some m.cls) (hts : ∀ w ∈ wsAll, w.before args s = true) (hA : ∀ q : Nat, s.heap.size ≤ q → A q) (hZ : zZ A s s.heap) (hK : va_K (dC, dI) vwCl (rpT cA) s) (hw : 1 ≤ w ∧ w ≤ 20) (hh : 1 ≤ h ∧ h ≤ 20) (hj : j < 4) (hrd : 0 ≤ rd j ∧ rd j ≤ 5) (hx0 : 0 ≤ x ∧ x < (w : Int)) (hy0 : 0 ≤ y ∧ y < (h : Int)) (hdp : bd (dp j) (-1) 5) (hwa : bd wa 0 1000) (kk : ∀ (H : Heap) (locs : List Loc) (ls : Array Slot), va_P (dC, dI) vwCl (rpW a cA w h wa ma ka li hk sh T kd rd dp) H → va_D A (rpW a cA w h wa ma ka li hk sh T kd rd dp) → va_S A s.heap H locs → lv_has ls 10 [(0, .ref (a 0)), (1, .ref (a (8 + j))), (2, .int (iI x)), (3, .int (iI y)), (4, .int (iI (lfF w h wa (dp j) (rd j) x y (nB h (rd j) y)))), (5, .int (iI (hiB w (rd j) x))), (6, .int (iI (hiB h (rd j) y))), (7, .int (iI (loB (rd j) y + ((nB h (rd j) y : Nat) : Int))))] → W p l e r_X2_liftOver s m args below meth c H locs 0 0 Q (F0 m 130 ls [])) : ∀ (n i : Nat), i + n = nB h (rd j) y → ∀ (H : Heap) (locs : List Loc) (ls : Array Slot), va_P (dC, dI) vwCl (rpW a cA w h wa ma ka li hk sh T kd rd dp) H → va_D A (rpW a cA w h wa ma ka li hk sh T kd rd dp) → va_S A s.heap H locs → lv_has ls 10 [(0, .ref (a 0)), (1, .ref (a (8 + j))), (2, .int (iI x)), (3, .int (iI y)), (4, .int (iI (lfF w h wa (dp j) (rd j) x y i))), (5, .int (iI (hiB w (rd j) x))), (6, .int (iI (hiB h (rd j) y))), (7, .int (iI (loB (rd j) y + ((i : Nat) : Int))))] → W p l e r_X2_liftOver s m args below meth c H locs 0 0 Q (F0 m 49 ls []) := by
  intro n
  induction n with
  | zero =>
    intro i hi H locs ls hP hD hS hl
    have hi9 : nB h (rd j) y = i := by omega
    subst hi9
    have hB := B_out (n := h) (r := rd j) (x := y) hy0.1 hy0.2 hrd.1
    refine lv_iload hx hb dX2_liftOver_49 (lv_at hl 7 rfl) ?_
    refine lv_iload hx hb dX2_liftOver_51 (lv_at hl 6 rfl) ?_
    refine z_icmp_gt (tgt := 130) hx hb dX2_liftOver_53 (by decide) (by omega) (by omega) (fun c53 => ?_) (fun c53 => by exfalso; omega)
    exact kk _ _ _ hP hD hS (lv_sub hl [0, 1, 2, 3, 4, 5, 6, 7] rfl)
  | succ n ih =>
    intro i hi H locs ls hP hD hS hl
    have hB := B_in (n := h) (i := i) (r := rd j) (x := y) (by omega) hy0.1 hy0.2 hrd.1
    refine lv_iload hx hb dX2_liftOver_49 (lv_at hl 7 rfl) ?_
    refine lv_iload hx hb dX2_liftOver_51 (lv_at hl 6 rfl) ?_
    refine z_icmp_gt (tgt := 130) hx hb dX2_liftOver_53 (by decide) (by omega) (by omega) (fun c53 => by exfalso; omega) (fun c53 => ?_)
    refine lv_iconst (v := iI 0) hx hb dX2_liftOver_56 rfl ?_
    refine lv_iload_n hx hb dX2_liftOver_57 rfl (lv_at hl 2 rfl) ?_
    refine lv_aload_n hx hb dX2_liftOver_58 rfl (lv_at hl 1 rfl) ?_
    refine va_getN (D := (dC, dI)) (ci := 0) (v := .int (iI (rd j))) (C := RX0) (T := TX0) (N := 3) hx hb hts inX0 hown hK hP (8 + j) (rpW_tool hj) rfl 1 (by decide) (va_Nw.use rfl (hZ.1 (.fieldLinkNest RX2 181 RX0 "radius" "I" RX2) (by decide +kernel))) (fun _ h9 => h9) rfl dX2_liftOver_59 ?_
    refine z_sub hx hb dX2_liftOver_62 ?_
    refine z_max hx hb (hml.trans hl.1.symm) hown (hts _ wm_127) (hts _ wm_128) (hts _ wm_110) (hts _ wm_129) (Nat.le_of_ble_eq_true rfl) (Nat.le_of_ble_eq_true rfl) (Nat.le_of_ble_eq_true rfl) (Nat.le_of_ble_eq_true rfl) dX2_liftOver_63 (by omega) (by omega) ?_
    refine z_top (b := loB (rd j) x + ((0 : Nat) : Int)) (by unfold loB; omega) ?_
    refine lv_istore (lv' := [(8, .int (iI (loB (rd j) x + ((0 : Nat) : Int)))), (0, .ref (a 0)), (1, .ref (a (8 + j))), (2, .int (iI x)), (3, .int (iI y)), (4, .int (iI (lfF w h wa (dp j) (rd j) x y i))), (5, .int (iI (hiB w (rd j) x))), (6, .int (iI (hiB h (rd j) y))), (7, .int (iI (loB (rd j) y + ((i : Nat) : Int))))]) hx hb dX2_liftOver_66 hl (by decide) rfl (fun ls hl => ?_)
    refine lp_X2_liftOver_68 a cA w h wa ma ka li hk sh T kd rd dp j x y (loB (rd j) y + ((i : Nat) : Int)) (hiB h (rd j) y) (lfF w h wa (dp j) (rd j) x y i) hx hb hml hown hts hA hZ hK (hw) (hh) (hj) (hrd) (hx0) (hy0) (hdp) (hwa) (⟨hB.1, by omega⟩) (lfF_rg hwa hdp) (fun H locs ls hP hD hS hl => ?_)  (nB w (rd j) x) 0 (by omega) _ _ _ hP hD hS (lv_sub hl [1, 2, 3, 4, 5, 6, 7, 8, 0] rfl)
    have hP : va_P (dC, dI) vwCl (rpW a cA w h wa ma ka li hk sh T kd rd dp) H := hP
    have hD : va_D A (rpW a cA w h wa ma ka li hk sh T kd rd dp) := hD
    have hl : lv_has ls 10 [(0, .ref (a 0)), (1, .ref (a (8 + j))), (2, .int (iI x)), (3, .int (iI y)), (4, .int (iI (lfR w wa (dp j) (rd j) x y (loB (rd j) y + ((i : Nat) : Int)) (nB w (rd j) x) (lfF w h wa (dp j) (rd j) x y i)))), (5, .int (iI (hiB w (rd j) x))), (6, .int (iI (hiB h (rd j) y))), (7, .int (iI (loB (rd j) y + ((i : Nat) : Int)))), (8, .int (iI (loB (rd j) x + ((nB w (rd j) x : Nat) : Int))))] := hl
    refine lv_iinc (v := iI (loB (rd j) y + (((i + 1) : Nat) : Int))) (lv' := [(7, .int (iI (loB (rd j) y + (((i + 1) : Nat) : Int)))), (0, .ref (a 0)), (1, .ref (a (8 + j))), (2, .int (iI x)), (3, .int (iI y)), (4, .int (iI (lfR w wa (dp j) (rd j) x y (loB (rd j) y + ((i : Nat) : Int)) (nB w (rd j) x) (lfF w h wa (dp j) (rd j) x y i)))), (5, .int (iI (hiB w (rd j) x))), (6, .int (iI (hiB h (rd j) y))), (8, .int (iI (loB (rd j) x + ((nB w (rd j) x : Nat) : Int))))]) hx hb dX2_liftOver_124 hl (k := 7) rfl ((iI_add _ _).trans (congrArg iI (by omega))) (by decide) rfl (fun ls hl => ?_)
    refine lv_goto (tgt := 49) hx hb dX2_liftOver_127 (by decide) ?_
    exact ih (i + 1) (by omega) _ _ _ hP hD hS (lv_sub hl [1, 2, 3, 4, 5, 6, 7, 0] rfl)
set_option maxHeartbeats 4000000 in
set_option maxRecDepth 100000 in
theorem c_X2_liftOver (l : Launch) (dC : Nat → ClassId) (dI : Nat → Nat → Nat) (sz : Nat) (a : Nat → Nat) (cA : Nat → ClassId) (w h : Nat) (wa ma ka li : Nat → Int) (hk sh : Int) (T : TK) (kd rd : Nat → Int) (dp : Nat → Nat → Int) (j : Nat) (x y : Int) (hw : 1 ≤ w ∧ w ≤ 20) (hh : 1 ≤ h ∧ h ≤ 20) (hj : j < 4) (hrd : 0 ≤ rd j ∧ rd j ≤ 5) (hx0 : 0 ≤ x ∧ x < (w : Int)) (hy0 : 0 ≤ y ∧ y < (h : Int)) (hdp : bd (dp j) (-1) 5) (hwa : bd wa 0 1000) : Met l yX2_liftOver wsX2_liftOver r_X2_liftOver (zP (dC, dI) vwCl (rpT cA) (rpW a cA w h wa ma ka li hk sh T kd rd dp) sz [.ref (a 0), .ref (a (8 + j)), .int (iI x), .int (iI y)]) (zQi (dC, dI) vwCl (rpT cA) (rpW a cA w h wa ma ka li hk sh T kd rd dp) sz (True) (lfF w h wa (dp j) (rd j) x y (nB h (rd j) y)) (rpW a cA w h wa ma ka li hk sh T kd rd dp)) 0 0 (va_A (rpW a cA w h wa ma ka li hk sh T kd rd dp) sz) := by
  refine Met.ofW (cc := cX2_liftOver) (maxL := 10) (ret := (some .int)) (by decide) rfl ?_
  intro p e s m args below meth c s₁ B hml hv
  obtain ⟨rfl, hsz, hP, hK, hD0, hZ⟩ := hv
  have hx := B.exec
  have hb := B.bytes
  have hr := B.returns
  have hts0 := atoms_spec (ws := wsX2_liftOver) B.pre
  have hts : ∀ w ∈ wsAll, w.before _ s = true := fun w h => hts0 w (List.mem_cons_of_mem _ h)
  have hown : s.vm.findClass RX2 = some m.cls := findClass_of_methodNamed B.named
  have hlocks := B.notSynchronized
  subst hsz
  have hD := hD0.self (sz := s.heap.size)
  obtain ⟨A, hAe⟩ : ∃ A, A = va_A (rpW a cA w h wa ma ka li hk sh T kd rd dp) s.heap.size := ⟨_, rfl⟩
  rw [← hAe] at hD hZ
  have hA : ∀ q : Nat, s.heap.size ≤ q → A q := fun q h => by rw [hAe]; exact Or.inr h
  have hS : va_S A s.heap s.heap [] := va_S.rf
  have hP : va_P (dC, dI) vwCl (rpW a cA w h wa ma ka li hk sh T kd rd dp) s.heap := hP
  have hl := lv_entry ([.ref (a 0), .ref (a (8 + j)), .int (iI x), .int (iI y)]) (n := 10) (Nat.le_of_ble_eq_true rfl)
  rw [lg_entry_eq]
  generalize (lg_sl ([.ref (a 0), .ref (a (8 + j)), .int (iI x), .int (iI y)]) ++ List.replicate (10 - (lg_sl ([.ref (a 0), .ref (a (8 + j)), .int (iI x), .int (iI y)])).length) Slot.unset).toArray = ls at hl ⊢
  have hl : lv_has ls 10 [(0, .ref (a 0)), (1, .ref (a (8 + j))), (2, .int (iI x)), (3, .int (iI y))] := hl
  refine lv_iconst (v := iI 0) hx hb dX2_liftOver_0 rfl ?_
  refine lv_istore (lv' := [(4, .int (iI 0)), (0, .ref (a 0)), (1, .ref (a (8 + j))), (2, .int (iI x)), (3, .int (iI y))]) hx hb dX2_liftOver_1 hl (by decide) rfl (fun ls hl => ?_)
  refine lv_aload_n hx hb dX2_liftOver_3 rfl (lv_at hl 1 rfl) ?_
  refine va_get (D := (dC, dI)) (ci := 2) (v := .int (iI (w : Int))) (C := RX2) (T := TX2) (N := 10) hx hb hts inX2 hown hK hP 0 rfl rfl 0 (by decide) (hts _ wm_171) (fun _ h9 => h9) rfl dX2_liftOver_4 ?_
  refine lv_iconst (v := iI 1) hx hb dX2_liftOver_7 rfl ?_
  refine z_sub hx hb dX2_liftOver_8 ?_
  refine lv_iload_n hx hb dX2_liftOver_9 rfl (lv_at hl 3 rfl) ?_
  refine lv_aload_n hx hb dX2_liftOver_10 rfl (lv_at hl 2 rfl) ?_
  refine va_getN (D := (dC, dI)) (ci := 0) (v := .int (iI (rd j))) (C := RX0) (T := TX0) (N := 3) hx hb hts inX0 hown hK hP (8 + j) (rpW_tool hj) rfl 1 (by decide) (va_Nw.use rfl (hZ.1 (.fieldLinkNest RX2 181 RX0 "radius" "I" RX2) (by decide +kernel))) (fun _ h9 => h9) rfl dX2_liftOver_11 ?_
  refine z_add hx hb dX2_liftOver_14 ?_
  refine z_min hx hb (hml.trans hl.1.symm) hown (hts _ wm_124) (hts _ wm_125) (hts _ wm_110) (hts _ wm_126) (Nat.le_of_ble_eq_true rfl) (Nat.le_of_ble_eq_true rfl) (Nat.le_of_ble_eq_true rfl) (Nat.le_of_ble_eq_true rfl) dX2_liftOver_15 (by omega) (by omega) ?_
  refine z_top (b := hiB w (rd j) x) (rfl) ?_
  refine lv_istore (lv' := [(5, .int (iI (hiB w (rd j) x))), (4, .int (iI 0)), (0, .ref (a 0)), (1, .ref (a (8 + j))), (2, .int (iI x)), (3, .int (iI y))]) hx hb dX2_liftOver_18 hl (by decide) rfl (fun ls hl => ?_)
  refine lv_aload_n hx hb dX2_liftOver_20 rfl (lv_at hl 2 rfl) ?_
  refine va_get (D := (dC, dI)) (ci := 2) (v := .int (iI (h : Int))) (C := RX2) (T := TX2) (N := 10) hx hb hts inX2 hown hK hP 0 rfl rfl 1 (by decide) (hts _ wm_172) (fun _ h9 => h9) rfl dX2_liftOver_21 ?_
  refine lv_iconst (v := iI 1) hx hb dX2_liftOver_24 rfl ?_
  refine z_sub hx hb dX2_liftOver_25 ?_
  refine lv_iload_n hx hb dX2_liftOver_26 rfl (lv_at hl 5 rfl) ?_
  refine lv_aload_n hx hb dX2_liftOver_27 rfl (lv_at hl 3 rfl) ?_
  refine va_getN (D := (dC, dI)) (ci := 0) (v := .int (iI (rd j))) (C := RX0) (T := TX0) (N := 3) hx hb hts inX0 hown hK hP (8 + j) (rpW_tool hj) rfl 1 (by decide) (va_Nw.use rfl (hZ.1 (.fieldLinkNest RX2 181 RX0 "radius" "I" RX2) (by decide +kernel))) (fun _ h9 => h9) rfl dX2_liftOver_28 ?_
  refine z_add hx hb dX2_liftOver_31 ?_
  refine z_min hx hb (hml.trans hl.1.symm) hown (hts _ wm_124) (hts _ wm_125) (hts _ wm_110) (hts _ wm_126) (Nat.le_of_ble_eq_true rfl) (Nat.le_of_ble_eq_true rfl) (Nat.le_of_ble_eq_true rfl) (Nat.le_of_ble_eq_true rfl) dX2_liftOver_32 (by omega) (by omega) ?_
  refine z_top (b := hiB h (rd j) y) (rfl) ?_
  refine lv_istore (lv' := [(6, .int (iI (hiB h (rd j) y))), (5, .int (iI (hiB w (rd j) x))), (4, .int (iI 0)), (0, .ref (a 0)), (1, .ref (a (8 + j))), (2, .int (iI x)), (3, .int (iI y))]) hx hb dX2_liftOver_35 hl (by decide) rfl (fun ls hl => ?_)
  refine lv_iconst (v := iI 0) hx hb dX2_liftOver_37 rfl ?_
  refine lv_iload_n hx hb dX2_liftOver_38 rfl (lv_at hl 6 rfl) ?_
  refine lv_aload_n hx hb dX2_liftOver_39 rfl (lv_at hl 4 rfl) ?_
  refine va_getN (D := (dC, dI)) (ci := 0) (v := .int (iI (rd j))) (C := RX0) (T := TX0) (N := 3) hx hb hts inX0 hown hK hP (8 + j) (rpW_tool hj) rfl 1 (by decide) (va_Nw.use rfl (hZ.1 (.fieldLinkNest RX2 181 RX0 "radius" "I" RX2) (by decide +kernel))) (fun _ h9 => h9) rfl dX2_liftOver_40 ?_
  refine z_sub hx hb dX2_liftOver_43 ?_
  refine z_max hx hb (hml.trans hl.1.symm) hown (hts _ wm_127) (hts _ wm_128) (hts _ wm_110) (hts _ wm_129) (Nat.le_of_ble_eq_true rfl) (Nat.le_of_ble_eq_true rfl) (Nat.le_of_ble_eq_true rfl) (Nat.le_of_ble_eq_true rfl) dX2_liftOver_44 (by omega) (by omega) ?_
  refine z_top (b := loB (rd j) y + ((0 : Nat) : Int)) (by unfold loB; omega) ?_
  refine lv_istore (lv' := [(7, .int (iI (loB (rd j) y + ((0 : Nat) : Int)))), (6, .int (iI (hiB h (rd j) y))), (5, .int (iI (hiB w (rd j) x))), (4, .int (iI 0)), (0, .ref (a 0)), (1, .ref (a (8 + j))), (2, .int (iI x)), (3, .int (iI y))]) hx hb dX2_liftOver_47 hl (by decide) rfl (fun ls hl => ?_)
  refine lp_X2_liftOver_49 a cA w h wa ma ka li hk sh T kd rd dp j x y hx hb hml hown hts hA hZ hK (hw) (hh) (hj) (hrd) (hx0) (hy0) (hdp) (hwa) (fun H locs ls hP hD hS hl => ?_)  (nB h (rd j) y) 0 (by omega) _ _ _ hP hD hS (lv_sub hl [4, 5, 6, 7, 3, 2, 1, 0] rfl)
  have hP : va_P (dC, dI) vwCl (rpW a cA w h wa ma ka li hk sh T kd rd dp) H := hP
  have hD : va_D A (rpW a cA w h wa ma ka li hk sh T kd rd dp) := hD
  have hl : lv_has ls 10 [(0, .ref (a 0)), (1, .ref (a (8 + j))), (2, .int (iI x)), (3, .int (iI y)), (4, .int (iI (lfF w h wa (dp j) (rd j) x y (nB h (rd j) y)))), (5, .int (iI (hiB w (rd j) x))), (6, .int (iI (hiB h (rd j) y))), (7, .int (iI (loB (rd j) y + ((nB h (rd j) y : Nat) : Int))))] := hl
  refine lv_iload hx hb dX2_liftOver_130 (lv_at hl 4 rfl) ?_
  subst hAe
  exact z_iret hx hb hr hlocks hP hK hD hS (trivial) dX2_liftOver_132
end
section
/-! further functions of the class -/
def gwF (wa : Nat → Int) (n : Nat) : Int := itr (fun i g => max g (wa i)) n 0
theorem gwF_rg {wa : Nat → Int} {n : Nat} (h : bd wa 0 1000) : 0 ≤ gwF wa n ∧ gwF wa n ≤ 1000 :=
  itr_inv (P := fun g => 0 ≤ g ∧ g ≤ 1000) n (by decide) (fun i g _ hg => by have := h i; omega)
def ltR (w h : Nat) (wa dp : Nat → Int) (r y : Int) (n : Nat) (li : Nat → Int) : Nat → Int := itr (fun i li => uI li (y * (w : Int) + (i : Int)).toNat (lfF w h wa dp r (i : Int) y (nB h r y))) n li
def ltF (w h : Nat) (wa dp : Nat → Int) (r : Int) (n : Nat) (li : Nat → Int) : Nat → Int := itr (fun j li => ltR w h wa dp r (j : Int) w li) n li
theorem ltR_rg {w h : Nat} {wa dp li : Nat → Int} {r y : Int} {n : Nat} (hw : bd wa 0 1000) (hd : bd dp (-1) 5) (hl : bd li 0 1000) : bd (ltR w h wa dp r y n li) 0 1000 :=
  itr_inv (P := fun li => bd li 0 1000) n hl (fun _ _ _ h => bd_uI h (lfF_rg hw hd))
theorem ltF_rg {w h : Nat} {wa dp li : Nat → Int} {r : Int} {n : Nat} (hw : bd wa 0 1000) (hd : bd dp (-1) 5) (hl : bd li 0 1000) : bd (ltF w h wa dp r n li) 0 1000 :=
  itr_inv (P := fun li => bd li 0 1000) n hl (fun _ _ _ h => ltR_rg hw hd h)
/-- what holds of the moves -/
def tkOK (T : TK) (M : Int) : Prop := (0 ≤ T.2.1 ∧ T.2.1 ≤ M) ∧ (0 ≤ T.2.2.2.1 ∧ T.2.2.2.1 < 20) ∧ (0 ≤ T.2.2.2.2.1 ∧ T.2.2.2.2.1 < 20) ∧ (0 ≤ T.2.2.2.2.2 ∧ T.2.2.2.2.2 ≤ 1000) ∧ bd T.1 0 500000
theorem tkOK.mono {T : TK} {M M' : Int} (h : tkOK T M) (hm : M ≤ M') : tkOK T M' := ⟨⟨h.1.1, by have := h.1.2; omega⟩, h.2⟩
theorem tkA_ok {T : TK} {M x y z : Int} (h : tkOK T M) (hx : 0 ≤ x ∧ x < 20) (hy : 0 ≤ y ∧ y < 20) (hz : 0 ≤ z ∧ z ≤ 1000) : tkOK (tkA x y z T) (M + 1) := by
  obtain ⟨h1, h2, h3, h4, h5⟩ := h
  refine ⟨?_, hx, hy, hz, ?_⟩
  · show 0 ≤ T.2.1 + 1 ∧ T.2.1 + 1 ≤ M + 1
    omega
  · show bd (if T.2.1 < 2000 then uI T.1 T.2.1.toNat ((z * 20 + y) * 20 + x) else T.1) 0 500000
    split
    · exact bd_uI h5 (by omega)
    · exact h5
theorem tkC_ok {T : TK} {M : Int} (h : tkOK T M) : tkOK (tkC T) 0 := ⟨⟨Int.le_refl 0, Int.le_refl 0⟩, h.2⟩
def lvS (w h : Nat) (li dp : Nat → Int) (r z st sk x y : Int) (q : TK × (Nat → Int)) : TK × (Nat → Int) := if li (y * (w : Int) + x).toNat + sk ≤ z then (tkA x y z q.1, if z - st ≤ 0 ∨ z - st < li (y * (w : Int) + x).toNat + sk then cvF w h dp r x y z (nB h r y) q.2 else q.2) else q
def lvR (w h : Nat) (li dp : Nat → Int) (r z st sk y : Int) (n : Nat) (q : TK × (Nat → Int)) : TK × (Nat → Int) := itr (fun i q => lvS w h li dp r z st sk (i : Int) y q) n q
def lvF (w h : Nat) (li dp : Nat → Int) (r z st sk : Int) (n : Nat) (q : TK × (Nat → Int)) : TK × (Nat → Int) := itr (fun j q => lvR w h li dp r z st sk (j : Int) w q) n q
theorem lvS_ok {w h : Nat} {li dp : Nat → Int} {r z st sk x y M : Int} {q : TK × (Nat → Int)} (hx : 0 ≤ x ∧ x < 20) (hy : 0 ≤ y ∧ y < 20) (hz : 0 ≤ z ∧ z ≤ 1000) (hd : bd dp (-1) 5) (h1 : tkOK q.1 M) (h2 : bd q.2 0 1000) : tkOK (lvS w h li dp r z st sk x y q).1 (M + 1) ∧ bd (lvS w h li dp r z st sk x y q).2 0 1000 := by
  unfold lvS
  split
  · refine ⟨tkA_ok h1 hx hy hz, ?_⟩
    show bd (if z - st ≤ 0 ∨ z - st < li (y * (w : Int) + x).toNat + sk then cvF w h dp r x y z (nB h r y) q.2 else q.2) 0 1000
    split
    · exact cvF_rg hz.1 hd h2
    · exact h2
  · exact ⟨h1.mono (by omega), h2⟩
theorem lvR_ok {w h : Nat} {li dp : Nat → Int} {r z st sk y M : Int} {n : Nat} {q : TK × (Nat → Int)} (hn : n ≤ 20) (hy : 0 ≤ y ∧ y < 20) (hz : 0 ≤ z ∧ z ≤ 1000) (hd : bd dp (-1) 5) (h1 : tkOK q.1 M) (h2 : bd q.2 0 1000) : tkOK (lvR w h li dp r z st sk y n q).1 (M + n) ∧ bd (lvR w h li dp r z st sk y n q).2 0 1000 := by
  have h := itr_ind (f := fun i q => lvS w h li dp r z st sk (i : Int) y q) (P := fun i q => tkOK q.1 (M + (i : Int)) ∧ bd q.2 0 1000) (s := q) n ⟨h1.mono (by omega), h2⟩ (fun i t hi ht => by
    obtain ⟨a, b⟩ := lvS_ok (w := w) (h := h) (li := li) (r := r) (st := st) (sk := sk) (x := (i : Int)) ⟨by omega, by omega⟩ hy hz hd ht.1 ht.2
    exact ⟨a.mono (by omega), b⟩)
  exact h
theorem lvF_ok {w h : Nat} {li dp : Nat → Int} {r z st sk M : Int} {n : Nat} {q : TK × (Nat → Int)} (hw : w ≤ 20) (hn : n ≤ 20) (hz : 0 ≤ z ∧ z ≤ 1000) (hd : bd dp (-1) 5) (h1 : tkOK q.1 M) (h2 : bd q.2 0 1000) : tkOK (lvF w h li dp r z st sk n q).1 (M + 20 * n) ∧ bd (lvF w h li dp r z st sk n q).2 0 1000 := by
  have h := itr_ind (f := fun j q => lvR w h li dp r z st sk (j : Int) w q) (P := fun i q => tkOK q.1 (M + 20 * (i : Int)) ∧ bd q.2 0 1000) (s := q) n ⟨h1.mono (by omega), h2⟩ (fun i t hi ht => by
    obtain ⟨a, b⟩ := lvR_ok (w := w) (h := h) (li := li) (r := r) (st := st) (sk := sk) (y := (i : Int)) hw ⟨by omega, by omega⟩ hz hd ht.1 ht.2
    exact ⟨a.mono (by omega), b⟩)
  exact h
def rwX (w : Nat) (b i : Int) : Int := if b = 0 then (w : Int) - 1 - i else i
def rwS (w h : Nat) (wa dp : Nat → Int) (r x y : Int) (q : TK × (Nat → Int)) : TK × (Nat → Int) := (tkA x y (lfF w h wa dp r x y (nB h r y)) q.1, cvF w h dp r x y (lfF w h wa dp r x y (nB h r y)) (nB h r y) q.2)
def rwF (w h : Nat) (wa dp : Nat → Int) (r y b : Int) (n : Nat) (q : TK × (Nat → Int)) : TK × (Nat → Int) := itr (fun i q => rwS w h wa dp r (rwX w b (i : Int)) y q) n q
theorem rwX_rg {w : Nat} {b i : Int} (h0 : 0 ≤ i) (h1 : i < w) : 0 ≤ rwX w b i ∧ rwX w b i < w := by
  unfold rwX
  split <;> omega
theorem rwF_ok {w h : Nat} {wa dp : Nat → Int} {r y b M : Int} {n : Nat} {q : TK × (Nat → Int)} (hw : w ≤ 20) (hn : n ≤ w) (hy : 0 ≤ y ∧ y < 20) (hwa : bd wa 0 1000) (hd : bd dp (-1) 5) (h1 : tkOK q.1 M) (h2 : bd q.2 0 1000) : tkOK (rwF w h wa dp r y b n q).1 (M + n) ∧ bd (rwF w h wa dp r y b n q).2 0 1000 := by
  have h := itr_ind (f := fun i q => rwS w h wa dp r (rwX w b (i : Int)) y q) (P := fun i q => tkOK q.1 (M + (i : Int)) ∧ bd q.2 0 1000) (s := q) n ⟨h1.mono (by omega), h2⟩ (fun i t hi ht => by
    have hx := rwX_rg (w := w) (b := b) (i := (i : Int)) (by omega) (by omega)
    have hz := lfF_rg (w := w) (h := h) (r := r) (x := rwX w b (i : Int)) (y := y) (n := nB h r y) hwa hd
    exact ⟨(tkA_ok ht.1 ⟨hx.1, by omega⟩ hy hz).mono (by omega), cvF_rg (h := h) hz.1 hd ht.2⟩)
  exact h
end
section
abbrev r_X2_carve : Room := { frames := 2, cells := 0, slots := 0, locals := 44 }
set_option maxHeartbeats 4000000 in
set_option maxRecDepth 100000 in
theorem lp_X2_carve_65 {p : Program} {l : Launch} {e : Env} {s : State} {m : MethodId} {args : Array Value} {below : List Frame} {meth : Method} {c : Code} {Q : State → Prop} {A : Nat → Prop} {dC : Nat → ClassId} {dI : Nat → Nat → Nat} (a : Nat → Nat) (cA : Nat → ClassId) (w h : Nat) (wa ma ka li : Nat → Int) (hk sh : Int) (T : TK) (kd rd : Nat → Int) (dp : Nat → Nat → Int) (j : Nat) (x y z u v : Int) (hx : p.tables.exec = Jvm.exec) (hb : c.code = cX2_carve) (hml : c.maxLocals = 11) (hown : s.vm.findClass RX2 = some m.cls) (hts : ∀ w ∈ wsAll, w.before args s = true) (hA : ∀ q : Nat, s.heap.size ≤ q → A q) (hZ : zZ A s s.heap) (hK : va_K (dC, dI) vwCl (rpT cA) s) (hw : 1 ≤ w ∧ w ≤ 20) (hh : 1 ≤ h ∧ h ≤ 20) (hj : j < 4) (hrd : 0 ≤ rd j ∧ rd j ≤ 5) (hx0 : 0 ≤ x ∧ x < (w : Int)) (hy0 : 0 ≤ y ∧ y < (h : Int)) (hdp : bd (dp j) (-1) 5) (hz : 0 ≤ z ∧ z ≤ 1000) (hma : bd ma 0 1000) (hu : 0 ≤ u ∧ u < (h : Int)) (kk : ∀ (H : Heap) (locs : List Loc) (ls : Array Slot), va_P (dC, dI) vwCl (rpW a cA w h wa (cvR w (dp j) (rd j) x y z u (nB w (rd j) x) ma) ka li hk sh T kd rd dp) H → va_D A (rpW a cA w h wa (cvR w (dp j) (rd j) x y z u (nB w (rd j) x) ma) ka li hk sh T kd rd dp) → va_S A s.heap H locs → lv_has ls 11 [(0, .ref (a 0)), (1, .ref (a (8 + j))), (2, .int (iI x)), (3, .int (iI y)), (4, .int (iI z)), (5, .int (iI (hiB w (rd j) x))), (6, .int (iI v)), (7, .int (iI u)), (8, .int (iI (loB (rd j) x + ((nB w (rd j) x : Nat) : Int))))] → W p l e r_X2_carve s m args below meth c H locs 0 0 Q (F0 m 135 ls [])) : ∀ (n i : Nat), i + n = nB w (rd j) x → ∀ (H : Heap) (locs : List Loc) (ls : Array Slot), va_P (dC, dI) vwCl (rpW a cA w h wa (cvR w (dp j) (rd j) x y z u i ma) ka li hk sh T kd rd dp) H → va_D A (rpW a cA w h wa (cvR w (dp j) (rd j) x y z u i ma) ka li hk sh T kd rd dp) → va_S A s.heap H locs → lv_has ls 11 [(0, .ref (a 0)), (1, .ref (a (8 + j))), (2, .int (iI x)), (3, .int (iI y)), (4, .int (iI z)), (5, .int (iI (hiB w (rd j) x))), (6, .int (iI v)), (7, .int (iI u)), (8, .int (iI (loB (rd j) x + ((i : Nat) : Int))))] → W p l e r_X2_carve s m args below meth c H locs 0 0 Q (F0 m 65 ls []) := by
  intro n
  induction n with
  | zero =>
    intro i hi H locs ls hP hD hS hl
    have hi9 : nB w (rd j) x = i := by omega
    subst hi9
    have hB := B_out (n := w) (r := rd j) (x := x) hx0.1 hx0.2 hrd.1
    refine lv_iload hx hb dX2_carve_65 (lv_at hl 8 rfl) ?_
    refine lv_iload hx hb dX2_carve_67 (lv_at hl 5 rfl) ?_
    refine z_icmp_gt (tgt := 135) hx hb dX2_carve_69 (by decide) (by omega) (by omega) (fun c69 => ?_) (fun c69 => by exfalso; omega)
    exact kk _ _ _ hP hD hS (lv_sub hl [0, 1, 2, 3, 4, 5, 6, 7, 8] rfl)
  | succ n ih =>
    intro i hi H locs ls hP hD hS hl
    have hB := B_in (n := w) (i := i) (r := rd j) (x := x) (by omega) hx0.1 hx0.2 hrd.1
    refine lv_iload hx hb dX2_carve_65 (lv_at hl 8 rfl) ?_
    refine lv_iload hx hb dX2_carve_67 (lv_at hl 5 rfl) ?_
    refine z_icmp_gt (tgt := 135) hx hb dX2_carve_69 (by decide) (by omega) (by omega) (fun c69 => by exfalso; omega) (fun c69 => ?_)
    refine lv_aload_n hx hb dX2_carve_72 rfl (lv_at hl 1 rfl) ?_
    refine lv_iload hx hb dX2_carve_73 (lv_at hl 8 rfl) ?_
    refine lv_iload_n hx hb dX2_carve_75 rfl (lv_at hl 2 rfl) ?_
    refine z_sub hx hb dX2_carve_76 ?_
    refine lv_iload hx hb dX2_carve_77 (lv_at hl 7 rfl) ?_
    refine lv_iload_n hx hb dX2_carve_79 rfl (lv_at hl 3 rfl) ?_
    refine z_sub hx hb dX2_carve_80 ?_
    have hdv := dOv_rg (dp := dp j) (r := rd j) (dx := loB (rd j) x + ((i : Nat) : Int) - x) (dy := u - y) hdp
    have hmb := cvR_rg (w := w) (r := rd j) (x := x) (y := y) (py := u) (n := i) hz.1 hdp hma (u * (w : Int) + (loB (rd j) x + ((i : Nat) : Int))).toNat
    have hix := z_ix (w := w) (h := h) hB.1 (by omega) hu.1 hu.2
    have hwh := z_wh hw.2 hh.2
    have hsub := rpW_sub (a := a) (cA := cA) (w := w) (h := h) (wa := wa) (ma := cvR w (dp j) (rd j) x y z u i ma) (ka := ka) (li := li) (hk := hk) (sh := sh) (T := T) (kd := kd) (rd := rd) (dp := dp) hj
    have hFc := z_freeR hsub hD hS hA
    refine z_rcalli (va_runV (As := [.int (iI ((loB (rd j) x + ((i : Nat) : Int)) - x)), .int (iI (u - y))]) (rest := []) ⟨hx, hb, hml, hown, hts⟩ (c_X0_depthOver l dC dI (H).size (a (8 + j)) (a (12 + j)) (cA (6 + j)) (kd j) (rd j) (dp j) ((loB (rd j) x + ((i : Nat) : Int)) - x) (u - y) (by omega) (by omega) hrd) (cwV 2 hts g_X2_98 rfl rfl rfl (by decide +kernel) ⟨Nat.le_of_ble_eq_true rfl, Nat.le_of_ble_eq_true rfl⟩) (zP_V (ci := 0) (q0 := 0) rfl rfl (z_subP hsub hP) (rpT_K hj hK) (rpW_DT hj hD) hS hFc hZ) rfl rfl hl.1 rfl (lv_room (Nat.le_of_ble_eq_true rfl)) dX2_carve_81 ⟨Nat.le_of_ble_eq_true rfl, Nat.le_of_ble_eq_true rfl⟩) hP hD hS hFc (hsub) (fun H locs _ hP hD hS _ => ?_)
    refine lv_istore (lv' := [(9, .int (iI (dOv (dp j) (rd j) ((loB (rd j) x + ((i : Nat) : Int)) - x) (u - y)))), (0, .ref (a 0)), (1, .ref (a (8 + j))), (2, .int (iI x)), (3, .int (iI y)), (4, .int (iI z)), (5, .int (iI (hiB w (rd j) x))), (6, .int (iI v)), (7, .int (iI u)), (8, .int (iI (loB (rd j) x + ((i : Nat) : Int))))]) hx hb dX2_carve_84 hl (by decide) rfl (fun ls hl => ?_)
    refine lv_aload_n hx hb dX2_carve_86 rfl (lv_at hl 1 rfl) ?_
    refine lv_iload hx hb dX2_carve_87 (lv_at hl 9 rfl) ?_
    refine lv_iload hx hb dX2_carve_89 (lv_at hl 8 rfl) ?_
    have hFc := z_freeR (wc := rpW a cA w h wa (cvR w (dp j) (rd j) x y z u i ma) ka li hk sh T kd rd dp) (fun _ h => h) hD hS hA
    refine z_wcalli (va_runV (As := [.int (iI (loB (rd j) x + ((i : Nat) : Int))), .int (iI u)]) (rest := []) ⟨hx, hb, hml, hown, hts⟩ (c_X2_placeAt l dC dI (H).size a cA w h wa (cvR w (dp j) (rd j) x y z u i ma) ka li hk sh T kd rd dp (loB (rd j) x + ((i : Nat) : Int)) u) (cwV 2 hts g_X2_68 rfl rfl rfl (by decide +kernel) ⟨Nat.le_of_ble_eq_true rfl, Nat.le_of_ble_eq_true rfl⟩) (zP_V (ci := 2) (q0 := 0) rfl rfl hP hK hD hS hFc hZ) rfl rfl hl.1 rfl (lv_room (Nat.le_of_ble_eq_true rfl)) dX2_carve_91 ⟨Nat.le_of_ble_eq_true rfl, Nat.le_of_ble_eq_true rfl⟩) hS hFc (fun H locs _ hP hD hS _ => ?_)
    have hP : va_P (dC, dI) vwCl (rpW a cA w h wa (cvR w (dp j) (rd j) x y z u i ma) ka li hk sh T kd rd dp) H := hP
    have hD : va_D A (rpW a cA w h wa (cvR w (dp j) (rd j) x y z u i ma) ka li hk sh T kd rd dp) := hD
    refine lv_istore (lv' := [(10, .int (iI (u * (w : Int) + (loB (rd j) x + ((i : Nat) : Int))))), (9, .int (iI (dOv (dp j) (rd j) ((loB (rd j) x + ((i : Nat) : Int)) - x) (u - y)))), (0, .ref (a 0)), (1, .ref (a (8 + j))), (2, .int (iI x)), (3, .int (iI y)), (4, .int (iI z)), (5, .int (iI (hiB w (rd j) x))), (6, .int (iI v)), (7, .int (iI u)), (8, .int (iI (loB (rd j) x + ((i : Nat) : Int))))]) hx hb dX2_carve_94 hl (by decide) rfl (fun ls hl => ?_)
    refine lv_iload hx hb dX2_carve_96 (lv_at hl 1 rfl) ?_
    refine lv_iconst (v := iI (-1)) hx hb dX2_carve_98 rfl ?_
    refine z_icmp_eq (tgt := 129) hx hb dX2_carve_99 (by decide) (by omega) (by omega) (fun c99 => ?_) (fun c99 => ?_)
    · refine lv_iinc (v := iI (loB (rd j) x + (((i + 1) : Nat) : Int))) (lv' := [(8, .int (iI (loB (rd j) x + (((i + 1) : Nat) : Int)))), (10, .int (iI (u * (w : Int) + (loB (rd j) x + ((i : Nat) : Int))))), (9, .int (iI (dOv (dp j) (rd j) ((loB (rd j) x + ((i : Nat) : Int)) - x) (u - y)))), (0, .ref (a 0)), (1, .ref (a (8 + j))), (2, .int (iI x)), (3, .int (iI y)), (4, .int (iI z)), (5, .int (iI (hiB w (rd j) x))), (6, .int (iI v)), (7, .int (iI u))]) hx hb dX2_carve_129 hl (k := 10) rfl ((iI_add _ _).trans (congrArg iI (by omega))) (by decide) rfl (fun ls hl => ?_)
      refine lv_goto (tgt := 65) hx hb dX2_carve_132 (by decide) ?_
      have eg : cvR w (dp j) (rd j) x y z u (i + 1) ma = cvR w (dp j) (rd j) x y z u i ma := by
        show cvS w (dp j) (rd j) x y z (loB (rd j) x + ((i : Nat) : Int)) u (cvR w (dp j) (rd j) x y z u i ma) = _
        unfold cvS
        (repeat' split) <;> first | rfl | (exfalso; omega)
      exact ih (i + 1) (by omega) _ _ _ (by rw [eg]; exact hP) (by rw [eg]; exact hD) hS (lv_sub hl [3, 4, 5, 6, 7, 8, 9, 10, 0] rfl)
    · refine lv_iload hx hb dX2_carve_102 (lv_at hl 6 rfl) ?_
      refine lv_iload hx hb dX2_carve_104 (lv_at hl 1 rfl) ?_
      refine z_add hx hb dX2_carve_106 ?_
      refine lv_aload_n hx hb dX2_carve_107 rfl (lv_at hl 2 rfl) ?_
      refine va_get (D := (dC, dI)) (ci := 2) (v := .ref (a 2)) (C := RX2) (T := TX2) (N := 10) hx hb hts inX2 hown hK hP 0 rfl rfl 3 (by decide) (hts _ wm_174) (fun _ h9 => h9) rfl dX2_carve_108 ?_
      refine lv_iload hx hb dX2_carve_111 (lv_at hl 0 rfl) ?_
      refine z_iald (f := cvR w (dp j) (rd j) x y z u i ma) (i := u * (w : Int) + (loB (rd j) x + ((i : Nat) : Int))) hx hb hK hP 2 1 rfl rfl (hix) (by omega) dX2_carve_113 ?_
      refine z_icmp_ge (tgt := 129) hx hb dX2_carve_114 (by decide) (by omega) (by omega) (fun c114 => ?_) (fun c114 => ?_)
      · refine lv_iinc (v := iI (loB (rd j) x + (((i + 1) : Nat) : Int))) (lv' := [(8, .int (iI (loB (rd j) x + (((i + 1) : Nat) : Int)))), (10, .int (iI (u * (w : Int) + (loB (rd j) x + ((i : Nat) : Int))))), (9, .int (iI (dOv (dp j) (rd j) ((loB (rd j) x + ((i : Nat) : Int)) - x) (u - y)))), (0, .ref (a 0)), (1, .ref (a (8 + j))), (2, .int (iI x)), (3, .int (iI y)), (4, .int (iI z)), (5, .int (iI (hiB w (rd j) x))), (6, .int (iI v)), (7, .int (iI u))]) hx hb dX2_carve_129 hl (k := 10) rfl ((iI_add _ _).trans (congrArg iI (by omega))) (by decide) rfl (fun ls hl => ?_)
        refine lv_goto (tgt := 65) hx hb dX2_carve_132 (by decide) ?_
        have eg : cvR w (dp j) (rd j) x y z u (i + 1) ma = cvR w (dp j) (rd j) x y z u i ma := by
          show cvS w (dp j) (rd j) x y z (loB (rd j) x + ((i : Nat) : Int)) u (cvR w (dp j) (rd j) x y z u i ma) = _
          unfold cvS
          (repeat' split) <;> first | rfl | (exfalso; omega)
        exact ih (i + 1) (by omega) _ _ _ (by rw [eg]; exact hP) (by rw [eg]; exact hD) hS (lv_sub hl [3, 4, 5, 6, 7, 8, 9, 10, 0] rfl)
      · refine lv_aload_n hx hb dX2_carve_117 rfl (lv_at hl 2 rfl) ?_
        refine va_get (D := (dC, dI)) (ci := 2) (v := .ref (a 2)) (C := RX2) (T := TX2) (N := 10) hx hb hts inX2 hown hK hP 0 rfl rfl 3 (by decide) (hts _ wm_174) (fun _ h9 => h9) rfl dX2_carve_118 ?_
        refine lv_iload hx hb dX2_carve_121 (lv_at hl 0 rfl) ?_
        refine lv_iload hx hb dX2_carve_123 (lv_at hl 6 rfl) ?_
        refine lv_iload hx hb dX2_carve_125 (lv_at hl 1 rfl) ?_
        refine z_add hx hb dX2_carve_127 ?_
        refine z_iast (f := cvR w (dp j) (rd j) x y z u i ma) (i := u * (w : Int) + (loB (rd j) x + ((i : Nat) : Int))) (x := z + (dOv (dp j) (rd j) ((loB (rd j) x + ((i : Nat) : Int)) - x) (u - y))) hx hb hK hP hD hS 2 1 rfl rfl (hix) (by omega) dX2_carve_128 (fun H locs hP hD hS => ?_)
        have hP : va_P (dC, dI) vwCl (rpW a cA w h wa (uI (cvR w (dp j) (rd j) x y z u i ma) (u * (w : Int) + (loB (rd j) x + ((i : Nat) : Int))).toNat (z + (dOv (dp j) (rd j) ((loB (rd j) x + ((i : Nat) : Int)) - x) (u - y)))) ka li hk sh T kd rd dp) H := hP
        have hD : va_D A (rpW a cA w h wa (uI (cvR w (dp j) (rd j) x y z u i ma) (u * (w : Int) + (loB (rd j) x + ((i : Nat) : Int))).toNat (z + (dOv (dp j) (rd j) ((loB (rd j) x + ((i : Nat) : Int)) - x) (u - y)))) ka li hk sh T kd rd dp) := hD
        refine lv_iinc (v := iI (loB (rd j) x + (((i + 1) : Nat) : Int))) (lv' := [(8, .int (iI (loB (rd j) x + (((i + 1) : Nat) : Int)))), (10, .int (iI (u * (w : Int) + (loB (rd j) x + ((i : Nat) : Int))))), (9, .int (iI (dOv (dp j) (rd j) ((loB (rd j) x + ((i : Nat) : Int)) - x) (u - y)))), (0, .ref (a 0)), (1, .ref (a (8 + j))), (2, .int (iI x)), (3, .int (iI y)), (4, .int (iI z)), (5, .int (iI (hiB w (rd j) x))), (6, .int (iI v)), (7, .int (iI u))]) hx hb dX2_carve_129 hl (k := 10) rfl ((iI_add _ _).trans (congrArg iI (by omega))) (by decide) rfl (fun ls hl => ?_)
        refine lv_goto (tgt := 65) hx hb dX2_carve_132 (by decide) ?_
        have eg : cvR w (dp j) (rd j) x y z u (i + 1) ma = uI (cvR w (dp j) (rd j) x y z u i ma) (u * (w : Int) + (loB (rd j) x + ((i : Nat) : Int))).toNat (z + (dOv (dp j) (rd j) ((loB (rd j) x + ((i : Nat) : Int)) - x) (u - y))) := by
          show cvS w (dp j) (rd j) x y z (loB (rd j) x + ((i : Nat) : Int)) u (cvR w (dp j) (rd j) x y z u i ma) = _
          unfold cvS
          (repeat' split) <;> first | rfl | (exfalso; omega)
        exact ih (i + 1) (by omega) _ _ _ (by rw [eg]; exact hP) (by rw [eg]; exact hD) hS (lv_sub hl [3, 4, 5, 6, 7, 8, 9, 10, 0] rfl)
set_option maxHeartbeats 4000000 in
set_option maxRecDepth 100000 in
theorem lp_X2_carve_46 {p : Program} {l : Launch} {e : Env} {s : State} {m : MethodId} {args : Array Value} {below : List Frame} {meth : Method} {c : Code} {Q : State → Prop} {A : Nat → Prop} {dC : Nat → ClassId} {dI : Nat → Nat → Nat} (a : Nat → Nat) (cA : Nat → ClassId) (w h : Nat) (wa ma ka li : Nat → Int) (hk sh : Int) (T : TK) (kd rd : Nat → Int) (dp : Nat → Nat → Int) (j : Nat) (x y z : Int) (hx : p.tables.exec = Jvm.exec) (hb : c.code = cX2_carve) (hml : c.maxLocals = 11) (hown : s.vm.findClass RX2 = some m.cls) (hts : ∀ w ∈ wsAll, w.before args s = true) (hA : ∀ q : Nat, s.heap.size ≤ q → A q) (hZ : zZ A s s.heap) (hK : va_K (dC, dI) vwCl (rpT cA) s) (hw : 1 ≤ w ∧ w ≤ 20) (hh : 1 ≤ h ∧ h ≤ 20) (hj : j < 4) (hrd : 0 ≤ rd j ∧ rd j ≤ 5) (hx0 : 0 ≤ x ∧ x < (w : Int)) (hy0 : 0 ≤ y ∧ y < (h : Int)) (hdp : bd (dp j) (-1) 5) (hz : 0 ≤ z ∧ z ≤ 1000) (hma : bd ma 0 1000) (kk : ∀ (H : Heap) (locs : List Loc) (ls : Array Slot), va_P (dC, dI) vwCl (rpW a cA w h wa (cvF w h (dp j) (rd j) x y z (nB h (rd j) y) ma) ka li hk sh T kd rd dp) H → va_D A (rpW a cA w h wa (cvF w h (dp j) (rd j) x y z (nB h (rd j) y) ma) ka li hk sh T kd rd dp) → va_S A s.heap H locs → lv_has ls 11 [(0, .ref (a 0)), (1, .ref (a (8 + j))), (2, .int (iI x)), (3, .int (iI y)), (4, .int (iI z)), (5, .int (iI (hiB w (rd j) x))), (6, .int (iI (hiB h (rd j) y))), (7, .int (iI (loB (rd j) y + ((nB h (rd j) y : Nat) : Int))))] → W p l e r_X2_carve s m args below meth c H locs 0 0 Q (F0 m 141 ls [])) : ∀ (n i : Nat), i + n = nB h (rd j) y → ∀ (H : Heap) (locs : List Loc) (ls : Array Slot), va_P (dC, dI) vwCl (rpW a cA w h wa (cvF w h (dp j) (rd j) x y z i ma) ka li hk sh T kd rd dp) H → va_D A (rpW a cA w h wa (cvF w h (dp j) (rd j) x y z i ma) ka li hk sh T kd rd dp) → va_S A s.heap H locs → lv_has ls 11 [(0, .ref (a 0)), (1, .ref (a (8 + j))), (2, .int (iI x)), (3, .int (iI y)), (4, .int (iI z)), (5, .int (iI (hiB w (rd j) x))), (6, .int (iI (hiB h (rd j) y))), (7, .int (iI (loB (rd j) y + ((i : Nat) : Int))))] → W p l e r_X2_carve s m args below meth c H locs 0 0 Q (F0 m 46 ls []) := by
  intro n
  induction n with
  | zero =>
    intro i hi H locs ls hP hD hS hl
    have hi9 : nB h (rd j) y = i := by omega
    subst hi9
    have hB := B_out (n := h) (r := rd j) (x := y) hy0.1 hy0.2 hrd.1
    refine lv_iload hx hb dX2_carve_46 (lv_at hl 7 rfl) ?_
    refine lv_iload hx hb dX2_carve_48 (lv_at hl 6 rfl) ?_
    refine z_icmp_gt (tgt := 141) hx hb dX2_carve_50 (by decide) (by omega) (by omega) (fun c50 => ?_) (fun c50 => by exfalso; omega)
    exact kk _ _ _ hP hD hS (lv_sub hl [0, 1, 2, 3, 4, 5, 6, 7] rfl)
  | succ n ih =>
    intro i hi H locs ls hP hD hS hl
    have hB := B_in (n := h) (i := i) (r := rd j) (x := y) (by omega) hy0.1 hy0.2 hrd.1
    refine lv_iload hx hb dX2_carve_46 (lv_at hl 7 rfl) ?_
    refine lv_iload hx hb dX2_carve_48 (lv_at hl 6 rfl) ?_
    refine z_icmp_gt (tgt := 141) hx hb dX2_carve_50 (by decide) (by omega) (by omega) (fun c50 => by exfalso; omega) (fun c50 => ?_)
    refine lv_iconst (v := iI 0) hx hb dX2_carve_53 rfl ?_
    refine lv_iload_n hx hb dX2_carve_54 rfl (lv_at hl 2 rfl) ?_
    refine lv_aload_n hx hb dX2_carve_55 rfl (lv_at hl 1 rfl) ?_
    refine va_getN (D := (dC, dI)) (ci := 0) (v := .int (iI (rd j))) (C := RX0) (T := TX0) (N := 3) hx hb hts inX0 hown hK hP (8 + j) (rpW_tool hj) rfl 1 (by decide) (va_Nw.use rfl (hZ.1 (.fieldLinkNest RX2 181 RX0 "radius" "I" RX2) (by decide +kernel))) (fun _ h9 => h9) rfl dX2_carve_56 ?_
    refine z_sub hx hb dX2_carve_59 ?_
    refine z_max hx hb (hml.trans hl.1.symm) hown (hts _ wm_127) (hts _ wm_128) (hts _ wm_110) (hts _ wm_129) (Nat.le_of_ble_eq_true rfl) (Nat.le_of_ble_eq_true rfl) (Nat.le_of_ble_eq_true rfl) (Nat.le_of_ble_eq_true rfl) dX2_carve_60 (by omega) (by omega) ?_
    refine z_top (b := loB (rd j) x + ((0 : Nat) : Int)) (by unfold loB; omega) ?_
    refine lv_istore (lv' := [(8, .int (iI (loB (rd j) x + ((0 : Nat) : Int)))), (0, .ref (a 0)), (1, .ref (a (8 + j))), (2, .int (iI x)), (3, .int (iI y)), (4, .int (iI z)), (5, .int (iI (hiB w (rd j) x))), (6, .int (iI (hiB h (rd j) y))), (7, .int (iI (loB (rd j) y + ((i : Nat) : Int))))]) hx hb dX2_carve_63 hl (by decide) rfl (fun ls hl => ?_)
    refine lp_X2_carve_65 a cA w h wa (cvF w h (dp j) (rd j) x y z i ma) ka li hk sh T kd rd dp j x y z (loB (rd j) y + ((i : Nat) : Int)) (hiB h (rd j) y) hx hb hml hown hts hA hZ hK (hw) (hh) (hj) (hrd) (hx0) (hy0) (hdp) (hz) (cvF_rg (h := h) hz.1 hdp hma) (⟨hB.1, by omega⟩) (fun H locs ls hP hD hS hl => ?_)  (nB w (rd j) x) 0 (by omega) _ _ _ hP hD hS (lv_sub hl [1, 2, 3, 4, 5, 6, 7, 8, 0] rfl)
    have hP : va_P (dC, dI) vwCl (rpW a cA w h wa (cvR w (dp j) (rd j) x y z (loB (rd j) y + ((i : Nat) : Int)) (nB w (rd j) x) (cvF w h (dp j) (rd j) x y z i ma)) ka li hk sh T kd rd dp) H := hP
    have hD : va_D A (rpW a cA w h wa (cvR w (dp j) (rd j) x y z (loB (rd j) y + ((i : Nat) : Int)) (nB w (rd j) x) (cvF w h (dp j) (rd j) x y z i ma)) ka li hk sh T kd rd dp) := hD
    have hl : lv_has ls 11 [(0, .ref (a 0)), (1, .ref (a (8 + j))), (2, .int (iI x)), (3, .int (iI y)), (4, .int (iI z)), (5, .int (iI (hiB w (rd j) x))), (6, .int (iI (hiB h (rd j) y))), (7, .int (iI (loB (rd j) y + ((i : Nat) : Int)))), (8, .int (iI (loB (rd j) x + ((nB w (rd j) x : Nat) : Int))))] := hl
    refine lv_iinc (v := iI (loB (rd j) y + (((i + 1) : Nat) : Int))) (lv' := [(7, .int (iI (loB (rd j) y + (((i + 1) : Nat) : Int)))), (0, .ref (a 0)), (1, .ref (a (8 + j))), (2, .int (iI x)), (3, .int (iI y)), (4, .int (iI z)), (5, .int (iI (hiB w (rd j) x))), (6, .int (iI (hiB h (rd j) y))), (8, .int (iI (loB (rd j) x + ((nB w (rd j) x : Nat) : Int))))]) hx hb dX2_carve_135 hl (k := 7) rfl ((iI_add _ _).trans (congrArg iI (by omega))) (by decide) rfl (fun ls hl => ?_)
    refine lv_goto (tgt := 46) hx hb dX2_carve_138 (by decide) ?_
    exact ih (i + 1) (by omega) _ _ _ hP hD hS (lv_sub hl [1, 2, 3, 4, 5, 6, 7, 0] rfl)
set_option maxHeartbeats 4000000 in
set_option maxRecDepth 100000 in
theorem c_X2_carve (l : Launch) (dC : Nat → ClassId) (dI : Nat → Nat → Nat) (sz : Nat) (a : Nat → Nat) (cA : Nat → ClassId) (w h : Nat) (wa ma ka li : Nat → Int) (hk sh : Int) (T : TK) (kd rd : Nat → Int) (dp : Nat → Nat → Int) (j : Nat) (x y z : Int) (hw : 1 ≤ w ∧ w ≤ 20) (hh : 1 ≤ h ∧ h ≤ 20) (hj : j < 4) (hrd : 0 ≤ rd j ∧ rd j ≤ 5) (hx0 : 0 ≤ x ∧ x < (w : Int)) (hy0 : 0 ≤ y ∧ y < (h : Int)) (hdp : bd (dp j) (-1) 5) (hz : 0 ≤ z ∧ z ≤ 1000) (hma : bd ma 0 1000) : Met l yX2_carve wsX2_carve r_X2_carve (zP (dC, dI) vwCl (rpT cA) (rpW a cA w h wa ma ka li hk sh T kd rd dp) sz [.ref (a 0), .ref (a (8 + j)), .int (iI x), .int (iI y), .int (iI z)]) (zQv (dC, dI) vwCl (rpT cA) (rpW a cA w h wa ma ka li hk sh T kd rd dp) sz (True) (rpW a cA w h wa (cvF w h (dp j) (rd j) x y z (nB h (rd j) y) ma) ka li hk sh T kd rd dp)) 0 0 (va_A (rpW a cA w h wa ma ka li hk sh T kd rd dp) sz) := by
  refine Met.ofW (cc := cX2_carve) (maxL := 11) (ret := none) (by decide) rfl ?_
  intro p e s m args below meth c s₁ B hml hv
  obtain ⟨rfl, hsz, hP, hK, hD0, hZ⟩ := hv
  have hx := B.exec
  have hb := B.bytes
  have hr := B.returns
  have hts0 := atoms_spec (ws := wsX2_carve) B.pre
  have hts : ∀ w ∈ wsAll, w.before _ s = true := fun w h => hts0 w (List.mem_cons_of_mem _ h)
  have hown : s.vm.findClass RX2 = some m.cls := findClass_of_methodNamed B.named
  have hlocks := B.notSynchronized
  subst hsz
  have hD := hD0.self (sz := s.heap.size)
  obtain ⟨A, hAe⟩ : ∃ A, A = va_A (rpW a cA w h wa ma ka li hk sh T kd rd dp) s.heap.size := ⟨_, rfl⟩
  rw [← hAe] at hD hZ
  have hA : ∀ q : Nat, s.heap.size ≤ q → A q := fun q h => by rw [hAe]; exact Or.inr h
  have hS : va_S A s.heap s.heap [] := va_S.rf
  have hP : va_P (dC, dI) vwCl (rpW a cA w h wa ma ka li hk sh T kd rd dp) s.heap := hP
  have hl := lv_entry ([.ref (a 0), .ref (a (8 + j)), .int (iI x), .int (iI y), .int (iI z)]) (n := 11) (Nat.le_of_ble_eq_true rfl)
  rw [lg_entry_eq]
  generalize (lg_sl ([.ref (a 0), .ref (a (8 + j)), .int (iI x), .int (iI y), .int (iI z)]) ++ List.replicate (11 - (lg_sl ([.ref (a 0), .ref (a (8 + j)), .int (iI x), .int (iI y), .int (iI z)])).length) Slot.unset).toArray = ls at hl ⊢
  have hl : lv_has ls 11 [(0, .ref (a 0)), (1, .ref (a (8 + j))), (2, .int (iI x)), (3, .int (iI y)), (4, .int (iI z))] := hl
  refine lv_aload_n hx hb dX2_carve_0 rfl (lv_at hl 0 rfl) ?_
  refine va_get (D := (dC, dI)) (ci := 2) (v := .int (iI (w : Int))) (C := RX2) (T := TX2) (N := 10) hx hb hts inX2 hown hK hP 0 rfl rfl 0 (by decide) (hts _ wm_171) (fun _ h9 => h9) rfl dX2_carve_1 ?_
  refine lv_iconst (v := iI 1) hx hb dX2_carve_4 rfl ?_
  refine z_sub hx hb dX2_carve_5 ?_
  refine lv_iload_n hx hb dX2_carve_6 rfl (lv_at hl 2 rfl) ?_
  refine lv_aload_n hx hb dX2_carve_7 rfl (lv_at hl 1 rfl) ?_
  refine va_getN (D := (dC, dI)) (ci := 0) (v := .int (iI (rd j))) (C := RX0) (T := TX0) (N := 3) hx hb hts inX0 hown hK hP (8 + j) (rpW_tool hj) rfl 1 (by decide) (va_Nw.use rfl (hZ.1 (.fieldLinkNest RX2 181 RX0 "radius" "I" RX2) (by decide +kernel))) (fun _ h9 => h9) rfl dX2_carve_8 ?_
  refine z_add hx hb dX2_carve_11 ?_
  refine z_min hx hb (hml.trans hl.1.symm) hown (hts _ wm_124) (hts _ wm_125) (hts _ wm_110) (hts _ wm_126) (Nat.le_of_ble_eq_true rfl) (Nat.le_of_ble_eq_true rfl) (Nat.le_of_ble_eq_true rfl) (Nat.le_of_ble_eq_true rfl) dX2_carve_12 (by omega) (by omega) ?_
  refine z_top (b := hiB w (rd j) x) (rfl) ?_
  refine lv_istore (lv' := [(5, .int (iI (hiB w (rd j) x))), (0, .ref (a 0)), (1, .ref (a (8 + j))), (2, .int (iI x)), (3, .int (iI y)), (4, .int (iI z))]) hx hb dX2_carve_15 hl (by decide) rfl (fun ls hl => ?_)
  refine lv_aload_n hx hb dX2_carve_17 rfl (lv_at hl 1 rfl) ?_
  refine va_get (D := (dC, dI)) (ci := 2) (v := .int (iI (h : Int))) (C := RX2) (T := TX2) (N := 10) hx hb hts inX2 hown hK hP 0 rfl rfl 1 (by decide) (hts _ wm_172) (fun _ h9 => h9) rfl dX2_carve_18 ?_
  refine lv_iconst (v := iI 1) hx hb dX2_carve_21 rfl ?_
  refine z_sub hx hb dX2_carve_22 ?_
  refine lv_iload_n hx hb dX2_carve_23 rfl (lv_at hl 4 rfl) ?_
  refine lv_aload_n hx hb dX2_carve_24 rfl (lv_at hl 2 rfl) ?_
  refine va_getN (D := (dC, dI)) (ci := 0) (v := .int (iI (rd j))) (C := RX0) (T := TX0) (N := 3) hx hb hts inX0 hown hK hP (8 + j) (rpW_tool hj) rfl 1 (by decide) (va_Nw.use rfl (hZ.1 (.fieldLinkNest RX2 181 RX0 "radius" "I" RX2) (by decide +kernel))) (fun _ h9 => h9) rfl dX2_carve_25 ?_
  refine z_add hx hb dX2_carve_28 ?_
  refine z_min hx hb (hml.trans hl.1.symm) hown (hts _ wm_124) (hts _ wm_125) (hts _ wm_110) (hts _ wm_126) (Nat.le_of_ble_eq_true rfl) (Nat.le_of_ble_eq_true rfl) (Nat.le_of_ble_eq_true rfl) (Nat.le_of_ble_eq_true rfl) dX2_carve_29 (by omega) (by omega) ?_
  refine z_top (b := hiB h (rd j) y) (rfl) ?_
  refine lv_istore (lv' := [(6, .int (iI (hiB h (rd j) y))), (5, .int (iI (hiB w (rd j) x))), (0, .ref (a 0)), (1, .ref (a (8 + j))), (2, .int (iI x)), (3, .int (iI y)), (4, .int (iI z))]) hx hb dX2_carve_32 hl (by decide) rfl (fun ls hl => ?_)
  refine lv_iconst (v := iI 0) hx hb dX2_carve_34 rfl ?_
  refine lv_iload_n hx hb dX2_carve_35 rfl (lv_at hl 5 rfl) ?_
  refine lv_aload_n hx hb dX2_carve_36 rfl (lv_at hl 3 rfl) ?_
  refine va_getN (D := (dC, dI)) (ci := 0) (v := .int (iI (rd j))) (C := RX0) (T := TX0) (N := 3) hx hb hts inX0 hown hK hP (8 + j) (rpW_tool hj) rfl 1 (by decide) (va_Nw.use rfl (hZ.1 (.fieldLinkNest RX2 181 RX0 "radius" "I" RX2) (by decide +kernel))) (fun _ h9 => h9) rfl dX2_carve_37 ?_
  refine z_sub hx hb dX2_carve_40 ?_
  refine z_max hx hb (hml.trans hl.1.symm) hown (hts _ wm_127) (hts _ wm_128) (hts _ wm_110) (hts _ wm_129) (Nat.le_of_ble_eq_true rfl) (Nat.le_of_ble_eq_true rfl) (Nat.le_of_ble_eq_true rfl) (Nat.le_of_ble_eq_true rfl) dX2_carve_41 (by omega) (by omega) ?_
  refine z_top (b := loB (rd j) y + ((0 : Nat) : Int)) (by unfold loB; omega) ?_
  refine lv_istore (lv' := [(7, .int (iI (loB (rd j) y + ((0 : Nat) : Int)))), (6, .int (iI (hiB h (rd j) y))), (5, .int (iI (hiB w (rd j) x))), (0, .ref (a 0)), (1, .ref (a (8 + j))), (2, .int (iI x)), (3, .int (iI y)), (4, .int (iI z))]) hx hb dX2_carve_44 hl (by decide) rfl (fun ls hl => ?_)
  refine lp_X2_carve_46 a cA w h wa ma ka li hk sh T kd rd dp j x y z hx hb hml hown hts hA hZ hK (hw) (hh) (hj) (hrd) (hx0) (hy0) (hdp) (hz) (hma) (fun H locs ls hP hD hS hl => ?_)  (nB h (rd j) y) 0 (by omega) _ _ _ hP hD hS (lv_sub hl [3, 4, 5, 6, 7, 2, 1, 0] rfl)
  have hP : va_P (dC, dI) vwCl (rpW a cA w h wa (cvF w h (dp j) (rd j) x y z (nB h (rd j) y) ma) ka li hk sh T kd rd dp) H := hP
  have hD : va_D A (rpW a cA w h wa (cvF w h (dp j) (rd j) x y z (nB h (rd j) y) ma) ka li hk sh T kd rd dp) := hD
  have hl : lv_has ls 11 [(0, .ref (a 0)), (1, .ref (a (8 + j))), (2, .int (iI x)), (3, .int (iI y)), (4, .int (iI z)), (5, .int (iI (hiB w (rd j) x))), (6, .int (iI (hiB h (rd j) y))), (7, .int (iI (loB (rd j) y + ((nB h (rd j) y : Nat) : Int))))] := hl
  subst hAe
  exact z_vret hx hb hr hlocks hP hK hD hS (trivial) dX2_carve_141
abbrev r_X2_greatestWanted : Room := { frames := 1, cells := 0, slots := 0, locals := 24 }
set_option maxHeartbeats 4000000 in
set_option maxRecDepth 100000 in
theorem lp_X2_greatestWanted_13 {p : Program} {l : Launch} {e : Env} {s : State} {m : MethodId} {args : Array Value} {below : List Frame} {meth : Method} {c : Code} {Q : State → Prop} {A : Nat → Prop} {dC : Nat → ClassId} {dI : Nat → Nat → Nat} (a : Nat → Nat) (cA : Nat → ClassId) (w h : Nat) (wa ma ka li : Nat → Int) (hk sh : Int) (T : TK) (kd rd : Nat → Int) (dp : Nat → Nat → Int) (hx : p.tables.exec = Jvm.exec) (hb : c.code = cX2_greatestWanted) (hml : c.maxLocals = 6) (hown : s.vm.findClass RX2 = some m.cls) (hts : ∀ w ∈ wsAll, w.before args s = true) (hA : ∀ q : Nat, s.heap.size ≤ q → A q) (hZ : zZ A s s.heap) (hK : va_K (dC, dI) vwCl (rpT cA) s) (hw : 1 ≤ w ∧ w ≤ 20) (hh : 1 ≤ h ∧ h ≤ 20) (hwa : bd wa 0 1000) (kk : ∀ (H : Heap) (locs : List Loc) (ls : Array Slot), va_P (dC, dI) vwCl (rpW a cA w h wa ma ka li hk sh T kd rd dp) H → va_D A (rpW a cA w h wa ma ka li hk sh T kd rd dp) → va_S A s.heap H locs → lv_has ls 6 [(0, .ref (a 0)), (1, .int (iI (gwF wa (w * h)))), (2, .ref (a 1)), (3, .int (iI ((w * h : Nat) : Int))), (4, .int (iI ((w * h : Nat) : Int)))] → W p l e r_X2_greatestWanted s m args below meth c H locs 0 0 Q (F0 m 38 ls [])) : ∀ (n i : Nat), i + n = w * h → ∀ (H : Heap) (locs : List Loc) (ls : Array Slot), va_P (dC, dI) vwCl (rpW a cA w h wa ma ka li hk sh T kd rd dp) H → va_D A (rpW a cA w h wa ma ka li hk sh T kd rd dp) → va_S A s.heap H locs → lv_has ls 6 [(0, .ref (a 0)), (1, .int (iI (gwF wa i))), (2, .ref (a 1)), (3, .int (iI ((w * h : Nat) : Int))), (4, .int (iI ((i : Nat) : Int)))] → W p l e r_X2_greatestWanted s m args below meth c H locs 0 0 Q (F0 m 13 ls []) := by
  intro n
  induction n with
  | zero =>
    intro i hi H locs ls hP hD hS hl
    have hi9 : w * h = i := by omega
    subst hi9
    have hwh := z_wh hw.2 hh.2
    refine lv_iload hx hb dX2_greatestWanted_13 (lv_at hl 4 rfl) ?_
    refine lv_iload_n hx hb dX2_greatestWanted_15 rfl (lv_at hl 3 rfl) ?_
    refine z_icmp_ge (tgt := 38) hx hb dX2_greatestWanted_16 (by decide) (by omega) (by omega) (fun c16 => ?_) (fun c16 => by exfalso; omega)
    exact kk _ _ _ hP hD hS (lv_sub hl [0, 1, 2, 3, 4] rfl)
  | succ n ih =>
    intro i hi H locs ls hP hD hS hl
    have hwh := z_wh hw.2 hh.2
    refine lv_iload hx hb dX2_greatestWanted_13 (lv_at hl 4 rfl) ?_
    refine lv_iload_n hx hb dX2_greatestWanted_15 rfl (lv_at hl 3 rfl) ?_
    refine z_icmp_ge (tgt := 38) hx hb dX2_greatestWanted_16 (by decide) (by omega) (by omega) (fun c16 => by exfalso; omega) (fun c16 => ?_)
    refine lv_aload_n hx hb dX2_greatestWanted_19 rfl (lv_at hl 2 rfl) ?_
    refine lv_iload hx hb dX2_greatestWanted_20 (lv_at hl 4 rfl) ?_
    refine z_iald (f := wa) (i := ((i : Nat) : Int)) hx hb hK hP 1 0 rfl rfl (by omega) (by omega) dX2_greatestWanted_22 ?_
    refine z_top (b := wa i) (rfl) ?_
    refine lv_istore (lv' := [(5, .int (iI (wa i))), (0, .ref (a 0)), (1, .int (iI (gwF wa i))), (2, .ref (a 1)), (3, .int (iI ((w * h : Nat) : Int))), (4, .int (iI ((i : Nat) : Int)))]) hx hb dX2_greatestWanted_23 hl (by decide) rfl (fun ls hl => ?_)
    refine lv_iload_n hx hb dX2_greatestWanted_25 rfl (lv_at hl 2 rfl) ?_
    refine lv_iload hx hb dX2_greatestWanted_26 (lv_at hl 0 rfl) ?_
    have hg1 := gwF_rg (n := i) hwa
    have hg2 := hwa i
    refine z_max hx hb (hml.trans hl.1.symm) hown (hts _ wm_127) (hts _ wm_128) (hts _ wm_110) (hts _ wm_129) (Nat.le_of_ble_eq_true rfl) (Nat.le_of_ble_eq_true rfl) (Nat.le_of_ble_eq_true rfl) (Nat.le_of_ble_eq_true rfl) dX2_greatestWanted_28 (by omega) (by omega) ?_
    refine lv_istore_n (lv' := [(1, .int (iI (max (gwF wa i) (wa i)))), (5, .int (iI (wa i))), (0, .ref (a 0)), (2, .ref (a 1)), (3, .int (iI ((w * h : Nat) : Int))), (4, .int (iI ((i : Nat) : Int)))]) hx hb dX2_greatestWanted_31 rfl hl (by decide) rfl (fun ls hl => ?_)
    refine lv_iinc (v := iI (((i + 1) : Nat) : Int)) (lv' := [(4, .int (iI (((i + 1) : Nat) : Int))), (1, .int (iI (max (gwF wa i) (wa i)))), (5, .int (iI (wa i))), (0, .ref (a 0)), (2, .ref (a 1)), (3, .int (iI ((w * h : Nat) : Int)))]) hx hb dX2_greatestWanted_32 hl (k := 5) rfl ((iI_add _ _).trans (congrArg iI (by omega))) (by decide) rfl (fun ls hl => ?_)
    refine lv_goto (tgt := 13) hx hb dX2_greatestWanted_35 (by decide) ?_
    exact ih (i + 1) (by omega) _ _ _ hP hD hS (lv_sub hl [3, 1, 4, 5, 0] rfl)
set_option maxHeartbeats 4000000 in
set_option maxRecDepth 100000 in
theorem c_X2_greatestWanted (l : Launch) (dC : Nat → ClassId) (dI : Nat → Nat → Nat) (sz : Nat) (a : Nat → Nat) (cA : Nat → ClassId) (w h : Nat) (wa ma ka li : Nat → Int) (hk sh : Int) (T : TK) (kd rd : Nat → Int) (dp : Nat → Nat → Int) (hw : 1 ≤ w ∧ w ≤ 20) (hh : 1 ≤ h ∧ h ≤ 20) (hwa : bd wa 0 1000) : Met l yX2_greatestWanted wsX2_greatestWanted r_X2_greatestWanted (zP (dC, dI) vwCl (rpT cA) (rpW a cA w h wa ma ka li hk sh T kd rd dp) sz [.ref (a 0)]) (zQi (dC, dI) vwCl (rpT cA) (rpW a cA w h wa ma ka li hk sh T kd rd dp) sz (True) (gwF wa (w * h)) (rpW a cA w h wa ma ka li hk sh T kd rd dp)) 0 0 (va_A (rpW a cA w h wa ma ka li hk sh T kd rd dp) sz) := by
  refine Met.ofW (cc := cX2_greatestWanted) (maxL := 6) (ret := (some .int)) (by decide) rfl ?_
  intro p e s m args below meth c s₁ B hml hv
  obtain ⟨rfl, hsz, hP, hK, hD0, hZ⟩ := hv
  have hx := B.exec
  have hb := B.bytes
  have hr := B.returns
  have hts0 := atoms_spec (ws := wsX2_greatestWanted) B.pre
  have hts : ∀ w ∈ wsAll, w.before _ s = true := fun w h => hts0 w (List.mem_cons_of_mem _ h)
  have hown : s.vm.findClass RX2 = some m.cls := findClass_of_methodNamed B.named
  have hlocks := B.notSynchronized
  subst hsz
  have hD := hD0.self (sz := s.heap.size)
  obtain ⟨A, hAe⟩ : ∃ A, A = va_A (rpW a cA w h wa ma ka li hk sh T kd rd dp) s.heap.size := ⟨_, rfl⟩
  rw [← hAe] at hD hZ
  have hA : ∀ q : Nat, s.heap.size ≤ q → A q := fun q h => by rw [hAe]; exact Or.inr h
  have hS : va_S A s.heap s.heap [] := va_S.rf
  have hP : va_P (dC, dI) vwCl (rpW a cA w h wa ma ka li hk sh T kd rd dp) s.heap := hP
  have hl := lv_entry ([.ref (a 0)]) (n := 6) (Nat.le_of_ble_eq_true rfl)
  rw [lg_entry_eq]
  generalize (lg_sl ([.ref (a 0)]) ++ List.replicate (6 - (lg_sl ([.ref (a 0)])).length) Slot.unset).toArray = ls at hl ⊢
  have hl : lv_has ls 6 [(0, .ref (a 0))] := hl
  refine lv_iconst (v := iI 0) hx hb dX2_greatestWanted_0 rfl ?_
  refine lv_istore_n (lv' := [(1, .int (iI 0)), (0, .ref (a 0))]) hx hb dX2_greatestWanted_1 rfl hl (by decide) rfl (fun ls hl => ?_)
  refine lv_aload_n hx hb dX2_greatestWanted_2 rfl (lv_at hl 1 rfl) ?_
  refine va_get (D := (dC, dI)) (ci := 2) (v := .ref (a 1)) (C := RX2) (T := TX2) (N := 10) hx hb hts inX2 hown hK hP 0 rfl rfl 2 (by decide) (hts _ wm_173) (fun _ h9 => h9) rfl dX2_greatestWanted_3 ?_
  refine lv_astore_n (lv' := [(2, .ref (a 1)), (1, .int (iI 0)), (0, .ref (a 0))]) hx hb dX2_greatestWanted_6 rfl hl (by decide) rfl (fun ls hl => ?_)
  refine lv_aload_n hx hb dX2_greatestWanted_7 rfl (lv_at hl 0 rfl) ?_
  refine z_alen hx hb hK hP 1 0 rfl rfl dX2_greatestWanted_8 ?_
  refine z_top (b := ((w * h : Nat) : Int)) rfl ?_
  refine lv_istore_n (lv' := [(3, .int (iI ((w * h : Nat) : Int))), (2, .ref (a 1)), (1, .int (iI 0)), (0, .ref (a 0))]) hx hb dX2_greatestWanted_9 rfl hl (by decide) rfl (fun ls hl => ?_)
  refine lv_iconst (v := iI 0) hx hb dX2_greatestWanted_10 rfl ?_
  refine lv_istore (lv' := [(4, .int (iI 0)), (3, .int (iI ((w * h : Nat) : Int))), (2, .ref (a 1)), (1, .int (iI 0)), (0, .ref (a 0))]) hx hb dX2_greatestWanted_11 hl (by decide) rfl (fun ls hl => ?_)
  refine lp_X2_greatestWanted_13 a cA w h wa ma ka li hk sh T kd rd dp hx hb hml hown hts hA hZ hK (hw) (hh) (hwa) (fun H locs ls hP hD hS hl => ?_)  (w * h) 0 (by omega) _ _ _ hP hD hS (lv_sub hl [4, 3, 2, 1, 0] rfl)
  have hP : va_P (dC, dI) vwCl (rpW a cA w h wa ma ka li hk sh T kd rd dp) H := hP
  have hD : va_D A (rpW a cA w h wa ma ka li hk sh T kd rd dp) := hD
  have hl : lv_has ls 6 [(0, .ref (a 0)), (1, .int (iI (gwF wa (w * h)))), (2, .ref (a 1)), (3, .int (iI ((w * h : Nat) : Int))), (4, .int (iI ((w * h : Nat) : Int)))] := hl
  refine lv_iload_n hx hb dX2_greatestWanted_38 rfl (lv_at hl 1 rfl) ?_
  subst hAe
  exact z_iret hx hb hr hlocks hP hK hD hS (trivial) dX2_greatestWanted_39
theorem g_X2_94 : GoodIn wsAll (wsV RX2 94 RX2 yX2_liftOver wsX2_liftOver) := z_good (show ∀ w ∈ (Cond.methodLink RX2 94 yX2_liftOver :: Cond.instanceMethod yX2_liftOver :: Cond.selects RX2 yX2_liftOver yX2_liftOver :: Cond.initialized RX2 :: Cond.code yX2_liftOver prog_1_method_28_code 10 (some .int) :: wsAll), w ∈ wsAll from List.forall_mem_cons.mpr ⟨wm_289, List.forall_mem_cons.mpr ⟨wm_290, List.forall_mem_cons.mpr ⟨wm_565, List.forall_mem_cons.mpr ⟨wm_109, List.forall_mem_cons.mpr ⟨wm_291, fun _ h => h⟩⟩⟩⟩⟩)
abbrev r_X2_findLifts : Room := { frames := 3, cells := 0, slots := 0, locals := 73 }
set_option maxHeartbeats 4000000 in
set_option maxRecDepth 100000 in
theorem lp_X2_findLifts_12 {p : Program} {l : Launch} {e : Env} {s : State} {m : MethodId} {args : Array Value} {below : List Frame} {meth : Method} {c : Code} {Q : State → Prop} {A : Nat → Prop} {dC : Nat → ClassId} {dI : Nat → Nat → Nat} (a : Nat → Nat) (cA : Nat → ClassId) (w h : Nat) (wa ma ka li : Nat → Int) (hk sh : Int) (T : TK) (kd rd : Nat → Int) (dp : Nat → Nat → Int) (j : Nat) (u : Int) (hx : p.tables.exec = Jvm.exec) (hb : c.code = cX2_findLifts) (hml : c.maxLocals = 4) (hown : s.vm.findClass RX2 = some m.cls) (hts : ∀ w ∈ wsAll, w.before args s = true) (hA : ∀ q : Nat, s.heap.size ≤ q → A q) (hZ : zZ A s s.heap) (hK : va_K (dC, dI) vwCl (rpT cA) s) (hw : 1 ≤ w ∧ w ≤ 20) (hh : 1 ≤ h ∧ h ≤ 20) (hj : j < 4) (hrd : 0 ≤ rd j ∧ rd j ≤ 5) (hdp : bd (dp j) (-1) 5) (hwa : bd wa 0 1000) (hu : 0 ≤ u ∧ u < (h : Int)) (kk : ∀ (H : Heap) (locs : List Loc) (ls : Array Slot), va_P (dC, dI) vwCl (rpW a cA w h wa ma ka (ltR w h wa (dp j) (rd j) u w li) hk sh T kd rd dp) H → va_D A (rpW a cA w h wa ma ka (ltR w h wa (dp j) (rd j) u w li) hk sh T kd rd dp) → va_S A s.heap H locs → lv_has ls 4 [(0, .ref (a 0)), (1, .ref (a (8 + j))), (2, .int (iI u)), (3, .int (iI ((w : Nat) : Int)))] → W p l e r_X2_findLifts s m args below meth c H locs 0 0 Q (F0 m 44 ls [])) : ∀ (n i : Nat), i + n = w → ∀ (H : Heap) (locs : List Loc) (ls : Array Slot), va_P (dC, dI) vwCl (rpW a cA w h wa ma ka (ltR w h wa (dp j) (rd j) u i li) hk sh T kd rd dp) H → va_D A (rpW a cA w h wa ma ka (ltR w h wa (dp j) (rd j) u i li) hk sh T kd rd dp) → va_S A s.heap H locs → lv_has ls 4 [(0, .ref (a 0)), (1, .ref (a (8 + j))), (2, .int (iI u)), (3, .int (iI ((i : Nat) : Int)))] → W p l e r_X2_findLifts s m args below meth c H locs 0 0 Q (F0 m 12 ls []) := by
  intro n
  induction n with
  | zero =>
    intro i hi H locs ls hP hD hS hl
    have hi9 : w = i := by omega
    subst hi9
    refine lv_iload_n hx hb dX2_findLifts_12 rfl (lv_at hl 3 rfl) ?_
    refine lv_aload_n hx hb dX2_findLifts_13 rfl (lv_at hl 0 rfl) ?_
    refine va_get (D := (dC, dI)) (ci := 2) (v := .int (iI (w : Int))) (C := RX2) (T := TX2) (N := 10) hx hb hts inX2 hown hK hP 0 rfl rfl 0 (by decide) (hts _ wm_171) (fun _ h9 => h9) rfl dX2_findLifts_14 ?_
    refine z_icmp_ge (tgt := 44) hx hb dX2_findLifts_17 (by decide) (by omega) (by omega) (fun c17 => ?_) (fun c17 => by exfalso; omega)
    exact kk _ _ _ hP hD hS (lv_sub hl [0, 1, 2, 3] rfl)
  | succ n ih =>
    intro i hi H locs ls hP hD hS hl
    have hwh := z_wh hw.2 hh.2
    refine lv_iload_n hx hb dX2_findLifts_12 rfl (lv_at hl 3 rfl) ?_
    refine lv_aload_n hx hb dX2_findLifts_13 rfl (lv_at hl 0 rfl) ?_
    refine va_get (D := (dC, dI)) (ci := 2) (v := .int (iI (w : Int))) (C := RX2) (T := TX2) (N := 10) hx hb hts inX2 hown hK hP 0 rfl rfl 0 (by decide) (hts _ wm_171) (fun _ h9 => h9) rfl dX2_findLifts_14 ?_
    refine z_icmp_ge (tgt := 44) hx hb dX2_findLifts_17 (by decide) (by omega) (by omega) (fun c17 => by exfalso; omega) (fun c17 => ?_)
    refine lv_aload_n hx hb dX2_findLifts_20 rfl (lv_at hl 0 rfl) ?_
    refine va_get (D := (dC, dI)) (ci := 2) (v := .ref (a 4)) (C := RX2) (T := TX2) (N := 10) hx hb hts inX2 hown hK hP 0 rfl rfl 5 (by decide) (hts _ wm_176) (fun _ h9 => h9) rfl dX2_findLifts_21 ?_
    refine lv_aload_n hx hb dX2_findLifts_24 rfl (lv_at hl 0 rfl) ?_
    refine lv_iload_n hx hb dX2_findLifts_25 rfl (lv_at hl 3 rfl) ?_
    refine lv_iload_n hx hb dX2_findLifts_26 rfl (lv_at hl 2 rfl) ?_
    have hFc := z_freeR (wc := rpW a cA w h wa ma ka (ltR w h wa (dp j) (rd j) u i li) hk sh T kd rd dp) (fun _ h => h) hD hS hA
    refine z_wcalli (va_runV (As := [.int (iI ((i : Nat) : Int)), .int (iI u)]) (rest := [.ref (a 4)]) ⟨hx, hb, hml, hown, hts⟩ (c_X2_placeAt l dC dI (H).size a cA w h wa ma ka (ltR w h wa (dp j) (rd j) u i li) hk sh T kd rd dp ((i : Nat) : Int) u) (cwV 2 hts g_X2_68 rfl rfl rfl (by decide +kernel) ⟨Nat.le_of_ble_eq_true rfl, Nat.le_of_ble_eq_true rfl⟩) (zP_V (ci := 2) (q0 := 0) rfl rfl hP hK hD hS hFc hZ) rfl rfl hl.1 rfl (lv_room (Nat.le_of_ble_eq_true rfl)) dX2_findLifts_27 ⟨Nat.le_of_ble_eq_true rfl, Nat.le_of_ble_eq_true rfl⟩) hS hFc (fun H locs _ hP hD hS _ => ?_)
    have hP : va_P (dC, dI) vwCl (rpW a cA w h wa ma ka (ltR w h wa (dp j) (rd j) u i li) hk sh T kd rd dp) H := hP
    have hD : va_D A (rpW a cA w h wa ma ka (ltR w h wa (dp j) (rd j) u i li) hk sh T kd rd dp) := hD
    refine lv_aload_n hx hb dX2_findLifts_30 rfl (lv_at hl 0 rfl) ?_
    refine lv_aload_n hx hb dX2_findLifts_31 rfl (lv_at hl 1 rfl) ?_
    refine lv_iload_n hx hb dX2_findLifts_32 rfl (lv_at hl 3 rfl) ?_
    refine lv_iload_n hx hb dX2_findLifts_33 rfl (lv_at hl 2 rfl) ?_
    have hFc := z_freeR (wc := rpW a cA w h wa ma ka (ltR w h wa (dp j) (rd j) u i li) hk sh T kd rd dp) (fun _ h => h) hD hS hA
    refine z_wcalli (va_runV (As := [.ref (a (8 + j)), .int (iI ((i : Nat) : Int)), .int (iI u)]) (rest := [.int (iI (u * (w : Int) + ((i : Nat) : Int))), .ref (a 4)]) ⟨hx, hb, hml, hown, hts⟩ (c_X2_liftOver l dC dI (H).size a cA w h wa ma ka (ltR w h wa (dp j) (rd j) u i li) hk sh T kd rd dp j ((i : Nat) : Int) u hw hh hj hrd (by omega) (by omega) hdp hwa) (cwV 3 hts g_X2_94 rfl rfl rfl (by decide +kernel) ⟨Nat.le_of_ble_eq_true rfl, Nat.le_of_ble_eq_true rfl⟩) (zP_V (ci := 2) (q0 := 0) rfl rfl hP hK hD hS hFc hZ) rfl rfl hl.1 rfl (lv_room (Nat.le_of_ble_eq_true rfl)) dX2_findLifts_34 ⟨Nat.le_of_ble_eq_true rfl, Nat.le_of_ble_eq_true rfl⟩) hS hFc (fun H locs _ hP hD hS _ => ?_)
    have hP : va_P (dC, dI) vwCl (rpW a cA w h wa ma ka (ltR w h wa (dp j) (rd j) u i li) hk sh T kd rd dp) H := hP
    have hD : va_D A (rpW a cA w h wa ma ka (ltR w h wa (dp j) (rd j) u i li) hk sh T kd rd dp) := hD
    refine z_iast (f := ltR w h wa (dp j) (rd j) u i li) (i := u * (w : Int) + ((i : Nat) : Int)) (x := lfF w h wa (dp j) (rd j) ((i : Nat) : Int) u (nB h (rd j) u)) hx hb hK hP hD hS 4 3 rfl rfl (z_ix (w := w) (h := h) (by omega) (by omega) hu.1 hu.2) (by omega) dX2_findLifts_37 (fun H locs hP hD hS => ?_)
    have hP : va_P (dC, dI) vwCl (rpW a cA w h wa ma ka (uI (ltR w h wa (dp j) (rd j) u i li) (u * (w : Int) + ((i : Nat) : Int)).toNat (lfF w h wa (dp j) (rd j) ((i : Nat) : Int) u (nB h (rd j) u))) hk sh T kd rd dp) H := hP
    have hD : va_D A (rpW a cA w h wa ma ka (uI (ltR w h wa (dp j) (rd j) u i li) (u * (w : Int) + ((i : Nat) : Int)).toNat (lfF w h wa (dp j) (rd j) ((i : Nat) : Int) u (nB h (rd j) u))) hk sh T kd rd dp) := hD
    refine lv_iinc (v := iI (((i + 1) : Nat) : Int)) (lv' := [(3, .int (iI (((i + 1) : Nat) : Int))), (0, .ref (a 0)), (1, .ref (a (8 + j))), (2, .int (iI u))]) hx hb dX2_findLifts_38 hl (k := 3) rfl ((iI_add _ _).trans (congrArg iI (by omega))) (by decide) rfl (fun ls hl => ?_)
    refine lv_goto (tgt := 12) hx hb dX2_findLifts_41 (by decide) ?_
    exact ih (i + 1) (by omega) _ _ _ hP hD hS (lv_sub hl [1, 2, 3, 0] rfl)
set_option maxHeartbeats 4000000 in
set_option maxRecDepth 100000 in
theorem lp_X2_findLifts_2 {p : Program} {l : Launch} {e : Env} {s : State} {m : MethodId} {args : Array Value} {below : List Frame} {meth : Method} {c : Code} {Q : State → Prop} {A : Nat → Prop} {dC : Nat → ClassId} {dI : Nat → Nat → Nat} (a : Nat → Nat) (cA : Nat → ClassId) (w h : Nat) (wa ma ka li : Nat → Int) (hk sh : Int) (T : TK) (kd rd : Nat → Int) (dp : Nat → Nat → Int) (j : Nat) (hx : p.tables.exec = Jvm.exec) (hb : c.code = cX2_findLifts) (hml : c.maxLocals = 4) (hown : s.vm.findClass RX2 = some m.cls) (hts : ∀ w ∈ wsAll, w.before args s = true) (hA : ∀ q : Nat, s.heap.size ≤ q → A q) (hZ : zZ A s s.heap) (hK : va_K (dC, dI) vwCl (rpT cA) s) (hw : 1 ≤ w ∧ w ≤ 20) (hh : 1 ≤ h ∧ h ≤ 20) (hj : j < 4) (hrd : 0 ≤ rd j ∧ rd j ≤ 5) (hdp : bd (dp j) (-1) 5) (hwa : bd wa 0 1000) (kk : ∀ (H : Heap) (locs : List Loc) (ls : Array Slot), va_P (dC, dI) vwCl (rpW a cA w h wa ma ka (ltF w h wa (dp j) (rd j) h li) hk sh T kd rd dp) H → va_D A (rpW a cA w h wa ma ka (ltF w h wa (dp j) (rd j) h li) hk sh T kd rd dp) → va_S A s.heap H locs → lv_has ls 4 [(0, .ref (a 0)), (1, .ref (a (8 + j))), (2, .int (iI ((h : Nat) : Int)))] → W p l e r_X2_findLifts s m args below meth c H locs 0 0 Q (F0 m 50 ls [])) : ∀ (n i : Nat), i + n = h → ∀ (H : Heap) (locs : List Loc) (ls : Array Slot), va_P (dC, dI) vwCl (rpW a cA w h wa ma ka (ltF w h wa (dp j) (rd j) i li) hk sh T kd rd dp) H → va_D A (rpW a cA w h wa ma ka (ltF w h wa (dp j) (rd j) i li) hk sh T kd rd dp) → va_S A s.heap H locs → lv_has ls 4 [(0, .ref (a 0)), (1, .ref (a (8 + j))), (2, .int (iI ((i : Nat) : Int)))] → W p l e r_X2_findLifts s m args below meth c H locs 0 0 Q (F0 m 2 ls []) := by
  intro n
  induction n with
  | zero =>
    intro i hi H locs ls hP hD hS hl
    have hi9 : h = i := by omega
    subst hi9
    refine lv_iload_n hx hb dX2_findLifts_2 rfl (lv_at hl 2 rfl) ?_
    refine lv_aload_n hx hb dX2_findLifts_3 rfl (lv_at hl 0 rfl) ?_
    refine va_get (D := (dC, dI)) (ci := 2) (v := .int (iI (h : Int))) (C := RX2) (T := TX2) (N := 10) hx hb hts inX2 hown hK hP 0 rfl rfl 1 (by decide) (hts _ wm_172) (fun _ h9 => h9) rfl dX2_findLifts_4 ?_
    refine z_icmp_ge (tgt := 50) hx hb dX2_findLifts_7 (by decide) (by omega) (by omega) (fun c7 => ?_) (fun c7 => by exfalso; omega)
    exact kk _ _ _ hP hD hS (lv_sub hl [0, 1, 2] rfl)
  | succ n ih =>
    intro i hi H locs ls hP hD hS hl
    refine lv_iload_n hx hb dX2_findLifts_2 rfl (lv_at hl 2 rfl) ?_
    refine lv_aload_n hx hb dX2_findLifts_3 rfl (lv_at hl 0 rfl) ?_
    refine va_get (D := (dC, dI)) (ci := 2) (v := .int (iI (h : Int))) (C := RX2) (T := TX2) (N := 10) hx hb hts inX2 hown hK hP 0 rfl rfl 1 (by decide) (hts _ wm_172) (fun _ h9 => h9) rfl dX2_findLifts_4 ?_
    refine z_icmp_ge (tgt := 50) hx hb dX2_findLifts_7 (by decide) (by omega) (by omega) (fun c7 => by exfalso; omega) (fun c7 => ?_)
    refine lv_iconst (v := iI 0) hx hb dX2_findLifts_10 rfl ?_
    refine lv_istore_n (lv' := [(3, .int (iI 0)), (0, .ref (a 0)), (1, .ref (a (8 + j))), (2, .int (iI ((i : Nat) : Int)))]) hx hb dX2_findLifts_11 rfl hl (by decide) rfl (fun ls hl => ?_)
    refine lp_X2_findLifts_12 a cA w h wa ma ka (ltF w h wa (dp j) (rd j) i li) hk sh T kd rd dp j ((i : Nat) : Int) hx hb hml hown hts hA hZ hK (hw) (hh) (hj) (hrd) (hdp) (hwa) (by omega) (fun H locs ls hP hD hS hl => ?_)  w 0 (by omega) _ _ _ hP hD hS (lv_sub hl [1, 2, 3, 0] rfl)
    have hP : va_P (dC, dI) vwCl (rpW a cA w h wa ma ka (ltR w h wa (dp j) (rd j) ((i : Nat) : Int) w (ltF w h wa (dp j) (rd j) i li)) hk sh T kd rd dp) H := hP
    have hD : va_D A (rpW a cA w h wa ma ka (ltR w h wa (dp j) (rd j) ((i : Nat) : Int) w (ltF w h wa (dp j) (rd j) i li)) hk sh T kd rd dp) := hD
    have hl : lv_has ls 4 [(0, .ref (a 0)), (1, .ref (a (8 + j))), (2, .int (iI ((i : Nat) : Int))), (3, .int (iI ((w : Nat) : Int)))] := hl
    refine lv_iinc (v := iI (((i + 1) : Nat) : Int)) (lv' := [(2, .int (iI (((i + 1) : Nat) : Int))), (0, .ref (a 0)), (1, .ref (a (8 + j))), (3, .int (iI ((w : Nat) : Int)))]) hx hb dX2_findLifts_44 hl (k := 2) rfl ((iI_add _ _).trans (congrArg iI (by omega))) (by decide) rfl (fun ls hl => ?_)
    refine lv_goto (tgt := 2) hx hb dX2_findLifts_47 (by decide) ?_
    exact ih (i + 1) (by omega) _ _ _ hP hD hS (lv_sub hl [1, 2, 0] rfl)
set_option maxHeartbeats 4000000 in
set_option maxRecDepth 100000 in
theorem c_X2_findLifts (l : Launch) (dC : Nat → ClassId) (dI : Nat → Nat → Nat) (sz : Nat) (a : Nat → Nat) (cA : Nat → ClassId) (w h : Nat) (wa ma ka li : Nat → Int) (hk sh : Int) (T : TK) (kd rd : Nat → Int) (dp : Nat → Nat → Int) (j : Nat) (hw : 1 ≤ w ∧ w ≤ 20) (hh : 1 ≤ h ∧ h ≤ 20) (hj : j < 4) (hrd : 0 ≤ rd j ∧ rd j ≤ 5) (hdp : bd (dp j) (-1) 5) (hwa : bd wa 0 1000) : Met l yX2_findLifts wsX2_findLifts r_X2_findLifts (zP (dC, dI) vwCl (rpT cA) (rpW a cA w h wa ma ka li hk sh T kd rd dp) sz [.ref (a 0), .ref (a (8 + j))]) (zQv (dC, dI) vwCl (rpT cA) (rpW a cA w h wa ma ka li hk sh T kd rd dp) sz (True) (rpW a cA w h wa ma ka (ltF w h wa (dp j) (rd j) h li) hk sh T kd rd dp)) 0 0 (va_A (rpW a cA w h wa ma ka li hk sh T kd rd dp) sz) := by
  refine Met.ofW (cc := cX2_findLifts) (maxL := 4) (ret := none) (by decide) rfl ?_
  intro p e s m args below meth c s₁ B hml hv
  obtain ⟨rfl, hsz, hP, hK, hD0, hZ⟩ := hv
  have hx := B.exec
  have hb := B.bytes
  have hr := B.returns
  have hts0 := atoms_spec (ws := wsX2_findLifts) B.pre
  have hts : ∀ w ∈ wsAll, w.before _ s = true := fun w h => hts0 w (List.mem_cons_of_mem _ h)
  have hown : s.vm.findClass RX2 = some m.cls := findClass_of_methodNamed B.named
  have hlocks := B.notSynchronized
  subst hsz
  have hD := hD0.self (sz := s.heap.size)
  obtain ⟨A, hAe⟩ : ∃ A, A = va_A (rpW a cA w h wa ma ka li hk sh T kd rd dp) s.heap.size := ⟨_, rfl⟩
  rw [← hAe] at hD hZ
  have hA : ∀ q : Nat, s.heap.size ≤ q → A q := fun q h => by rw [hAe]; exact Or.inr h
  have hS : va_S A s.heap s.heap [] := va_S.rf
  have hP : va_P (dC, dI) vwCl (rpW a cA w h wa ma ka li hk sh T kd rd dp) s.heap := hP
  have hl := lv_entry ([.ref (a 0), .ref (a (8 + j))]) (n := 4) (Nat.le_of_ble_eq_true rfl)
  rw [lg_entry_eq]
  generalize (lg_sl ([.ref (a 0), .ref (a (8 + j))]) ++ List.replicate (4 - (lg_sl ([.ref (a 0), .ref (a (8 + j))])).length) Slot.unset).toArray = ls at hl ⊢
  have hl : lv_has ls 4 [(0, .ref (a 0)), (1, .ref (a (8 + j)))] := hl
  refine lv_iconst (v := iI 0) hx hb dX2_findLifts_0 rfl ?_
  refine lv_istore_n (lv' := [(2, .int (iI 0)), (0, .ref (a 0)), (1, .ref (a (8 + j)))]) hx hb dX2_findLifts_1 rfl hl (by decide) rfl (fun ls hl => ?_)
  refine lp_X2_findLifts_2 a cA w h wa ma ka li hk sh T kd rd dp j hx hb hml hown hts hA hZ hK (hw) (hh) (hj) (hrd) (hdp) (hwa) (fun H locs ls hP hD hS hl => ?_)  h 0 (by omega) _ _ _ hP hD hS (lv_sub hl [1, 2, 0] rfl)
  have hP : va_P (dC, dI) vwCl (rpW a cA w h wa ma ka (ltF w h wa (dp j) (rd j) h li) hk sh T kd rd dp) H := hP
  have hD : va_D A (rpW a cA w h wa ma ka (ltF w h wa (dp j) (rd j) h li) hk sh T kd rd dp) := hD
  have hl : lv_has ls 4 [(0, .ref (a 0)), (1, .ref (a (8 + j))), (2, .int (iI ((h : Nat) : Int)))] := hl
  subst hAe
  exact z_vret hx hb hr hlocks hP hK hD hS (trivial) dX2_findLifts_50
end
