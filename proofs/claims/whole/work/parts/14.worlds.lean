def tkW (tr kp : Nat) (ck : ClassId) (T : TK) : va_W := [(tr, oI 1 [.ref kp, .int (iI T.2.1), .long (lI T.2.2.1), .int (iI T.2.2.2.1), .int (iI T.2.2.2.2.1), .int (iI T.2.2.2.2.2)]), (kp, aI ck 2000 T.1)]
def rpW (a : Nat → Nat) (cA : Nat → ClassId) (w h : Nat) (wa ma ka li : Nat → Int) (hk sh : Int) (T : TK) (kd rd : Nat → Int) (dp : Nat → Nat → Int) : va_W := [(a 0, oI 2 [.int (iI (w : Int)), .int (iI (h : Int)), .ref (a 1), .ref (a 2), .ref (a 3), .ref (a 4), .ref (a 5), .ref (a 6), .int (iI hk), .int (iI sh)]), (a 1, aI (cA 0) (w * h) wa), (a 2, aI (cA 1) (w * h) ma), (a 3, aI (cA 2) (w * h) ka), (a 4, aI (cA 3) (w * h) li), (a 5, aQ (cA 4) 4 (fun j => a (8 + j))), (a 6, oI 1 [.ref (a 7), .int (iI T.2.1), .long (lI T.2.2.1), .int (iI T.2.2.2.1), .int (iI T.2.2.2.2.1), .int (iI T.2.2.2.2.2)]), (a 7, aI (cA 5) 2000 T.1), (a 8, oI 0 [.int (iI (kd 0)), .int (iI (rd 0)), .ref (a 12)]), (a 9, oI 0 [.int (iI (kd 1)), .int (iI (rd 1)), .ref (a 13)]), (a 10, oI 0 [.int (iI (kd 2)), .int (iI (rd 2)), .ref (a 14)]), (a 11, oI 0 [.int (iI (kd 3)), .int (iI (rd 3)), .ref (a 15)]), (a 12, aI (cA 6) 121 (dp 0)), (a 13, aI (cA 7) 121 (dp 1)), (a 14, aI (cA 8) 121 (dp 2)), (a 15, aI (cA 9) 121 (dp 3))]
def rpT (cA : Nat → ClassId) : List (ClassId × FieldType) := [(cA 0, .int), (cA 1, .int), (cA 2, .int), (cA 3, .int), (cA 4, .object "ReliefPasses$Tool"), (cA 5, .int), (cA 6, .int), (cA 7, .int), (cA 8, .int), (cA 9, .int)]
def tlW (t d : Nat) (cd : ClassId) (kd r : Int) (dp : Nat → Int) : va_W := [(t, oI 0 [.int (iI kd), .int (iI r), .ref d]), (d, aI cd 121 dp)]
theorem rpW_tool {a : Nat → Nat} {cA : Nat → ClassId} {w h : Nat} {wa ma ka li : Nat → Int} {hk sh : Int} {T : TK} {kd rd : Nat → Int} {dp : Nat → Nat → Int} {j : Nat} (hj : j < 4) : (rpW a cA w h wa ma ka li hk sh T kd rd dp)[8 + j]? = some (a (8 + j), oI 0 [.int (iI (kd j)), .int (iI (rd j)), .ref (a (12 + j))]) := match j, hj with
  | 0, _ => rfl
  | 1, _ => rfl
  | 2, _ => rfl
  | 3, _ => rfl
theorem rpW_dep {a : Nat → Nat} {cA : Nat → ClassId} {w h : Nat} {wa ma ka li : Nat → Int} {hk sh : Int} {T : TK} {kd rd : Nat → Int} {dp : Nat → Nat → Int} {j : Nat} (hj : j < 4) : (rpW a cA w h wa ma ka li hk sh T kd rd dp)[12 + j]? = some (a (12 + j), aI (cA (6 + j)) 121 (dp j)) := match j, hj with
  | 0, _ => rfl
  | 1, _ => rfl
  | 2, _ => rfl
  | 3, _ => rfl
theorem rpW_sub {a : Nat → Nat} {cA : Nat → ClassId} {w h : Nat} {wa ma ka li : Nat → Int} {hk sh : Int} {T : TK} {kd rd : Nat → Int} {dp : Nat → Nat → Int} {j : Nat} (hj : j < 4) : ∀ q ∈ tlW (a (8 + j)) (a (12 + j)) (cA (6 + j)) (kd j) (rd j) (dp j), q ∈ rpW a cA w h wa ma ka li hk sh T kd rd dp := by
  intro q hq
  rcases List.mem_cons.mp hq with rfl | hq
  · exact List.mem_of_getElem? (rpW_tool hj)
  · rcases List.mem_cons.mp hq with rfl | hq
    · exact List.mem_of_getElem? (rpW_dep hj)
    · cases hq
theorem rpW_DT {A : Nat → Prop} {a : Nat → Nat} {cA : Nat → ClassId} {w h : Nat} {wa ma ka li : Nat → Int} {hk sh : Int} {T : TK} {kd rd : Nat → Int} {dp : Nat → Nat → Int} {j : Nat} (hj : j < 4) (hD : va_D A (rpW a cA w h wa ma ka li hk sh T kd rd dp)) : va_D A (tlW (a (8 + j)) (a (12 + j)) (cA (6 + j)) (kd j) (rd j) (dp j)) := match j, hj with
  | 0, _ => hD.sub [8, 12] (by decide) rfl
  | 1, _ => hD.sub [9, 13] (by decide) rfl
  | 2, _ => hD.sub [10, 14] (by decide) rfl
  | 3, _ => hD.sub [11, 15] (by decide) rfl
theorem rpT_K {D : va_G} {cl : List vw_C} {s : State} {cA : Nat → ClassId} {j : Nat} (hj : j < 4) (hK : va_K D cl (rpT cA) s) : va_K D cl [(cA (6 + j), .int)] s := match j, hj with
  | 0, _ => hK.sub [6] rfl
  | 1, _ => hK.sub [7] rfl
  | 2, _ => hK.sub [8] rfl
  | 3, _ => hK.sub [9] rfl
