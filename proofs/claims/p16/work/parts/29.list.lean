/-- the array classes, with that of the lists' arrays -/
abbrev lwTY2 (D : va_G) : List (ClassId × FieldType) := [(D.1 100, .byte), (D.1 101, .int), (D.1 102, .object "java/lang/Object")]
abbrev nmHas : MethodName := ⟨"java/util/Iterator", "hasNext", "()Z"⟩
abbrev nmNext : MethodName := ⟨"java/util/Iterator", "next", "()Ljava/lang/Object;"⟩
/-- what the lists and the boxes rest on: the empty array, the boxes kept ready, the iterator's two calls, the array class's own object -/
def lwI (D : va_G) (A : Nat → Prop) (U : State) (H : Heap) : Prop :=
  (va_Z "java/util/ArrayList" "DEFAULTCAPACITY_EMPTY_ELEMENTDATA" "[Ljava/lang/Object;" (.ref (D.2 200 0)) A U H ∧ va_T (.object "java/lang/Object") (D.2 200 0) 0 (fun _ => .null) A U H) ∧
  (va_Z "java/lang/Integer$IntegerCache" "high" "I" (.int 127) A U H ∧ va_Z "java/lang/Integer$IntegerCache" "cache" "[Ljava/lang/Integer;" (.ref (D.2 200 1)) A U H ∧ va_T (.object "java/lang/Integer") (D.2 200 1) 256 (fun k => .ref (D.2 201 k)) A U H ∧ vb_C (D.2 201) A U H) ∧
  (va_Fw RJx35411 nmHas yJx35411_hasNext_aae02 U ∧ va_Fw RJx35411 nmNext yJx35411_next_0502b U) ∧
  (va_AO "java/lang/Object" U ∧ va_Mi "[Ljava/lang/Object;" (D.2 200 2) U ∧ va_Dc U)
theorem lwI.moved {D : va_G} {A : Nat → Prop} {u U : State} {H : Heap} (hvm : u.vm.Alike U.vm) (h : lwI D A u H) : lwI D A U H :=
  ⟨⟨va_Z.moved hvm h.1.1, va_T.moved hvm h.1.2⟩, ⟨va_Z.moved hvm h.2.1.1, va_Z.moved hvm h.2.1.2.1, va_T.moved hvm h.2.1.2.2.1, vb_C.moved hvm h.2.1.2.2.2⟩, ⟨va_Fw.moved (by decide) hvm h.2.2.1.1, va_Fw.moved (by decide) hvm h.2.2.1.2⟩, ⟨va_AO.moved hvm h.2.2.2.1, va_Mi.moved hvm h.2.2.2.2.1, va_Dc.moved hvm h.2.2.2.2.2⟩⟩
theorem lwI.kept {D : va_G} {A : Nat → Prop} {U : State} {H H1 : Heap} (h : lwI D A U H) (hq : ∀ a : Nat, a < H.size → ¬ A a → H1[a]? = H[a]?) : lwI D A U H1 :=
  ⟨⟨va_Z.kept h.1.1 hq, va_T.kept h.1.2 hq⟩, ⟨va_Z.kept h.2.1.1 hq, va_Z.kept h.2.1.2.1 hq, va_T.kept h.2.1.2.2.1 hq, vb_C.kept h.2.1.2.2.2 hq⟩, h.2.2⟩
theorem lwI.narrow {D : va_G} {A B : Nat → Prop} {U : State} {H : Heap} (h : lwI D A U H) (hAB : ∀ q, B q → A q) : lwI D B U H :=
  ⟨⟨va_Z.narrow h.1.1 hAB, va_T.narrow h.1.2 hAB⟩, ⟨va_Z.narrow h.2.1.1 hAB, va_Z.narrow h.2.1.2.1 hAB, va_T.narrow h.2.1.2.2.1 hAB, vb_C.narrow h.2.1.2.2.2 hAB⟩, h.2.2⟩
theorem lwI_for {D : va_G} {A B : Nat → Prop} {s : State} {H : Heap} {locs : List Loc} (h : lwI D A s s.heap) (hS : va_S A s.heap H locs) (hAB : ∀ q, B q → A q) : lwI D B s H := (h.kept hS.2.1).narrow hAB
/-- a state in which a method of the reference may begin -/
def rPre (D : va_G) (ty : List (ClassId × FieldType)) (ws : va_W) (sz : Nat) : State → Prop := fun U => cPre D ty ws sz U ∧ lwI D (va_A ws sz) U U.heap
theorem rPre_blind {D : va_G} {ty : List (ClassId × FieldType)} {ws : va_W} {sz : Nat} {av : List Value} : FrameBlind (va_Pc av (rPre D ty ws sz)) := fun a U g mk q => by
  obtain ⟨q0, q1, q2⟩ := q
  have h1 := cPre_blind (D := D) (ty := ty) (ws := ws) (sz := sz) (av := av) a U g mk ⟨q0, q1⟩
  exact ⟨h1.1, h1.2, lwI.moved (u := U) (U := U.calling g mk a) (Vm.Alike.refl U.vm) q2⟩
theorem rPre_mk {D : va_G} {ty : List (ClassId × FieldType)} {wc : va_W} {s : State} {H : Heap} {A : Nat → Prop} {av : List Value} (hI : lwI D (va_A wc H.size) s H) (hP : va_P D vwCl wc H) (hK : va_K D vwCl ty s) (hD : va_D A wc) (hN : (∀ w ∈ lwNest, va_Nw w s) ∧ lwTx s) (hZ : lwZ (va_A wc H.size) s H) : ∀ U : State, U.heap = H → s.WarmedH U.vm → va_Pc av (rPre D ty wc H.size) av.toArray U :=
  fun U hU hW => by
    obtain ⟨h0, h1⟩ := cPre_mk (av := av) hP hK hD hN hZ U hU hW
    exact ⟨h0, h1, by rw [hU]; exact lwI.moved hW.alike hI⟩
/-- y is an object of the class C -/
def elm (C : String) (y : Nat) (U : State) (H : Heap) : Prop := ∃ cellV : Cell, H[y]? = some cellV ∧ cellV.vm.isStatics = false ∧ U.vm.findClass C = some cellV.cls
theorem elm.moved {C : String} {y : Nat} {u U : State} {H : Heap} (hvm : u.vm.Alike U.vm) (h : elm C y u H) : elm C y U H := by
  obtain ⟨c, h1, h2, h3⟩ := h
  exact ⟨c, h1, h2, by rw [hvm.findClass]; exact h3⟩
theorem va_Any.moved9 {E : String} {u U : State} {H : Heap} {v : Nat} (hvm : u.vm.Alike U.vm) (h : va_Any E u H v) : va_Any E U H v := by
  obtain ⟨c, h1, h2, ⟨kC, h3⟩, h4⟩ := h
  obtain ⟨k', hk', -⟩ := hvm.2.2 _ _ h3
  exact ⟨c, h1, h2, ⟨k', hk'⟩, fun comp hc => by rw [hvm.findClass] at hc; first | (rw [hvm.assignable]; exact h4 comp hc) | exact (hvm.assignable (h4 comp hc)) | exact (hvm.assignable _ _).trans (h4 comp hc)⟩
/-- a state in which a list's method may begin that copies or stores: what the array holds are objects of C, what is stored is an object -/
def mPre (D : va_G) (ty : List (ClassId × FieldType)) (ws : va_W) (sz : Nat) (C : String) (n : Nat) (g : Nat → Option Nat) (ov : Option Nat) : State → Prop := fun U => rPre D ty ws sz U ∧ (∀ i, i < n → ∀ y, g i = some y → elm C y U U.heap ∧ ¬ va_A ws sz y) ∧ (∀ v, ov = some v → va_Any "java/lang/Object" U U.heap v ∧ ¬ va_A ws sz v) ∧ va_Nw (.castable C "java/lang/Object") U
theorem mPre_blind {D : va_G} {ty : List (ClassId × FieldType)} {ws : va_W} {sz : Nat} {C : String} {n : Nat} {g : Nat → Option Nat} {ov : Option Nat} {av : List Value} : FrameBlind (va_Pc av (mPre D ty ws sz C n g ov)) := fun a U g' mk q => by
  obtain ⟨q0, q1, q2, q3, q4⟩ := q
  have h1 := rPre_blind (D := D) (ty := ty) (ws := ws) (sz := sz) (av := av) a U g' mk ⟨q0, q1⟩
  exact ⟨h1.1, h1.2, fun i hi y hy => ⟨elm.moved (u := U) (U := U.calling g' mk a) (Vm.Alike.refl U.vm) (q2 i hi y hy).1, (q2 i hi y hy).2⟩, fun v hv => ⟨va_Any.moved9 (u := U) (U := U.calling g' mk a) (Vm.Alike.refl U.vm) (q3 v hv).1, (q3 v hv).2⟩, va_Nw.same rfl (show U.vm = (U.calling g' mk a).vm from rfl) q4⟩
theorem elm_keep {A : Nat → Prop} {s : State} {H : Heap} {locs : List Loc} {C : String} {y : Nat} (hS : va_S A s.heap H locs) (h : elm C y s s.heap) (hA : ¬ A y) : elm C y s H := by
  obtain ⟨c, h1, h2⟩ := h
  exact ⟨c, by rw [hS.2.1 y (Array.getElem?_eq_some_iff.mp h1).1 hA]; exact h1, h2⟩
theorem any_keep {A : Nat → Prop} {s : State} {H : Heap} {locs : List Loc} {E : String} {v : Nat} (hS : va_S A s.heap H locs) (h : va_Any E s s.heap v) (hA : ¬ A v) : va_Any E s H v := by
  obtain ⟨c, h1, h2⟩ := h
  exact ⟨c, by rw [hS.2.1 v (Array.getElem?_eq_some_iff.mp h1).1 hA]; exact h1, h2⟩
theorem mPre_mk {D : va_G} {ty : List (ClassId × FieldType)} {wc : va_W} {s : State} {H : Heap} {A A0 : Nat → Prop} {locs : List Loc} {C : String} {n : Nat} {g : Nat → Option Nat} {ov : Option Nat} {av : List Value} (hS : va_S A0 s.heap H locs) (hFc : ∀ q, va_A wc H.size q → A0 q) (hEl : ∀ i, i < n → ∀ y, g i = some y → elm C y s s.heap ∧ ¬ A0 y) (hOv : ∀ v, ov = some v → va_Any "java/lang/Object" s s.heap v ∧ ¬ A0 v) (hCa : va_Nw (.castable C "java/lang/Object") s) (hI : lwI D (va_A wc H.size) s H) (hP : va_P D vwCl wc H) (hK : va_K D vwCl ty s) (hD : va_D A wc) (hN : (∀ w ∈ lwNest, va_Nw w s) ∧ lwTx s) (hZ : lwZ (va_A wc H.size) s H) : ∀ U : State, U.heap = H → s.WarmedH U.vm → va_Pc av (mPre D ty wc H.size C n g ov) av.toArray U :=
  fun U hU hW => by
    obtain ⟨h0, h1⟩ := rPre_mk (av := av) hI hP hK hD hN hZ U hU hW
    exact ⟨h0, h1, fun i hi y hy => ⟨by rw [hU]; exact (elm_keep hS (hEl i hi y hy).1 (hEl i hi y hy).2).moved hW.alike, fun z => (hEl i hi y hy).2 (hFc y z)⟩, fun v hv => ⟨by rw [hU]; exact (any_keep hS (hOv v hv).1 (hOv v hv).2).moved9 hW.alike, fun z => (hOv v hv).2 (hFc v z)⟩, va_Nw.warmC hW hCa⟩
/-- an object of a class of ours may be stored in a list -/
theorem elm_any {C : String} {s : State} {H : Heap} {y : Nat} (h : elm C y s H) (hCa : va_Nw (.castable C "java/lang/Object") s) : va_Any "java/lang/Object" s H y := by
  obtain ⟨c, h1, h2, h3⟩ := h
  obtain ⟨kC, hk, -⟩ := Vm.findClass_spec h3
  exact ⟨c, h1, h2, ⟨kC, hk⟩, fun comp hc => vb_asgC hCa comp c.cls hc h3⟩
