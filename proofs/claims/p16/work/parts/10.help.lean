theorem lwNest_kind : ∀ w ∈ lwNest, (∃ a i b n d h, w = .fieldLinkNest a i b n d h) ∨ (∃ a i x h, w = .methodLinkNest a i x h) ∨ (∃ C T, w = .castable C T) ∨ (∃ x, w = .declares x) := List.forall_mem_cons.mpr ⟨Or.inr (Or.inl ⟨_, _, _, _, rfl⟩), List.forall_mem_cons.mpr ⟨Or.inl ⟨_, _, _, _, _, _, rfl⟩, List.forall_mem_cons.mpr ⟨Or.inl ⟨_, _, _, _, _, _, rfl⟩, List.forall_mem_cons.mpr ⟨Or.inl ⟨_, _, _, _, _, _, rfl⟩, List.forall_mem_cons.mpr ⟨Or.inl ⟨_, _, _, _, _, _, rfl⟩, List.forall_mem_cons.mpr ⟨Or.inl ⟨_, _, _, _, _, _, rfl⟩, List.forall_mem_cons.mpr ⟨Or.inl ⟨_, _, _, _, _, _, rfl⟩, List.forall_mem_cons.mpr ⟨Or.inr (Or.inl ⟨_, _, _, _, rfl⟩), List.forall_mem_cons.mpr ⟨Or.inl ⟨_, _, _, _, _, _, rfl⟩, List.forall_mem_cons.mpr ⟨Or.inl ⟨_, _, _, _, _, _, rfl⟩, List.forall_mem_cons.mpr ⟨Or.inl ⟨_, _, _, _, _, _, rfl⟩, List.forall_mem_cons.mpr ⟨Or.inl ⟨_, _, _, _, _, _, rfl⟩, List.forall_mem_cons.mpr ⟨Or.inl ⟨_, _, _, _, _, _, rfl⟩, List.forall_mem_cons.mpr ⟨Or.inl ⟨_, _, _, _, _, _, rfl⟩, List.forall_mem_cons.mpr ⟨Or.inr (Or.inl ⟨_, _, _, _, rfl⟩), List.forall_mem_cons.mpr ⟨Or.inl ⟨_, _, _, _, _, _, rfl⟩, List.forall_mem_cons.mpr ⟨Or.inl ⟨_, _, _, _, _, _, rfl⟩, List.forall_mem_cons.mpr ⟨Or.inl ⟨_, _, _, _, _, _, rfl⟩, List.forall_mem_cons.mpr ⟨Or.inl ⟨_, _, _, _, _, _, rfl⟩, List.forall_mem_cons.mpr ⟨Or.inl ⟨_, _, _, _, _, _, rfl⟩, List.forall_mem_cons.mpr ⟨Or.inr (Or.inl ⟨_, _, _, _, rfl⟩), List.forall_mem_cons.mpr ⟨Or.inl ⟨_, _, _, _, _, _, rfl⟩, List.forall_mem_cons.mpr ⟨Or.inl ⟨_, _, _, _, _, _, rfl⟩, List.forall_mem_cons.mpr ⟨Or.inl ⟨_, _, _, _, _, _, rfl⟩, List.forall_mem_cons.mpr ⟨Or.inl ⟨_, _, _, _, _, _, rfl⟩, List.forall_mem_cons.mpr ⟨Or.inl ⟨_, _, _, _, _, _, rfl⟩, List.forall_mem_cons.mpr ⟨Or.inl ⟨_, _, _, _, _, _, rfl⟩, List.forall_mem_cons.mpr ⟨Or.inr (Or.inl ⟨_, _, _, _, rfl⟩), List.forall_mem_cons.mpr ⟨Or.inr (Or.inl ⟨_, _, _, _, rfl⟩), List.forall_mem_cons.mpr ⟨Or.inr (Or.inl ⟨_, _, _, _, rfl⟩), List.forall_mem_cons.mpr ⟨Or.inr (Or.inl ⟨_, _, _, _, rfl⟩), List.forall_mem_cons.mpr ⟨Or.inr (Or.inr (Or.inl ⟨_, _, rfl⟩)), List.forall_mem_cons.mpr ⟨Or.inr (Or.inr (Or.inl ⟨_, _, rfl⟩)), List.forall_mem_cons.mpr ⟨Or.inr (Or.inr (Or.inr ⟨_, rfl⟩)), List.forall_mem_cons.mpr ⟨Or.inr (Or.inr (Or.inr ⟨_, rfl⟩)), List.forall_mem_cons.mpr ⟨Or.inr (Or.inr (Or.inr ⟨_, rfl⟩)), List.forall_mem_cons.mpr ⟨Or.inr (Or.inr (Or.inr ⟨_, rfl⟩)), List.forall_mem_cons.mpr ⟨Or.inr (Or.inr (Or.inr ⟨_, rfl⟩)), List.forall_mem_cons.mpr ⟨Or.inr (Or.inr (Or.inr ⟨_, rfl⟩)), List.forall_mem_cons.mpr ⟨Or.inr (Or.inr (Or.inl ⟨_, _, rfl⟩)), List.forall_mem_cons.mpr ⟨Or.inr (Or.inr (Or.inr ⟨_, rfl⟩)), List.forall_mem_cons.mpr ⟨Or.inr (Or.inr (Or.inr ⟨_, rfl⟩)), List.forall_mem_cons.mpr ⟨Or.inr (Or.inl ⟨_, _, _, _, rfl⟩), List.forall_mem_cons.mpr ⟨Or.inr (Or.inl ⟨_, _, _, _, rfl⟩), List.forall_mem_cons.mpr ⟨Or.inr (Or.inl ⟨_, _, _, _, rfl⟩), List.forall_mem_cons.mpr ⟨Or.inr (Or.inl ⟨_, _, _, _, rfl⟩), List.forall_mem_cons.mpr ⟨Or.inr (Or.inl ⟨_, _, _, _, rfl⟩), List.forall_mem_cons.mpr ⟨Or.inr (Or.inl ⟨_, _, _, _, rfl⟩), List.forall_mem_cons.mpr ⟨Or.inr (Or.inl ⟨_, _, _, _, rfl⟩), List.forall_mem_cons.mpr ⟨Or.inr (Or.inl ⟨_, _, _, _, rfl⟩), List.forall_mem_cons.mpr ⟨Or.inr (Or.inl ⟨_, _, _, _, rfl⟩), List.forall_mem_cons.mpr ⟨Or.inr (Or.inl ⟨_, _, _, _, rfl⟩), List.forall_mem_cons.mpr ⟨Or.inl ⟨_, _, _, _, _, _, rfl⟩, List.forall_mem_cons.mpr ⟨Or.inl ⟨_, _, _, _, _, _, rfl⟩, List.forall_mem_cons.mpr ⟨Or.inr (Or.inl ⟨_, _, _, _, rfl⟩), List.forall_mem_cons.mpr ⟨Or.inr (Or.inr (Or.inl ⟨_, _, rfl⟩)), List.forall_mem_cons.mpr ⟨Or.inr (Or.inl ⟨_, _, _, _, rfl⟩), List.forall_mem_cons.mpr ⟨Or.inr (Or.inl ⟨_, _, _, _, rfl⟩), List.forall_mem_cons.mpr ⟨Or.inr (Or.inl ⟨_, _, _, _, rfl⟩), List.forall_mem_cons.mpr ⟨Or.inr (Or.inl ⟨_, _, _, _, rfl⟩), List.forall_mem_cons.mpr ⟨Or.inr (Or.inl ⟨_, _, _, _, rfl⟩), List.forall_mem_cons.mpr ⟨Or.inr (Or.inr (Or.inl ⟨_, _, rfl⟩)), List.forall_mem_cons.mpr ⟨Or.inr (Or.inl ⟨_, _, _, _, rfl⟩), List.forall_mem_cons.mpr ⟨Or.inr (Or.inl ⟨_, _, _, _, rfl⟩), List.forall_mem_cons.mpr ⟨Or.inr (Or.inl ⟨_, _, _, _, rfl⟩), List.forall_mem_cons.mpr ⟨Or.inr (Or.inl ⟨_, _, _, _, rfl⟩), List.forall_mem_cons.mpr ⟨Or.inr (Or.inl ⟨_, _, _, _, rfl⟩), List.forall_mem_cons.mpr ⟨Or.inr (Or.inl ⟨_, _, _, _, rfl⟩), List.forall_mem_cons.mpr ⟨Or.inr (Or.inl ⟨_, _, _, _, rfl⟩), List.forall_mem_cons.mpr ⟨Or.inr (Or.inl ⟨_, _, _, _, rfl⟩), List.forall_mem_cons.mpr ⟨Or.inr (Or.inl ⟨_, _, _, _, rfl⟩), List.forall_mem_cons.mpr ⟨Or.inr (Or.inl ⟨_, _, _, _, rfl⟩), List.forall_mem_cons.mpr ⟨Or.inr (Or.inl ⟨_, _, _, _, rfl⟩), List.forall_mem_cons.mpr ⟨Or.inl ⟨_, _, _, _, _, _, rfl⟩, List.forall_mem_cons.mpr ⟨Or.inr (Or.inr (Or.inr ⟨_, rfl⟩)), List.forall_mem_cons.mpr ⟨Or.inr (Or.inr (Or.inl ⟨_, _, rfl⟩)), List.forall_mem_cons.mpr ⟨Or.inr (Or.inr (Or.inr ⟨_, rfl⟩)), List.forall_mem_cons.mpr ⟨Or.inr (Or.inr (Or.inl ⟨_, _, rfl⟩)), List.forall_mem_cons.mpr ⟨Or.inr (Or.inr (Or.inl ⟨_, _, rfl⟩)), List.forall_mem_cons.mpr ⟨Or.inr (Or.inr (Or.inl ⟨_, _, rfl⟩)), List.forall_mem_cons.mpr ⟨Or.inr (Or.inr (Or.inl ⟨_, _, rfl⟩)), List.forall_mem_cons.mpr ⟨Or.inr (Or.inr (Or.inl ⟨_, _, rfl⟩)), List.forall_mem_cons.mpr ⟨Or.inr (Or.inr (Or.inl ⟨_, _, rfl⟩)), List.forall_mem_cons.mpr ⟨Or.inr (Or.inr (Or.inl ⟨_, _, rfl⟩)), List.forall_mem_cons.mpr ⟨Or.inr (Or.inr (Or.inl ⟨_, _, rfl⟩)), List.forall_mem_cons.mpr ⟨Or.inr (Or.inr (Or.inl ⟨_, _, rfl⟩)), List.forall_mem_cons.mpr ⟨Or.inr (Or.inr (Or.inl ⟨_, _, rfl⟩)), List.forall_mem_cons.mpr ⟨Or.inr (Or.inr (Or.inl ⟨_, _, rfl⟩)), List.forall_mem_cons.mpr ⟨Or.inr (Or.inr (Or.inl ⟨_, _, rfl⟩)), List.forall_mem_cons.mpr ⟨Or.inr (Or.inr (Or.inl ⟨_, _, rfl⟩)), List.forall_mem_cons.mpr ⟨Or.inr (Or.inr (Or.inl ⟨_, _, rfl⟩)), List.forall_mem_cons.mpr ⟨Or.inr (Or.inr (Or.inl ⟨_, _, rfl⟩)), List.forall_mem_cons.mpr ⟨Or.inr (Or.inr (Or.inl ⟨_, _, rfl⟩)), List.forall_mem_cons.mpr ⟨Or.inr (Or.inr (Or.inl ⟨_, _, rfl⟩)), List.forall_mem_cons.mpr ⟨Or.inr (Or.inr (Or.inl ⟨_, _, rfl⟩)), List.forall_mem_cons.mpr ⟨Or.inr (Or.inr (Or.inl ⟨_, _, rfl⟩)), List.forall_mem_cons.mpr ⟨Or.inr (Or.inr (Or.inl ⟨_, _, rfl⟩)), List.forall_mem_cons.mpr ⟨Or.inr (Or.inr (Or.inl ⟨_, _, rfl⟩)), List.forall_mem_cons.mpr ⟨Or.inr (Or.inr (Or.inr ⟨_, rfl⟩)), List.forall_mem_cons.mpr ⟨Or.inr (Or.inr (Or.inl ⟨_, _, rfl⟩)), List.forall_mem_cons.mpr ⟨Or.inr (Or.inr (Or.inl ⟨_, _, rfl⟩)), List.forall_mem_cons.mpr ⟨Or.inr (Or.inr (Or.inl ⟨_, _, rfl⟩)), fun _ h => absurd h List.not_mem_nil⟩⟩⟩⟩⟩⟩⟩⟩⟩⟩⟩⟩⟩⟩⟩⟩⟩⟩⟩⟩⟩⟩⟩⟩⟩⟩⟩⟩⟩⟩⟩⟩⟩⟩⟩⟩⟩⟩⟩⟩⟩⟩⟩⟩⟩⟩⟩⟩⟩⟩⟩⟩⟩⟩⟩⟩⟩⟩⟩⟩⟩⟩⟩⟩⟩⟩⟩⟩⟩⟩⟩⟩⟩⟩⟩⟩⟩⟩⟩⟩⟩⟩⟩⟩⟩⟩⟩⟩⟩⟩⟩⟩⟩⟩⟩⟩⟩⟩⟩⟩⟩⟩
theorem lwNest_warm {s U : State} (hW : s.WarmedH U.vm) (hN : ∀ w ∈ lwNest, va_Nw w s) : ∀ w ∈ lwNest, va_Nw w U := by
  intro w h
  have h0 := hN w h
  rcases lwNest_kind w h with ⟨a, i, b, n, d, k, rfl⟩ | ⟨a, i, x, k, rfl⟩ | ⟨C, T, rfl⟩ | ⟨x, rfl⟩
  · exact va_Nw.warmF hW h0
  · exact va_Nw.warmM hW h0
  · exact va_Nw.warmC hW h0
  · exact va_Nw.warmD hW h0
def lwStr : List (String × Nat × String) := [("Rowscan", 72, "rows and columns are 2 to 5"), ("Rowscan", 85, "no such key"), ("Rowscan", 88, "bounce is 0 to 5, stuck 0 to 2"), ("Rowscan", 120, "no such line"), ("Rowscan", 129, "patience is 1 to 6"), ("Rowscan", 131, "a layer is 0 to 2, a code 0 to 31"), ("Rowscan", 139, "a chord is two or three keys and a letter"), ("Rowscan", 146, "there are 6 chords"), ("Rowscan", 157, "the key is not fitted"), ("Rowscan", 162, "1 to 50 scans go by at once"), ("Rowscan", 164, "scans are 2000 at most"), ("Rowscan", 207, "what is 0 to 10"), ("Rowscan", 237, "what is 0 to 5"), ("Rowscan", 242, "what is 0 to 14"), ("Rowscan", 277, "no such row"), ("Rowscan", 288, "no set of keys"), ("Rowscan", 293, "many is 1 to 4")]
/-- the array classes that a world of ours names -/
abbrev lwTY (D : va_G) : List (ClassId × FieldType) := [(D.1 100, .byte), (D.1 101, .int)]
/-- what the JDK's statics hold, at places that A does not name -/
def lwZ (A : Nat → Prop) (U : State) (H : Heap) : Prop := va_Z "java/lang/String" "COMPACT_STRINGS" "Z" (.int 1) A U H ∧ va_Zq "jdk/internal/util/Preconditions" "SIOOBE_FORMATTER" "Ljava/util/function/BiFunction;" A U H ∧ vx_Zq Bundle.tN "UNASSIGNED_STACK" Bundle.steD A U H ∧ vx_Zq Bundle.tN "SUPPRESSED_SENTINEL" Bundle.listD A U H
theorem lwZ.moved {A : Nat → Prop} {u U : State} {H : Heap} (hvm : u.vm.Alike U.vm) (h : lwZ A u H) : lwZ A U H := ⟨va_Z.moved hvm h.1, va_Zq.moved hvm h.2.1, vx_Zq.moved hvm h.2.2.1, vx_Zq.moved hvm h.2.2.2⟩
theorem lwZ.kept {A : Nat → Prop} {U : State} {H H1 : Heap} (h : lwZ A U H) (hq : ∀ a : Nat, a < H.size → ¬ A a → H1[a]? = H[a]?) : lwZ A U H1 := ⟨va_Z.kept h.1 hq, va_Zq.kept h.2.1 hq, vx_Zq.kept h.2.2.1 hq, vx_Zq.kept h.2.2.2 hq⟩
theorem lwZ.narrow {A B : Nat → Prop} {U : State} {H : Heap} (h : lwZ A U H) (hAB : ∀ q, B q → A q) : lwZ B U H := ⟨va_Z.narrow h.1 hAB, va_Zq.narrow h.2.1 hAB, vx_Zq.narrow h.2.2.1 hAB, vx_Zq.narrow h.2.2.2 hAB⟩
theorem lwZ_for {A B : Nat → Prop} {s : State} {H : Heap} {locs : List Loc} (h : lwZ A s s.heap) (hS : va_S A s.heap H locs) (hAB : ∀ q, B q → A q) : lwZ B s H := (h.kept hS.2.1).narrow hAB
theorem va_S_up {A B : Nat → Prop} {H0 H : Heap} {locs : List Loc} (h : va_S A H0 H locs) (hAB : ∀ q, A q → B q) : va_S B H0 H locs := ⟨h.1, fun q h1 h2 => h.2.1 q h1 (fun h3 => h2 (hAB q h3)), fun l hl => hAB _ (h.2.2 l hl)⟩
/-- the texts of the class's own throws are there -/
def lwTx (U : State) : Prop := ∀ q ∈ lwStr, ∃ sa, vk_R q.1 q.2.1 q.2.2 sa U
theorem lwTx_same {u U : State} (hv : U.vm = u.vm) (h : lwTx u) : lwTx U := fun q hq => by
  obtain ⟨sa, h1⟩ := h q hq
  exact ⟨sa, vk_R.same hv h1⟩
theorem lwTx_warm {s U : State} (hW : s.WarmedH U.vm) (h : lwTx s) : lwTx U := fun q hq => by
  obtain ⟨sa, h1⟩ := h q hq
  exact ⟨sa, vk_R.warm hW h1⟩
/-- a state in which a method of ours may begin: the heap holds the world, the classes are known, the nest's links and the statics stand -/
def cPre (D : va_G) (ty : List (ClassId × FieldType)) (ws : va_W) (sz : Nat) : State → Prop := fun U => U.heap.size = sz ∧ va_P D vwCl ws U.heap ∧ va_K D vwCl ty U ∧ va_D (fun _ : Nat => True) ws ∧ ((∀ w ∈ lwNest, va_Nw w U) ∧ lwTx U) ∧ lwZ (va_A ws sz) U U.heap
theorem lwNest_on : ∀ w ∈ lwNest, w.onTables = true := by decide +kernel
theorem cPre_blind {D : va_G} {ty : List (ClassId × FieldType)} {ws : va_W} {sz : Nat} {av : List Value} : FrameBlind (va_Pc av (cPre D ty ws sz)) := fun a U g mk q => by
  obtain ⟨q0, q1, q2, q3, q4, q5, q6⟩ := q
  exact ⟨q0, q1, q2, va_K.moved (u := U) (U := U.calling g mk a) (Vm.Alike.refl U.vm) q3, q4, ⟨fun w h => va_Nw.same (lwNest_on w h) (show U.vm = (U.calling g mk a).vm from rfl) (q5.1 w h), lwTx_same (show (U.calling g mk a).vm = U.vm from rfl) q5.2⟩, lwZ.moved (u := U) (U := U.calling g mk a) (Vm.Alike.refl U.vm) q6⟩
theorem cPre_mk {D : va_G} {ty : List (ClassId × FieldType)} {wc : va_W} {s : State} {H : Heap} {A : Nat → Prop} {av : List Value} (hP : va_P D vwCl wc H) (hK : va_K D vwCl ty s) (hD : va_D A wc) (hN : (∀ w ∈ lwNest, va_Nw w s) ∧ lwTx s) (hZ : lwZ (va_A wc H.size) s H) : ∀ U : State, U.heap = H → s.WarmedH U.vm → va_Pc av (cPre D ty wc H.size) av.toArray U :=
  fun U hU hW => ⟨rfl, by rw [hU], by rw [hU]; exact hP, va_K.moved hW.alike hK, hD.weaken (fun _ _ _ _ => trivial), ⟨lwNest_warm hW hN.1, lwTx_warm hW hN.2⟩, by rw [hU]; exact lwZ.moved hW.alike hZ⟩
theorem va_P_ro {D : va_G} {cl : List vw_C} {ws : va_W} {H H1 : Heap} (hP : va_P D cl ws H) (hk : ∀ q : Nat, q < H.size → ¬ H.size ≤ q → H1[q]? = H[q]?) : va_P D cl ws H1 := by
  have h0 : va_D (fun _ : Nat => True) ([] : va_W) := ⟨fun i j p q h => by simp at h, fun k q h => by simp at h⟩
  have hk2 : ∀ q : Nat, q < H.size → ¬ va_A [] H.size q → H1[q]? = H[q]? := fun q h1 h2 => hk q h1 (fun h3 => h2 (Or.inr h3))
  intro k q hq
  have h1 := hP k q hq
  have h2 : va_P D cl [q] H := fun j r hr => by
    cases j with
    | zero => simp at hr; rw [← hr]; exact h1
    | succ j => simp at hr
  have h3 : va_D (fun _ : Nat => True) [q] := ⟨fun i j p r hi hj _ => by
    have a1 : i < 1 := by
      have := (List.getElem?_eq_some_iff.mp hi).1; simpa using this
    have a2 : j < 1 := by
      have := (List.getElem?_eq_some_iff.mp hj).1; simpa using this
    omega, fun _ _ _ => trivial⟩
  have h4 := (va_join (wc := []) (wr := [q]) (w1 := []) h2 h3 [] [0] rfl rfl (by decide) (by decide) hk2 (fun _ _ => trivial) (fun k q h => by simp at h) ⟨fun i j p q h => by simp at h, fun k q h => by simp at h⟩).1
  exact h4 0 q rfl
theorem gi_sub {b : Cond} (h : b ∈ lwAll) : GoodIn lwAll (b :: lwAll) := by
  intro w hw
  have hm : w ∈ lwAll := by
    rcases List.mem_cons.mp hw with rfl | h2
    · exact h
    · exact h2
  exact ⟨hm, good_of_word (List.mem_filter.mp hm).2⟩
theorem gi_cons {a : Cond} {ws : List Cond} (ha : a ∈ lwAll) (h : GoodIn lwAll ws) : GoodIn lwAll (a :: ws) := by
  intro w hw
  rcases List.mem_cons.mp hw with rfl | h2
  · exact ⟨ha, good_of_word (List.mem_filter.mp ha).2⟩
  · exact h w h2
theorem gi_V {own : String} {idx : Nat} {C : String} {y : MethodName} {b : Cond} (h1 : Cond.methodLink own idx y ∈ lwAll) (h2 : Cond.instanceMethod y ∈ lwAll) (h3 : Cond.selects C y y ∈ lwAll) (h4 : Cond.initialized C ∈ lwAll) (h5 : b ∈ lwAll) : GoodIn lwAll (wsV own idx C y (b :: lwAll)) :=
  gi_cons h1 (gi_cons h2 (gi_cons h3 (gi_cons h4 (gi_sub h5))))
theorem gi_S {own : String} {idx : Nat} {y : MethodName} {b : Cond} (h1 : Cond.methodLink own idx y ∈ lwAll) (h2 : Cond.static y ∈ lwAll) (h4 : Cond.initialized own ∈ lwAll) (h5 : b ∈ lwAll) : GoodIn lwAll (wsS own idx y (b :: lwAll)) :=
  gi_cons h1 (gi_cons h2 (gi_cons h4 (gi_sub h5)))
theorem zb_0 : (0 : Int32) = 0 ∨ (0 : Int32) = 1 := Or.inl rfl
theorem zb_1 : (1 : Int32) = 0 ∨ (1 : Int32) = 1 := Or.inr rfl
theorem zb_narrow {v : Int32} (h : v = 0 ∨ v = 1) : narrow .boolean (.int v) = .int v := by
  rcases h with rfl | rfl <;> rfl
theorem zb_fits {v : Int32} (h : v = 0 ∨ v = 1) : fits .boolean (.int v) = true := by
  rcases h with rfl | rfl <;> rfl
/-- a loop that only counts: what it makes of a -/
def itr {α : Type} (f : Nat → α → α) : Nat → Nat → α → α
  | 0, _, a => a
  | n + 1, i, a => itr f n (i + 1) (f i a)
theorem gi_SU {own : String} {idx : Nat} {y : MethodName} {b : Cond} (h1 : Cond.methodLink own idx y ∈ lwAll) (h2 : Cond.sameMethod y.cls y.cls y.name y.desc ∈ lwAll) (h3 : Cond.superclass own y.cls ∈ lwAll) (h4 : Cond.instanceMethod y ∈ lwAll) (h5 : Cond.initialized y.cls ∈ lwAll) (h6 : b ∈ lwAll) : GoodIn lwAll (va_wsSU own idx y (b :: lwAll)) :=
  gi_cons h1 (gi_cons h2 (gi_cons h3 (gi_cons h4 (gi_cons h5 (gi_sub h6)))))
theorem gi_U {own : String} {idx : Nat} {C owner : String} {x y : MethodName} {b : Cond} (h1 : Cond.methodLink own idx x ∈ lwAll) (h2 : Cond.sameMethod x.cls owner x.name x.desc ∈ lwAll) (h3 : Cond.selects C x y ∈ lwAll) (h4 : Cond.instanceMethod y ∈ lwAll) (h5 : Cond.initialized y.cls ∈ lwAll) (h6 : b ∈ lwAll) : GoodIn lwAll (va_wsU own idx C owner x y (b :: lwAll)) :=
  gi_cons h1 (gi_cons h2 (gi_cons h3 (gi_cons h4 (gi_cons h5 (gi_sub h6)))))
section ZNEW
variable {p : Program} {l : Launch} {e : Env} {R : Room} {s : State} {m : MethodId} {args : Array Value} {below : List Frame} {meth : Method} {c : Code} {H H0 : Heap} {locs : List Loc} {cells slots : Nat} {Q : State → Prop} {D : va_G} {cl : List vw_C} {ws : va_W} {A A1 : Nat → Prop} {cc : ByteArray} {pc : Nat} {ls : Array Slot} {rest : List Value}
theorem va_newI (hexec : p.tables.exec = Jvm.exec) (hb : c.code = cc) (harr : (Cond.arrayClass .int).before args s = true) (hK : va_K D cl (lwTY D) s) (hP : va_P D cl ws H) (hD : va_D A ws) (hS : va_S A1 H0 H locs) (hA : ∀ q, H0.size ≤ q → A q)
    {n : Int32} {N' : Nat} (hn : ¬ n < 0) (hN : n.toNatClampNeg = N') (hbytes : N' * 4 ≤ 536870912) (hcells : cells + 1 ≤ R.cells) (hslots : slots + N' ≤ R.slots) (hdg : decode cc pc = .ok (.newarray .int, 2))
    (kk : ∀ (q : Nat) (H1 : Heap), H.size = q → va_P D cl (ws ++ [(q, .inl (D.1 101, N', .inl (fun _ => 0)))]) H1 → va_D A (ws ++ [(q, .inl (D.1 101, N', .inl (fun _ => 0)))]) → va_S A1 H0 H1 locs →
      W p l e R s m args below meth c H1 locs (cells + 1) (slots + N') Q (F0 m (pc + 2) ls (.ref q :: rest))) : W p l e R s m args below meth c H locs cells slots Q (F0 m pc ls (.int n :: rest)) := by
  refine va_newaK (atype := .int) hexec hb harr rfl hdg rfl hn hN hbytes hcells hslots rfl fun H1 cA e1 z1 o1 hAr hNm => ?_
  have hc : cA = D.1 101 := Option.some.inj (hNm.symm.trans (hK.2 1 _ rfl).2)
  subst hc
  have hk : ∀ (k : Nat) (x : Nat × va_E), ws[k]? = some x → H1[x.1]? = H[x.1]? := fun k x hx => o1 x.1 ((hP k x hx).lt)
  refine kk H.size H1 rfl ((hP.kept hk).app (fun k x hx => ?_)) (hD.push hP rfl (hA _ hS.1)) ⟨Nat.le_trans hS.1 (by omega), fun x h1 h2 => (o1 x (Nat.lt_of_lt_of_le h1 hS.1)).trans (hS.2.1 x h1 h2), hS.2.2⟩
  have hz : k < 1 := (List.getElem?_eq_some_iff.mp hx).1
  rw [show k = 0 by omega] at hx
  cases hx
  show H1[H.size]? = some (vp_cell _ _)
  exact e1
theorem va_newB (hexec : p.tables.exec = Jvm.exec) (hb : c.code = cc) (harr : (Cond.arrayClass .byte).before args s = true) (hK : va_K D cl (lwTY D) s) (hP : va_P D cl ws H) (hD : va_D A ws) (hS : va_S A1 H0 H locs) (hA : ∀ q, H0.size ≤ q → A q)
    {n : Int32} {N' : Nat} (hn : ¬ n < 0) (hN : n.toNatClampNeg = N') (hbytes : N' * 1 ≤ 536870912) (hcells : cells + 1 ≤ R.cells) (hslots : slots + N' ≤ R.slots) (hdg : decode cc pc = .ok (.newarray .byte, 2))
    (kk : ∀ (q : Nat) (H1 : Heap), H.size = q → va_P D cl (ws ++ [(q, .inl (D.1 100, N', .inl (fun _ => 0)))]) H1 → va_D A (ws ++ [(q, .inl (D.1 100, N', .inl (fun _ => 0)))]) → va_S A1 H0 H1 locs →
      W p l e R s m args below meth c H1 locs (cells + 1) (slots + N') Q (F0 m (pc + 2) ls (.ref q :: rest))) : W p l e R s m args below meth c H locs cells slots Q (F0 m pc ls (.int n :: rest)) := by
  refine va_newaK (atype := .byte) hexec hb harr rfl hdg rfl hn hN hbytes hcells hslots rfl fun H1 cA e1 z1 o1 hAr hNm => ?_
  have hc : cA = D.1 100 := Option.some.inj (hNm.symm.trans (hK.2 0 _ rfl).2)
  subst hc
  have hk : ∀ (k : Nat) (x : Nat × va_E), ws[k]? = some x → H1[x.1]? = H[x.1]? := fun k x hx => o1 x.1 ((hP k x hx).lt)
  refine kk H.size H1 rfl ((hP.kept hk).app (fun k x hx => ?_)) (hD.push hP rfl (hA _ hS.1)) ⟨Nat.le_trans hS.1 (by omega), fun x h1 h2 => (o1 x (Nat.lt_of_lt_of_le h1 hS.1)).trans (hS.2.1 x h1 h2), hS.2.2⟩
  have hz : k < 1 := (List.getElem?_eq_some_iff.mp hx).1
  rw [show k = 0 by omega] at hx
  cases hx
  show H1[H.size]? = some (vp_cell _ _)
  exact e1
end ZNEW
theorem in_X0 : ∀ w ∈ u_ws RX0 TX0 6, w ∈ lwAll := by
  intro w hw
  obtain ⟨k, hk, rfl⟩ := List.mem_map.mp hw
  have hk := List.mem_range.mp hk
  match k, hk with
  | 0, _ => exact wk_in wk_h4 (List.mem_of_getElem? (i := 8) rfl)
  | 1, _ => exact wk_in wk_h4 (List.mem_of_getElem? (i := 10) rfl)
  | 2, _ => exact wk_in wk_h4 (List.mem_of_getElem? (i := 12) rfl)
  | 3, _ => exact wk_in wk_h4 (List.mem_of_getElem? (i := 14) rfl)
  | 4, _ => exact wk_in wk_h4 (List.mem_of_getElem? (i := 16) rfl)
  | 5, _ => exact wk_in wk_h4 (List.mem_of_getElem? (i := 18) rfl)
  | k + 6, h => exact absurd h (by omega)
theorem in_X1 : ∀ w ∈ u_ws RX1 TX1 10, w ∈ lwAll := by
  intro w hw
  obtain ⟨k, hk, rfl⟩ := List.mem_map.mp hw
  have hk := List.mem_range.mp hk
  match k, hk with
  | 0, _ => exact wk_in wk_h6 (List.mem_of_getElem? (i := 24) rfl)
  | 1, _ => exact wk_in wk_h6 (List.mem_of_getElem? (i := 26) rfl)
  | 2, _ => exact wk_in wk_h6 (List.mem_of_getElem? (i := 28) rfl)
  | 3, _ => exact wk_in wk_h6 (List.mem_of_getElem? (i := 30) rfl)
  | 4, _ => exact wk_in wk_h6 (List.mem_of_getElem? (i := 32) rfl)
  | 5, _ => exact wk_in wk_h7 (List.mem_of_getElem? (i := 0) rfl)
  | 6, _ => exact wk_in wk_h7 (List.mem_of_getElem? (i := 2) rfl)
  | 7, _ => exact wk_in wk_h7 (List.mem_of_getElem? (i := 4) rfl)
  | 8, _ => exact wk_in wk_h7 (List.mem_of_getElem? (i := 6) rfl)
  | 9, _ => exact wk_in wk_h7 (List.mem_of_getElem? (i := 8) rfl)
  | k + 10, h => exact absurd h (by omega)
theorem in_X2 : ∀ w ∈ u_ws RX2 TX2 5, w ∈ lwAll := by
  intro w hw
  obtain ⟨k, hk, rfl⟩ := List.mem_map.mp hw
  have hk := List.mem_range.mp hk
  match k, hk with
  | 0, _ => exact wk_in wk_h5 (List.mem_of_getElem? (i := 2) rfl)
  | 1, _ => exact wk_in wk_h5 (List.mem_of_getElem? (i := 4) rfl)
  | 2, _ => exact wk_in wk_h5 (List.mem_of_getElem? (i := 6) rfl)
  | 3, _ => exact wk_in wk_h5 (List.mem_of_getElem? (i := 8) rfl)
  | 4, _ => exact wk_in wk_h5 (List.mem_of_getElem? (i := 10) rfl)
  | k + 5, h => exact absurd h (by omega)
theorem in_X3 : ∀ w ∈ u_ws RX3 TX3 7, w ∈ lwAll := by
  intro w hw
  obtain ⟨k, hk, rfl⟩ := List.mem_map.mp hw
  have hk := List.mem_range.mp hk
  match k, hk with
  | 0, _ => exact wk_in wk_h3 (List.mem_of_getElem? (i := 14) rfl)
  | 1, _ => exact wk_in wk_h3 (List.mem_of_getElem? (i := 16) rfl)
  | 2, _ => exact wk_in wk_h3 (List.mem_of_getElem? (i := 18) rfl)
  | 3, _ => exact wk_in wk_h3 (List.mem_of_getElem? (i := 20) rfl)
  | 4, _ => exact wk_in wk_h3 (List.mem_of_getElem? (i := 22) rfl)
  | 5, _ => exact wk_in wk_h3 (List.mem_of_getElem? (i := 24) rfl)
  | 6, _ => exact wk_in wk_h3 (List.mem_of_getElem? (i := 26) rfl)
  | k + 7, h => exact absurd h (by omega)
theorem in_X4 : ∀ w ∈ u_ws RX4 TX4 10, w ∈ lwAll := by
  intro w hw
  obtain ⟨k, hk, rfl⟩ := List.mem_map.mp hw
  have hk := List.mem_range.mp hk
  match k, hk with
  | 0, _ => exact wk_in wk_h16 (List.mem_of_getElem? (i := 24) rfl)
  | 1, _ => exact wk_in wk_h16 (List.mem_of_getElem? (i := 26) rfl)
  | 2, _ => exact wk_in wk_h16 (List.mem_of_getElem? (i := 28) rfl)
  | 3, _ => exact wk_in wk_h16 (List.mem_of_getElem? (i := 30) rfl)
  | 4, _ => exact wk_in wk_h16 (List.mem_of_getElem? (i := 32) rfl)
  | 5, _ => exact wk_in wk_h16 (List.mem_of_getElem? (i := 34) rfl)
  | 6, _ => exact wk_in wk_h16 (List.mem_of_getElem? (i := 36) rfl)
  | 7, _ => exact wk_in wk_h16 (List.mem_of_getElem? (i := 38) rfl)
  | 8, _ => exact wk_in wk_h17 (List.mem_of_getElem? (i := 1) rfl)
  | 9, _ => exact wk_in wk_h17 (List.mem_of_getElem? (i := 3) rfl)
  | k + 10, h => exact absurd h (by omega)
theorem in_J4 : ∀ w ∈ u_ws RJ4 TJ4 4, w ∈ lwAll := by
  intro w hw
  obtain ⟨k, hk, rfl⟩ := List.mem_map.mp hw
  have hk := List.mem_range.mp hk
  match k, hk with
  | 0, _ => exact wk_in wk_h6 (List.mem_of_getElem? (i := 4) rfl)
  | 1, _ => exact wk_in wk_h6 (List.mem_of_getElem? (i := 6) rfl)
  | 2, _ => exact wk_in wk_h6 (List.mem_of_getElem? (i := 8) rfl)
  | 3, _ => exact wk_in wk_h6 (List.mem_of_getElem? (i := 10) rfl)
  | k + 4, h => exact absurd h (by omega)
theorem in_J0 : ∀ w ∈ u_ws RJ0 TJ0 4, w ∈ lwAll := by
  intro w hw
  obtain ⟨k, hk, rfl⟩ := List.mem_map.mp hw
  have hk := List.mem_range.mp hk
  match k, hk with
  | 0, _ => exact wk_in wk_h14 (List.mem_of_getElem? (i := 36) rfl)
  | 1, _ => exact wk_in wk_h14 (List.mem_of_getElem? (i := 38) rfl)
  | 2, _ => exact wk_in wk_h15 (List.mem_of_getElem? (i := 0) rfl)
  | 3, _ => exact wk_in wk_h15 (List.mem_of_getElem? (i := 2) rfl)
  | k + 4, h => exact absurd h (by omega)
