theorem gi_O {own : String} {idx : Nat} {C owner : String} {x y : MethodName} {b : Cond} (h1 : Cond.methodLink own idx x ∈ lwAll) (h2 : Cond.sameMethod x.cls owner x.name x.desc ∈ lwAll) (h0 : Cond.instanceMethod ⟨owner, x.name, x.desc⟩ ∈ lwAll) (h3 : Cond.selects C x y ∈ lwAll) (h4 : Cond.instanceMethod y ∈ lwAll) (h5 : Cond.initialized y.cls ∈ lwAll) (h6 : b ∈ lwAll) : GoodIn lwAll (va_wsO own idx C owner x y (b :: lwAll)) :=
  gi_cons h1 (gi_cons h2 (gi_cons h0 (gi_cons h3 (gi_cons h4 (gi_cons h5 (gi_sub h6))))))
theorem sub_0 (n : Nat) : nI n - 0 = nI n := by rw [Int32.sub_zero]
theorem clone_fit {cA : ClassId} {n : Nat} {f : Nat → Int32} (h : ∀ j, fits .byte (.int (f j)) = true) : ∀ (i : Nat) (v : Value), (vp_cell cA (n, .inl f)).slots[i]? = some v → fits .byte v = true := by
  intro i v hv
  have e : (vp_cell cA (n, .inl f)).slots = Array.ofFn (n := n) fun j => Value.int (f j.val) := rfl
  rw [e, Array.getElem?_ofFn] at hv
  split at hv
  · cases hv; exact h _
  · cases hv
/-- the signs that a string made of the builder holds -/
def strF (n cap : Nat) (fY : Nat → Int32) : Nat → Int32 := if n < cap then va_cpy fY (fun _ => 0) 0 0 n else fY

set_option maxHeartbeats 4000000 in
set_option maxRecDepth 100000 in
theorem c_J5_getValue_6d5f1 (l : Launch) (D : va_G) (hB : Nat) (aY : Nat) (ml : Int32) (n : Nat) (cap : Nat) (fY : Nat → Int32) (sz : Nat)  : Met l yJ5_getValue_6d5f1 (Cond.code yJ5_getValue_6d5f1 cJ5_getValue_6d5f1 1 (some (.array .byte)) :: lwAll) ({ frames := 0, cells := 0, slots := 0, locals := 0 } : Room) (va_Pc [.ref hB] (cPre D (lwTY D) [(hB, .inr (1, [.ref aY, .int 0, .int ml, .int (nI n)])), (aY, .inl ((D.1 100), cap, .inl fY))] sz)) (va_Qr (fun (_ : Unit) => True) (fun (_ : Unit) (ra : Nat) t => ra = aY ∧ va_P D vwCl [(hB, .inr (1, [.ref aY, .int 0, .int ml, .int (nI n)])), (aY, .inl ((D.1 100), cap, .inl fY))] t.heap ∧ va_D (va_A [(hB, .inr (1, [.ref aY, .int 0, .int ml, .int (nI n)])), (aY, .inl ((D.1 100), cap, .inl fY))] sz) [(hB, .inr (1, [.ref aY, .int 0, .int ml, .int (nI n)])), (aY, .inl ((D.1 100), cap, .inl fY))]) (va_A [(hB, .inr (1, [.ref aY, .int 0, .int ml, .int (nI n)])), (aY, .inl ((D.1 100), cap, .inl fY))] sz)) 0 0 (va_A [(hB, .inr (1, [.ref aY, .int 0, .int ml, .int (nI n)])), (aY, .inl ((D.1 100), cap, .inl fY))] sz) := by
  refine Met.ofW (cc := cJ5_getValue_6d5f1) (maxL := 1) (ret := (some (.array .byte))) (by decide) rfl ?_
  intro p e s m args below meth c s₁ B hml hv
  obtain ⟨rfl, hsz, hP, hK, hD0, hN, hZ⟩ := hv
  have hx := B.exec
  have hb := B.bytes
  have hr := B.returns
  have hts : ∀ wd ∈ lwAll, wd.before ([.ref hB] : List Value).toArray s = true := fun wd h => atoms_spec (ws := (Cond.code yJ5_getValue_6d5f1 cJ5_getValue_6d5f1 1 (some (.array .byte)) :: lwAll)) B.pre wd (List.mem_cons_of_mem _ h)
  have hown : s.vm.findClass RJ5 = some m.cls := findClass_of_methodNamed B.named
  have hlocks := B.notSynchronized
  subst hsz
  have hD := hD0.self (sz := s.heap.size)
  have hl := lv_entry ([.ref hB]) (n := 1) (Nat.le_of_ble_eq_true rfl)
  rw [lg_entry_eq]
  generalize (lg_sl ([.ref hB]) ++ List.replicate (1 - (lg_sl ([.ref hB])).length) Slot.unset).toArray = ls at hl ⊢
  have hl : lv_has ls 1 [(0, .ref hB)] := hl
  have hS : va_S (va_A [(hB, .inr (1, [.ref aY, .int 0, .int ml, .int (nI n)])), (aY, .inl ((D.1 100), cap, .inl fY))] s.heap.size) s.heap s.heap [] := va_S.rf
  generalize hQe : MQ below (va_Qr (fun (_ : Unit) => True) (fun (_ : Unit) (ra : Nat) t => ra = aY ∧ va_P D vwCl [(hB, .inr (1, [.ref aY, .int 0, .int ml, .int (nI n)])), (aY, .inl ((D.1 100), cap, .inl fY))] t.heap ∧ va_D (va_A [(hB, .inr (1, [.ref aY, .int 0, .int ml, .int (nI n)])), (aY, .inl ((D.1 100), cap, .inl fY))] s.heap.size) [(hB, .inr (1, [.ref aY, .int 0, .int ml, .int (nI n)])), (aY, .inl ((D.1 100), cap, .inl fY))]) (va_A [(hB, .inr (1, [.ref aY, .int 0, .int ml, .int (nI n)])), (aY, .inl ((D.1 100), cap, .inl fY))] s.heap.size)) ([.ref hB] : List Value).toArray s 0 0 (va_A [(hB, .inr (1, [.ref aY, .int 0, .int ml, .int (nI n)])), (aY, .inl ((D.1 100), cap, .inl fY))] s.heap.size) = Q
  have hP : va_P D vwCl [(hB, .inr (1, [.ref aY, .int 0, .int ml, .int (nI n)])), (aY, .inl ((D.1 100), cap, .inl fY))] s.heap := hP
  obtain ⟨A, hAe⟩ : ∃ A, A = va_A [(hB, .inr (1, [.ref aY, .int 0, .int ml, .int (nI n)])), (aY, .inl ((D.1 100), cap, .inl fY))] s.heap.size := ⟨_, rfl⟩
  rw [← hAe] at hD hZ hS
  have hA : ∀ q : Nat, s.heap.size ≤ q → A q := fun q h => by rw [hAe]; exact Or.inr h
  obtain ⟨H, hHe⟩ : ∃ H, H = s.heap := ⟨_, rfl⟩
  obtain ⟨locs, hLe⟩ : ∃ L : List Loc, L = [] := ⟨_, rfl⟩
  have hP : va_P D vwCl [(hB, .inr (1, [.ref aY, .int 0, .int ml, .int (nI n)])), (aY, .inl ((D.1 100), cap, .inl fY))] H := by rw [hHe]; exact hP
  have hS : va_S A s.heap H locs := by rw [hHe, hLe]; exact hS
  have hgoal : W p l e ({ frames := 0, cells := 0, slots := 0, locals := 0 } : Room) s m ([.ref hB] : List Value).toArray below meth c H locs 0 0 Q (F0 m 0 ls []) := by
    clear hHe hLe
    refine lv_aload_n hx hb dJ5_getValue_6d5f1_0 rfl (lv_at hl 0 rfl) ?_
    refine va_get (D := D) (ci := 1) (v := .ref aY) (C := RJ4) (T := TJ4) (N := 4) hx hb hts in_J4 hown hK hP 0 rfl rfl 0 (by decide) (hts _ q_239) (fun _ h9 => h9) rfl dJ5_getValue_6d5f1_1 ?_
    subst hQe
    subst hAe
    have hP9 := hP.sub (ws' := [(hB, .inr (1, [.ref aY, .int 0, .int ml, .int (nI n)])), (aY, .inl ((D.1 100), cap, .inl fY))]) [0, 1] rfl
    have hD9 := hD.sub (ws' := [(hB, .inr (1, [.ref aY, .int 0, .int ml, .int (nI n)])), (aY, .inl ((D.1 100), cap, .inl fY))]) [0, 1] (by decide) rfl
    exact W.aret (v := .ref aY) hx hb hr (by first | exact Or.inl ⟨_, rfl⟩ | exact Or.inr ⟨_, rfl⟩) (Or.inr ⟨_, rfl⟩) (fun t ht hW => ⟨⟨(), aY, rfl, trivial, rfl, (by rw [ht]; exact hP9), (hD9)⟩, hS.F ht⟩) hS.2.2 dJ5_getValue_6d5f1_4
  rw [hHe, hLe] at hgoal
  exact hgoal


set_option maxHeartbeats 4000000 in
set_option maxRecDepth 100000 in
theorem c_J7_checkLength_df160 (l : Launch) (D : va_G) (n : Nat) (x1 : Int32) (sz : Nat) (hn : n ≤ 1000) (hx1 : x1 = nI n) : Met l yJ7_checkLength_df160 (Cond.code yJ7_checkLength_df160 cJ7_checkLength_df160 2 none :: lwAll) ({ frames := 0, cells := 0, slots := 0, locals := 0 } : Room) (va_Pc [.int 0, .int x1] (cPre D (lwTY D) [] sz)) (va_Qv (fun (_ : Unit) => True) (fun _ _ => True) (fun q : Nat => sz ≤ q)) 0 0 (fun q : Nat => sz ≤ q) := by
  subst hx1
  refine Met.ofW (cc := cJ7_checkLength_df160) (maxL := 2) (ret := none) (by decide) rfl ?_
  intro p e s m args below meth c s₁ B hml hv
  obtain ⟨rfl, hsz, hP, hK, hD0, hN, hZ⟩ := hv
  have hx := B.exec
  have hb := B.bytes
  have hr := B.returns
  have hts : ∀ wd ∈ lwAll, wd.before ([.int 0, .int (nI n)] : List Value).toArray s = true := fun wd h => atoms_spec (ws := (Cond.code yJ7_checkLength_df160 cJ7_checkLength_df160 2 none :: lwAll)) B.pre wd (List.mem_cons_of_mem _ h)
  have hown : s.vm.findClass RJ7 = some m.cls := findClass_of_methodNamed B.named
  have hlocks := B.notSynchronized
  subst hsz
  have hD := hD0.self (sz := s.heap.size)
  have hl := lv_entry ([.int 0, .int (nI n)]) (n := 2) (Nat.le_of_ble_eq_true rfl)
  rw [lg_entry_eq]
  generalize (lg_sl ([.int 0, .int (nI n)]) ++ List.replicate (2 - (lg_sl ([.int 0, .int (nI n)])).length) Slot.unset).toArray = ls at hl ⊢
  have hl : lv_has ls 2 [(0, .int 0), (1, .int (nI n))] := hl
  have hS : va_S (fun q : Nat => s.heap.size ≤ q) s.heap s.heap [] := va_S.rf
  generalize hQe : MQ below (va_Qv (fun (_ : Unit) => True) (fun _ _ => True) (fun q : Nat => s.heap.size ≤ q)) ([.int 0, .int (nI n)] : List Value).toArray s 0 0 (fun q : Nat => s.heap.size ≤ q) = Q
  have hP : va_P D vwCl [] s.heap := hP
  obtain ⟨A, hAe⟩ : ∃ A, A = va_A [] s.heap.size := ⟨_, rfl⟩
  rw [← hAe] at hD hZ
  have hA : ∀ q : Nat, s.heap.size ≤ q → A q := fun q h => by rw [hAe]; exact Or.inr h
  obtain ⟨H, hHe⟩ : ∃ H, H = s.heap := ⟨_, rfl⟩
  obtain ⟨locs, hLe⟩ : ∃ L : List Loc, L = [] := ⟨_, rfl⟩
  have hP : va_P D vwCl [] H := by rw [hHe]; exact hP
  have hS : va_S (fun q : Nat => s.heap.size ≤ q) s.heap H locs := by rw [hHe, hLe]; exact hS
  have hgoal : W p l e ({ frames := 0, cells := 0, slots := 0, locals := 0 } : Room) s m ([.int 0, .int (nI n)] : List Value).toArray below meth c H locs 0 0 Q (F0 m 0 ls []) := by
    clear hHe hLe
    refine lv_iload_n hx hb dJ7_checkLength_df160_0 rfl (lv_at hl 1 rfl) ?_
    refine lv_iload_n hx hb dJ7_checkLength_df160_1 rfl (lv_at hl 0 rfl) ?_
    refine lv_icmp_ge (tgt := 37) hx hb dJ7_checkLength_df160_2 (by decide) (fun c_1 => ?_) (fun c_1 => ?_)
    · subst hQe
      exact W.vret hx hb hr (fun t ht hW => ⟨⟨(), rfl, trivial, trivial⟩, hS.F ht⟩) hS.2.2 dJ7_checkLength_df160_37
    · exact absurd (nI_pos' (by omega)) c_1
  rw [hHe, hLe] at hgoal
  exact hgoal


set_option maxHeartbeats 4000000 in
set_option maxRecDepth 100000 in
theorem c_J7_copyOfRangeByte_39247 (l : Launch) (D : va_G) (aY : Nat) (cap : Nat) (fY : Nat → Int32) (n : Nat) (x2 : Int32) (sz : Nat) (hn : n < cap) (hcap : cap ≤ 1000) (hfit : ∀ j, fits .byte (.int (fY j)) = true) (hx2 : x2 = nI n) : Met l yJ7_copyOfRangeByte_39247 (Cond.code yJ7_copyOfRangeByte_39247 cJ7_copyOfRangeByte_39247 5 (some (.array .byte)) :: lwAll) ({ frames := 1, cells := 1, slots := n, locals := 60 } : Room) (va_Pc [.ref aY, .int 0, .int x2] (cPre D (lwTY D) [(aY, .inl ((D.1 100), cap, .inl fY))] sz)) (va_Qr (fun (_ : Unit) => True) (fun (_ : Unit) (ra : Nat) t => va_P D vwCl [(aY, .inl ((D.1 100), cap, .inl fY)), (ra, .inl ((D.1 100), n, .inl (va_cpy fY (fun _ => 0) 0 0 n)))] t.heap ∧ va_D (va_A [(aY, .inl ((D.1 100), cap, .inl fY))] sz) [(aY, .inl ((D.1 100), cap, .inl fY)), (ra, .inl ((D.1 100), n, .inl (va_cpy fY (fun _ => 0) 0 0 n)))]) (va_A [(aY, .inl ((D.1 100), cap, .inl fY))] sz)) 1 n (va_A [(aY, .inl ((D.1 100), cap, .inl fY))] sz) := by
  subst hx2
  refine Met.ofW (cc := cJ7_copyOfRangeByte_39247) (maxL := 5) (ret := (some (.array .byte))) (by decide) rfl ?_
  intro p e s m args below meth c s₁ B hml hv
  obtain ⟨rfl, hsz, hP, hK, hD0, hN, hZ⟩ := hv
  have hx := B.exec
  have hb := B.bytes
  have hr := B.returns
  have hts : ∀ wd ∈ lwAll, wd.before ([.ref aY, .int 0, .int (nI n)] : List Value).toArray s = true := fun wd h => atoms_spec (ws := (Cond.code yJ7_copyOfRangeByte_39247 cJ7_copyOfRangeByte_39247 5 (some (.array .byte)) :: lwAll)) B.pre wd (List.mem_cons_of_mem _ h)
  have hown : s.vm.findClass RJ7 = some m.cls := findClass_of_methodNamed B.named
  have hlocks := B.notSynchronized
  subst hsz
  have hD := hD0.self (sz := s.heap.size)
  have hl := lv_entry ([.ref aY, .int 0, .int (nI n)]) (n := 5) (Nat.le_of_ble_eq_true rfl)
  rw [lg_entry_eq]
  generalize (lg_sl ([.ref aY, .int 0, .int (nI n)]) ++ List.replicate (5 - (lg_sl ([.ref aY, .int 0, .int (nI n)])).length) Slot.unset).toArray = ls at hl ⊢
  have hl : lv_has ls 5 [(0, .ref aY), (1, .int 0), (2, .int (nI n))] := hl
  have hS : va_S (va_A [(aY, .inl ((D.1 100), cap, .inl fY))] s.heap.size) s.heap s.heap [] := va_S.rf
  generalize hQe : MQ below (va_Qr (fun (_ : Unit) => True) (fun (_ : Unit) (ra : Nat) t => va_P D vwCl [(aY, .inl ((D.1 100), cap, .inl fY)), (ra, .inl ((D.1 100), n, .inl (va_cpy fY (fun _ => 0) 0 0 n)))] t.heap ∧ va_D (va_A [(aY, .inl ((D.1 100), cap, .inl fY))] s.heap.size) [(aY, .inl ((D.1 100), cap, .inl fY)), (ra, .inl ((D.1 100), n, .inl (va_cpy fY (fun _ => 0) 0 0 n)))]) (va_A [(aY, .inl ((D.1 100), cap, .inl fY))] s.heap.size)) ([.ref aY, .int 0, .int (nI n)] : List Value).toArray s 1 n (va_A [(aY, .inl ((D.1 100), cap, .inl fY))] s.heap.size) = Q
  have hP : va_P D vwCl [(aY, .inl ((D.1 100), cap, .inl fY))] s.heap := hP
  obtain ⟨A, hAe⟩ : ∃ A, A = va_A [(aY, .inl ((D.1 100), cap, .inl fY))] s.heap.size := ⟨_, rfl⟩
  rw [← hAe] at hD hZ hS
  have hA : ∀ q : Nat, s.heap.size ≤ q → A q := fun q h => by rw [hAe]; exact Or.inr h
  obtain ⟨H, hHe⟩ : ∃ H, H = s.heap := ⟨_, rfl⟩
  obtain ⟨locs, hLe⟩ : ∃ L : List Loc, L = [] := ⟨_, rfl⟩
  have hP : va_P D vwCl [(aY, .inl ((D.1 100), cap, .inl fY))] H := by rw [hHe]; exact hP
  have hS : va_S A s.heap H locs := by rw [hHe, hLe]; exact hS
  have hgoal : W p l e ({ frames := 1, cells := 1, slots := n, locals := 60 } : Room) s m ([.ref aY, .int 0, .int (nI n)] : List Value).toArray below meth c H locs 0 0 Q (F0 m 0 ls []) := by
    clear hHe hLe
    refine lv_iload_n hx hb dJ7_copyOfRangeByte_39247_0 rfl (lv_at hl 1 rfl) ?_
    refine lv_iload_n hx hb dJ7_copyOfRangeByte_39247_1 rfl (lv_at hl 2 rfl) ?_
    have hPc := hP.sub (ws' := []) [] rfl
    have hDc := hD.sub (ws' := []) [] (by decide) rfl
    have hFc := va_free (wc := []) hD hS hA [] rfl
    refine va_callv (va_runS (As := [.int 0, .int (nI n)]) (rest := []) ⟨hx, hb, hml, hown, hts⟩ (c_J7_checkLength_df160 l D n (nI n) H.size (show n ≤ 1000 from (by omega)) (show (nI n) = nI n from rfl)) (cwS 2 hts (gi_S q_504 q_505 q_96 q_506) rfl rfl rfl (by decide +kernel) ⟨Nat.le_of_ble_eq_true rfl, Nat.le_of_ble_eq_true rfl⟩) ⟨cPre_blind, cPre_mk hPc hK hDc hN (lwZ_for hZ hS hFc)⟩ rfl rfl hl.1 rfl (lv_room (Nat.le_of_ble_eq_true rfl)) dJ7_copyOfRangeByte_39247_2 ⟨(show 0 + 0 ≤ 1 from (by omega)), (show 0 + 0 ≤ n from (by omega))⟩) hS (fun q h1 h2 => absurd h2 (Nat.not_le.mpr h1)) (fun q h => hA q (Nat.le_trans hS.1 h)) (fun u t H1 locs ht hvm hw hBk hz1 hk1 hS => ?_)
    have hP := va_P_ro hP hk1
    clear hBk hvm ht u hz1 hk1
    clear hPc hDc hFc; clear t
    generalize H1 = H at hP hS ⊢
    refine lv_iload_n hx hb dJ7_copyOfRangeByte_39247_5 rfl (lv_at hl 2 rfl) ?_
    refine lv_iload_n hx hb dJ7_copyOfRangeByte_39247_6 rfl (lv_at hl 1 rfl) ?_
    refine lv_isub hx hb dJ7_copyOfRangeByte_39247_7 ?_
    rw [show ((nI n) - 0 : Int32) = nI n from (sub_0 n)]
    refine lv_istore_n (lv' := [(3, .int (nI n)), (0, .ref aY), (1, .int 0), (2, .int (nI n))]) hx hb dJ7_copyOfRangeByte_39247_8 rfl hl (by decide) rfl (fun ls hl => ?_)
    refine lv_iload_n hx hb dJ7_copyOfRangeByte_39247_9 rfl (lv_at hl 0 rfl) ?_
    refine va_newB hx hb (hts _ q_253) hK hP hD hS hA (N' := n) (nI_pos (by omega)) (nI_clamp (by omega)) (by omega) (show 0 + 1 ≤ 1 from (by omega)) (show 0 + n ≤ n from (by omega)) dJ7_copyOfRangeByte_39247_10 (fun y_10 H hqe hP hD hS => ?_)
    clear hqe
    have hP : va_P D vwCl [(aY, .inl ((D.1 100), cap, .inl fY)), (y_10, .inl ((D.1 100), n, .inl (fun _ => 0)))] H := hP
    have hD : va_D A [(aY, .inl ((D.1 100), cap, .inl fY)), (y_10, .inl ((D.1 100), n, .inl (fun _ => 0)))] := hD
    refine lv_astore (lv' := [(4, .ref y_10), (3, .int (nI n)), (0, .ref aY), (1, .int 0), (2, .int (nI n))]) hx hb dJ7_copyOfRangeByte_39247_12 hl (by decide) rfl (fun ls hl => ?_)
    refine lv_aload_n hx hb dJ7_copyOfRangeByte_39247_14 rfl (lv_at hl 2 rfl) ?_
    refine lv_iload_n hx hb dJ7_copyOfRangeByte_39247_15 rfl (lv_at hl 3 rfl) ?_
    refine lv_aload hx hb dJ7_copyOfRangeByte_39247_16 (lv_at hl 0 rfl) ?_
    refine lv_iconst (v := 0) hx hb dJ7_copyOfRangeByte_39247_18 (by decide) ?_
    refine lv_aload_n hx hb dJ7_copyOfRangeByte_39247_19 rfl (lv_at hl 2 rfl) ?_
    refine va_alen hx hb hK hP 0 0 rfl rfl (v := nI cap) rfl dJ7_copyOfRangeByte_39247_20 ?_
    refine lv_iload_n hx hb dJ7_copyOfRangeByte_39247_21 rfl (lv_at hl 3 rfl) ?_
    refine lv_isub hx hb dJ7_copyOfRangeByte_39247_22 ?_
    rw [show ((nI cap) - 0 : Int32) = nI cap from (sub_0 cap)]
    refine lv_iload_n hx hb dJ7_copyOfRangeByte_39247_23 rfl (lv_at hl 1 rfl) ?_
    refine va_mmin hx hb (hml.trans hl.1.symm) hown (hts _ q_366) (hts _ q_367) (hts _ q_95) (hts _ q_368) (Nat.le_of_ble_eq_true rfl) (Nat.le_of_ble_eq_true rfl) (show 0 + 1 ≤ 1 from (by omega)) (show 0 + n ≤ n from (by omega)) dJ7_copyOfRangeByte_39247_24 ?_
    rw [show ((if (nI n) < (nI cap) then (nI n) else (nI cap)) : Int32) = nI n from (if_pos (nI_lt (by omega) (by omega)))]
    refine va_copyi hx hb (hml.trans hl.1.symm) hown (hts _ q_369) (hts _ q_371) (hts _ q_370) (hts _ q_97) hK hP hD hS 0 1 0 0 rfl rfl rfl rfl rfl (by decide) (by decide) (nI_pos (by omega)) (by rw [sb_cl0, nI_clamp (by omega)]; omega) (by rw [sb_cl0, nI_clamp (by omega)]; omega) (fun i _ => hfit _) (Nat.le_of_ble_eq_true rfl) (show (List.map (fun v => Value.category v) ([] : List Value)).sum + (nativeFrameWords "java/lang/System" "arraycopy" 5 + 11) ≤ 60 from by decide +kernel) dJ7_copyOfRangeByte_39247_27 (fun H locs hP hD hS => ?_)
    have hP : va_P D vwCl [(aY, .inl ((D.1 100), cap, .inl fY)), (y_10, .inl ((D.1 100), n, .inl (va_cpy fY (fun _ => 0) (0 : Int32).toNatClampNeg (0 : Int32).toNatClampNeg (nI n).toNatClampNeg)))] H := hP
    have hD : va_D A [(aY, .inl ((D.1 100), cap, .inl fY)), (y_10, .inl ((D.1 100), n, .inl (va_cpy fY (fun _ => 0) (0 : Int32).toNatClampNeg (0 : Int32).toNatClampNeg (nI n).toNatClampNeg)))] := hD
    have e0 : (0 : Int32).toNatClampNeg = 0 := sb_cl0
    have e1 : (nI n).toNatClampNeg = n := nI_clamp (by omega)
    rw [e0, e1] at hP hD
    refine lv_aload hx hb dJ7_copyOfRangeByte_39247_30 (lv_at hl 0 rfl) ?_
    subst hQe
    subst hAe
    refine W.widen (k := 1) (n := n) (by omega) (by omega) ?_
    have hP9 := hP.sub (ws' := [(aY, .inl ((D.1 100), cap, .inl fY)), (y_10, .inl ((D.1 100), n, .inl (va_cpy fY (fun _ => 0) 0 0 n)))]) [0, 1] rfl
    have hD9 := hD.sub (ws' := [(aY, .inl ((D.1 100), cap, .inl fY)), (y_10, .inl ((D.1 100), n, .inl (va_cpy fY (fun _ => 0) 0 0 n)))]) [0, 1] (by decide) rfl
    exact W.aret (v := .ref y_10) hx hb hr (by first | exact Or.inl ⟨_, rfl⟩ | exact Or.inr ⟨_, rfl⟩) (Or.inr ⟨_, rfl⟩) (fun t ht hW => ⟨⟨(), y_10, rfl, trivial, (by rw [ht]; exact hP9), (hD9)⟩, hS.F ht⟩) hS.2.2 dJ7_copyOfRangeByte_39247_32
  rw [hHe, hLe] at hgoal
  exact hgoal


set_option maxHeartbeats 4000000 in
set_option maxRecDepth 100000 in
theorem c_J7_copyOfRange_39247A (l : Launch) (D : va_G) (aY : Nat) (cap : Nat) (fY : Nat → Int32) (n : Nat) (x2 : Int32) (sz : Nat) (hn : n < cap) (hcap : cap ≤ 1000) (hfit : ∀ j, fits .byte (.int (fY j)) = true) (hx2 : x2 = nI n) : Met l yJ7_copyOfRange_39247 (Cond.code yJ7_copyOfRange_39247 cJ7_copyOfRange_39247 3 (some (.array .byte)) :: lwAll) ({ frames := 2, cells := 1, slots := n, locals := 84 } : Room) (va_Pc [.ref aY, .int 0, .int x2] (cPre D (lwTY D) [(aY, .inl ((D.1 100), cap, .inl fY))] sz)) (va_Qr (fun (_ : Unit) => True) (fun (_ : Unit) (ra : Nat) t => va_P D vwCl [(aY, .inl ((D.1 100), cap, .inl fY)), (ra, .inl ((D.1 100), n, .inl (va_cpy fY (fun _ => 0) 0 0 n)))] t.heap ∧ va_D (va_A [(aY, .inl ((D.1 100), cap, .inl fY))] sz) [(aY, .inl ((D.1 100), cap, .inl fY)), (ra, .inl ((D.1 100), n, .inl (va_cpy fY (fun _ => 0) 0 0 n)))]) (va_A [(aY, .inl ((D.1 100), cap, .inl fY))] sz)) 1 n (va_A [(aY, .inl ((D.1 100), cap, .inl fY))] sz) := by
  subst hx2
  refine Met.ofW (cc := cJ7_copyOfRange_39247) (maxL := 3) (ret := (some (.array .byte))) (by decide) rfl ?_
  intro p e s m args below meth c s₁ B hml hv
  obtain ⟨rfl, hsz, hP, hK, hD0, hN, hZ⟩ := hv
  have hx := B.exec
  have hb := B.bytes
  have hr := B.returns
  have hts : ∀ wd ∈ lwAll, wd.before ([.ref aY, .int 0, .int (nI n)] : List Value).toArray s = true := fun wd h => atoms_spec (ws := (Cond.code yJ7_copyOfRange_39247 cJ7_copyOfRange_39247 3 (some (.array .byte)) :: lwAll)) B.pre wd (List.mem_cons_of_mem _ h)
  have hown : s.vm.findClass RJ7 = some m.cls := findClass_of_methodNamed B.named
  have hlocks := B.notSynchronized
  subst hsz
  have hD := hD0.self (sz := s.heap.size)
  have hl := lv_entry ([.ref aY, .int 0, .int (nI n)]) (n := 3) (Nat.le_of_ble_eq_true rfl)
  rw [lg_entry_eq]
  generalize (lg_sl ([.ref aY, .int 0, .int (nI n)]) ++ List.replicate (3 - (lg_sl ([.ref aY, .int 0, .int (nI n)])).length) Slot.unset).toArray = ls at hl ⊢
  have hl : lv_has ls 3 [(0, .ref aY), (1, .int 0), (2, .int (nI n))] := hl
  have hS : va_S (va_A [(aY, .inl ((D.1 100), cap, .inl fY))] s.heap.size) s.heap s.heap [] := va_S.rf
  generalize hQe : MQ below (va_Qr (fun (_ : Unit) => True) (fun (_ : Unit) (ra : Nat) t => va_P D vwCl [(aY, .inl ((D.1 100), cap, .inl fY)), (ra, .inl ((D.1 100), n, .inl (va_cpy fY (fun _ => 0) 0 0 n)))] t.heap ∧ va_D (va_A [(aY, .inl ((D.1 100), cap, .inl fY))] s.heap.size) [(aY, .inl ((D.1 100), cap, .inl fY)), (ra, .inl ((D.1 100), n, .inl (va_cpy fY (fun _ => 0) 0 0 n)))]) (va_A [(aY, .inl ((D.1 100), cap, .inl fY))] s.heap.size)) ([.ref aY, .int 0, .int (nI n)] : List Value).toArray s 1 n (va_A [(aY, .inl ((D.1 100), cap, .inl fY))] s.heap.size) = Q
  have hP : va_P D vwCl [(aY, .inl ((D.1 100), cap, .inl fY))] s.heap := hP
  obtain ⟨A, hAe⟩ : ∃ A, A = va_A [(aY, .inl ((D.1 100), cap, .inl fY))] s.heap.size := ⟨_, rfl⟩
  rw [← hAe] at hD hZ hS
  have hA : ∀ q : Nat, s.heap.size ≤ q → A q := fun q h => by rw [hAe]; exact Or.inr h
  obtain ⟨H, hHe⟩ : ∃ H, H = s.heap := ⟨_, rfl⟩
  obtain ⟨locs, hLe⟩ : ∃ L : List Loc, L = [] := ⟨_, rfl⟩
  have hP : va_P D vwCl [(aY, .inl ((D.1 100), cap, .inl fY))] H := by rw [hHe]; exact hP
  have hS : va_S A s.heap H locs := by rw [hHe, hLe]; exact hS
  have hgoal : W p l e ({ frames := 2, cells := 1, slots := n, locals := 84 } : Room) s m ([.ref aY, .int 0, .int (nI n)] : List Value).toArray below meth c H locs 0 0 Q (F0 m 0 ls []) := by
    clear hHe hLe
    refine lv_iload_n hx hb dJ7_copyOfRange_39247_0 rfl (lv_at hl 1 rfl) ?_
    refine lv_if_ne (tgt := 10) hx hb dJ7_copyOfRange_39247_1 (by decide) (fun c_1 => ?_) (fun c_1 => ?_)
    · exact absurd (by decide) c_1
    · refine lv_iload_n hx hb dJ7_copyOfRange_39247_4 rfl (lv_at hl 2 rfl) ?_
      refine lv_aload_n hx hb dJ7_copyOfRange_39247_5 rfl (lv_at hl 0 rfl) ?_
      refine va_alen hx hb hK hP 0 0 rfl rfl (v := nI cap) rfl dJ7_copyOfRange_39247_6 ?_
      refine lv_icmp_eq (tgt := 17) hx hb dJ7_copyOfRange_39247_7 (by decide) (fun c_2 => ?_) (fun c_2 => ?_)
      · exact absurd c_2 (fun h => absurd ((nI_eq (by omega) (by omega)).mp h) (by omega))
      · refine lv_aload_n hx hb dJ7_copyOfRange_39247_10 rfl (lv_at hl 0 rfl) ?_
        refine lv_iload_n hx hb dJ7_copyOfRange_39247_11 rfl (lv_at hl 1 rfl) ?_
        refine lv_iload_n hx hb dJ7_copyOfRange_39247_12 rfl (lv_at hl 2 rfl) ?_
        have hPc := hP.sub (ws' := [(aY, .inl ((D.1 100), cap, .inl fY))]) [0] rfl
        have hDc := hD.sub (ws' := [(aY, .inl ((D.1 100), cap, .inl fY))]) [0] (by decide) rfl
        have hFc := va_free (wc := [(aY, .inl ((D.1 100), cap, .inl fY))]) hD hS hA [0] rfl
        refine va_callr (va_runS (As := [.ref aY, .int 0, .int (nI n)]) (rest := []) ⟨hx, hb, hml, hown, hts⟩ (c_J7_copyOfRangeByte_39247 l D aY cap fY n (nI n) H.size (show n < cap from (by omega)) (show cap ≤ 1000 from (by omega)) (show ∀ j, fits .byte (.int (fY j)) = true from (by assumption)) (show (nI n) = nI n from rfl)) (cwS 3 hts (gi_S q_501 q_502 q_96 q_503) rfl rfl rfl (by decide +kernel) ⟨Nat.le_of_ble_eq_true rfl, Nat.le_of_ble_eq_true rfl⟩) ⟨cPre_blind, cPre_mk hPc hK hDc hN (lwZ_for hZ hS hFc)⟩ rfl rfl hl.1 rfl (lv_room (Nat.le_of_ble_eq_true rfl)) dJ7_copyOfRange_39247_13 ⟨(show 0 + 1 ≤ 1 from (by omega)), (show 0 + n ≤ n from (by omega))⟩) hS (fun q _ h => hFc q h) hFc (fun u ra_13 t H1 locs ht hvm hw hBk hz1 hk1 hS => ?_)
        obtain ⟨hP1, hD1⟩ := hBk
        rw [ht] at hP1
        obtain ⟨hP, hD⟩ := va_join (wr := []) (w1 := [(aY, .inl ((D.1 100), cap, .inl fY)), (ra_13, .inl ((D.1 100), n, .inl (va_cpy fY (fun _ => 0) 0 0 n)))]) hP hD [0] [] rfl rfl (by decide) (by decide) hk1 hFc hP1 hD1
        clear hPc hDc hFc hP1 hD1 hk1 hz1
        clear hvm ht u; clear t
        generalize H1 = H at hP hS ⊢
        have hP : va_P D vwCl [(aY, .inl ((D.1 100), cap, .inl fY)), (ra_13, .inl ((D.1 100), n, .inl (va_cpy fY (fun _ => 0) 0 0 n)))] H := hP
        have hD : va_D A [(aY, .inl ((D.1 100), cap, .inl fY)), (ra_13, .inl ((D.1 100), n, .inl (va_cpy fY (fun _ => 0) 0 0 n)))] := hD
        subst hQe
        subst hAe
        refine W.widen (k := 1) (n := n) (by omega) (by omega) ?_
        have hP9 := hP.sub (ws' := [(aY, .inl ((D.1 100), cap, .inl fY)), (ra_13, .inl ((D.1 100), n, .inl (va_cpy fY (fun _ => 0) 0 0 n)))]) [0, 1] rfl
        have hD9 := hD.sub (ws' := [(aY, .inl ((D.1 100), cap, .inl fY)), (ra_13, .inl ((D.1 100), n, .inl (va_cpy fY (fun _ => 0) 0 0 n)))]) [0, 1] (by decide) rfl
        exact W.aret (v := .ref ra_13) hx hb hr (by first | exact Or.inl ⟨_, rfl⟩ | exact Or.inr ⟨_, rfl⟩) (Or.inr ⟨_, rfl⟩) (fun t ht hW => ⟨⟨(), ra_13, rfl, trivial, (by rw [ht]; exact hP9), (hD9)⟩, hS.F ht⟩) hS.2.2 dJ7_copyOfRange_39247_16
  rw [hHe, hLe] at hgoal
  exact hgoal


set_option maxHeartbeats 4000000 in
set_option maxRecDepth 100000 in
theorem c_J7_copyOfRange_39247B (l : Launch) (D : va_G) (aY : Nat) (cap : Nat) (fY : Nat → Int32) (n : Nat) (x2 : Int32) (sz : Nat) (hnc : n = cap) (hcap : cap ≤ 1000) (hfit : ∀ j, fits .byte (.int (fY j)) = true) (hx2 : x2 = nI n) : Met l yJ7_copyOfRange_39247 (Cond.code yJ7_copyOfRange_39247 cJ7_copyOfRange_39247 3 (some (.array .byte)) :: lwAll) ({ frames := 1, cells := 1, slots := n, locals := 60 } : Room) (va_Pc [.ref aY, .int 0, .int x2] (cPre D (lwTY D) [(aY, .inl ((D.1 100), cap, .inl fY))] sz)) (va_Qr (fun (_ : Unit) => True) (fun (_ : Unit) (ra : Nat) t => va_P D vwCl [(aY, .inl ((D.1 100), cap, .inl fY)), (ra, .inl ((D.1 100), n, .inl fY))] t.heap ∧ va_D (va_A [(aY, .inl ((D.1 100), cap, .inl fY))] sz) [(aY, .inl ((D.1 100), cap, .inl fY)), (ra, .inl ((D.1 100), n, .inl fY))]) (va_A [(aY, .inl ((D.1 100), cap, .inl fY))] sz)) 1 n (va_A [(aY, .inl ((D.1 100), cap, .inl fY))] sz) := by
  subst hx2
  subst hnc
  refine Met.ofW (cc := cJ7_copyOfRange_39247) (maxL := 3) (ret := (some (.array .byte))) (by decide) rfl ?_
  intro p e s m args below meth c s₁ B hml hv
  obtain ⟨rfl, hsz, hP, hK, hD0, hN, hZ⟩ := hv
  have hx := B.exec
  have hb := B.bytes
  have hr := B.returns
  have hts : ∀ wd ∈ lwAll, wd.before ([.ref aY, .int 0, .int (nI n)] : List Value).toArray s = true := fun wd h => atoms_spec (ws := (Cond.code yJ7_copyOfRange_39247 cJ7_copyOfRange_39247 3 (some (.array .byte)) :: lwAll)) B.pre wd (List.mem_cons_of_mem _ h)
  have hown : s.vm.findClass RJ7 = some m.cls := findClass_of_methodNamed B.named
  have hlocks := B.notSynchronized
  subst hsz
  have hD := hD0.self (sz := s.heap.size)
  have hl := lv_entry ([.ref aY, .int 0, .int (nI n)]) (n := 3) (Nat.le_of_ble_eq_true rfl)
  rw [lg_entry_eq]
  generalize (lg_sl ([.ref aY, .int 0, .int (nI n)]) ++ List.replicate (3 - (lg_sl ([.ref aY, .int 0, .int (nI n)])).length) Slot.unset).toArray = ls at hl ⊢
  have hl : lv_has ls 3 [(0, .ref aY), (1, .int 0), (2, .int (nI n))] := hl
  have hS : va_S (va_A [(aY, .inl ((D.1 100), n, .inl fY))] s.heap.size) s.heap s.heap [] := va_S.rf
  generalize hQe : MQ below (va_Qr (fun (_ : Unit) => True) (fun (_ : Unit) (ra : Nat) t => va_P D vwCl [(aY, .inl ((D.1 100), n, .inl fY)), (ra, .inl ((D.1 100), n, .inl fY))] t.heap ∧ va_D (va_A [(aY, .inl ((D.1 100), n, .inl fY))] s.heap.size) [(aY, .inl ((D.1 100), n, .inl fY)), (ra, .inl ((D.1 100), n, .inl fY))]) (va_A [(aY, .inl ((D.1 100), n, .inl fY))] s.heap.size)) ([.ref aY, .int 0, .int (nI n)] : List Value).toArray s 1 n (va_A [(aY, .inl ((D.1 100), n, .inl fY))] s.heap.size) = Q
  have hP : va_P D vwCl [(aY, .inl ((D.1 100), n, .inl fY))] s.heap := hP
  obtain ⟨A, hAe⟩ : ∃ A, A = va_A [(aY, .inl ((D.1 100), n, .inl fY))] s.heap.size := ⟨_, rfl⟩
  rw [← hAe] at hD hZ hS
  have hA : ∀ q : Nat, s.heap.size ≤ q → A q := fun q h => by rw [hAe]; exact Or.inr h
  obtain ⟨H, hHe⟩ : ∃ H, H = s.heap := ⟨_, rfl⟩
  obtain ⟨locs, hLe⟩ : ∃ L : List Loc, L = [] := ⟨_, rfl⟩
  have hP : va_P D vwCl [(aY, .inl ((D.1 100), n, .inl fY))] H := by rw [hHe]; exact hP
  have hS : va_S A s.heap H locs := by rw [hHe, hLe]; exact hS
  have hgoal : W p l e ({ frames := 1, cells := 1, slots := n, locals := 60 } : Room) s m ([.ref aY, .int 0, .int (nI n)] : List Value).toArray below meth c H locs 0 0 Q (F0 m 0 ls []) := by
    clear hHe hLe
    refine lv_iload_n hx hb dJ7_copyOfRange_39247_0 rfl (lv_at hl 1 rfl) ?_
    refine lv_if_ne (tgt := 10) hx hb dJ7_copyOfRange_39247_1 (by decide) (fun c_1 => ?_) (fun c_1 => ?_)
    · exact absurd (by decide) c_1
    · refine lv_iload_n hx hb dJ7_copyOfRange_39247_4 rfl (lv_at hl 2 rfl) ?_
      refine lv_aload_n hx hb dJ7_copyOfRange_39247_5 rfl (lv_at hl 0 rfl) ?_
      refine va_alen hx hb hK hP 0 0 rfl rfl (v := nI n) rfl dJ7_copyOfRange_39247_6 ?_
      refine lv_icmp_eq (tgt := 17) hx hb dJ7_copyOfRange_39247_7 (by decide) (fun c_2 => ?_) (fun c_2 => ?_)
      · refine lv_aload_n hx hb dJ7_copyOfRange_39247_17 rfl (lv_at hl 0 rfl) ?_
        refine va_clone hx hb (hml.trans hl.1.symm) hown (hts _ q_359) (hts _ q_360) (hts _ q_361) (hts _ q_362) (hts _ q_363) (hN.1 _ n_364) hK hP hD hS hA 0 0 rfl rfl (hK.2 0 _ rfl).2 (clone_fit hfit) (Nat.le_of_ble_eq_true rfl) (Nat.le_of_ble_eq_true rfl) (show 0 + 1 ≤ 1 from (by omega)) (show 0 + n ≤ n from (by omega)) dJ7_copyOfRange_39247_18 (fun y_18 H hK2 hP hD hS => ?_)
        clear hK2
        have hP : va_P D vwCl [(aY, .inl ((D.1 100), n, .inl fY)), (y_18, .inl ((D.1 100), n, .inl fY))] H := hP
        have hD : va_D A [(aY, .inl ((D.1 100), n, .inl fY)), (y_18, .inl ((D.1 100), n, .inl fY))] := hD
        refine va_castA hx hb hown (hts _ q_365) hP 1 rfl (hK.2 0 _ rfl).2 dJ7_copyOfRange_39247_21 ?_
        subst hQe
        subst hAe
        refine W.widen (k := 1) (n := n) (by omega) (by omega) ?_
        have hP9 := hP.sub (ws' := [(aY, .inl ((D.1 100), n, .inl fY)), (y_18, .inl ((D.1 100), n, .inl fY))]) [0, 1] rfl
        have hD9 := hD.sub (ws' := [(aY, .inl ((D.1 100), n, .inl fY)), (y_18, .inl ((D.1 100), n, .inl fY))]) [0, 1] (by decide) rfl
        exact W.aret (v := .ref y_18) hx hb hr (by first | exact Or.inl ⟨_, rfl⟩ | exact Or.inr ⟨_, rfl⟩) (Or.inr ⟨_, rfl⟩) (fun t ht hW => ⟨⟨(), y_18, rfl, trivial, (by rw [ht]; exact hP9), (hD9)⟩, hS.F ht⟩) hS.2.2 dJ7_copyOfRange_39247_24
      · exact absurd rfl c_2
  rw [hHe, hLe] at hgoal
  exact hgoal


set_option maxHeartbeats 4000000 in
set_option maxRecDepth 100000 in
theorem c_J0_init_db425 (l : Launch) (D : va_G) (hS_ : Nat) (hB : Nat) (aY : Nat) (ml : Int32) (n : Nat) (cap : Nat) (fY : Nat → Int32) (sz : Nat) (hn : n ≤ cap) (hcap : cap ≤ 1000) (hfit : ∀ j, fits .byte (.int (fY j)) = true) : Met l yJ0_init_db425 (Cond.code yJ0_init_db425 cJ0_init_db425 5 none :: lwAll) ({ frames := 3, cells := 1, slots := n, locals := 106 } : Room) (va_Pc [.ref hS_, .ref hB, .null] (cPre D (lwTY D) [(hS_, .inr (0, [.null, .int 0, .int 0, .int 0])), (hB, .inr (1, [.ref aY, .int 0, .int ml, .int (nI n)])), (aY, .inl ((D.1 100), cap, .inl fY))] sz)) (va_Qv (fun (_ : Nat) => True) (fun (u : Nat) t => va_P D vwCl [(hS_, .inr (0, [.ref u, .int 0, .int 0, .int 0])), (hB, .inr (1, [.ref aY, .int 0, .int ml, .int (nI n)])), (aY, .inl ((D.1 100), cap, .inl fY)), (u, .inl ((D.1 100), n, .inl (strF n cap fY)))] t.heap ∧ va_D (va_A [(hS_, .inr (0, [.null, .int 0, .int 0, .int 0])), (hB, .inr (1, [.ref aY, .int 0, .int ml, .int (nI n)])), (aY, .inl ((D.1 100), cap, .inl fY))] sz) [(hS_, .inr (0, [.ref u, .int 0, .int 0, .int 0])), (hB, .inr (1, [.ref aY, .int 0, .int ml, .int (nI n)])), (aY, .inl ((D.1 100), cap, .inl fY)), (u, .inl ((D.1 100), n, .inl (strF n cap fY)))]) (va_A [(hS_, .inr (0, [.null, .int 0, .int 0, .int 0])), (hB, .inr (1, [.ref aY, .int 0, .int ml, .int (nI n)])), (aY, .inl ((D.1 100), cap, .inl fY))] sz)) 1 n (va_A [(hS_, .inr (0, [.null, .int 0, .int 0, .int 0])), (hB, .inr (1, [.ref aY, .int 0, .int ml, .int (nI n)])), (aY, .inl ((D.1 100), cap, .inl fY))] sz) := by
  refine Met.ofW (cc := cJ0_init_db425) (maxL := 5) (ret := none) (by decide) rfl ?_
  intro p e s m args below meth c s₁ B hml hv
  obtain ⟨rfl, hsz, hP, hK, hD0, hN, hZ⟩ := hv
  have hx := B.exec
  have hb := B.bytes
  have hr := B.returns
  have hts : ∀ wd ∈ lwAll, wd.before ([.ref hS_, .ref hB, .null] : List Value).toArray s = true := fun wd h => atoms_spec (ws := (Cond.code yJ0_init_db425 cJ0_init_db425 5 none :: lwAll)) B.pre wd (List.mem_cons_of_mem _ h)
  have hown : s.vm.findClass RJ0 = some m.cls := findClass_of_methodNamed B.named
  have hlocks := B.notSynchronized
  have hin : meth.name = "<init>" := (name_of_methodNamed B.named B.method).1
  subst hsz
  have hD := hD0.self (sz := s.heap.size)
  have hl := lv_entry ([.ref hS_, .ref hB, .null]) (n := 5) (Nat.le_of_ble_eq_true rfl)
  rw [lg_entry_eq]
  generalize (lg_sl ([.ref hS_, .ref hB, .null]) ++ List.replicate (5 - (lg_sl ([.ref hS_, .ref hB, .null])).length) Slot.unset).toArray = ls at hl ⊢
  have hl : lv_has ls 5 [(0, .ref hS_), (1, .ref hB), (2, .null)] := hl
  have hS : va_S (va_A [(hS_, .inr (0, [.null, .int 0, .int 0, .int 0])), (hB, .inr (1, [.ref aY, .int 0, .int ml, .int (nI n)])), (aY, .inl ((D.1 100), cap, .inl fY))] s.heap.size) s.heap s.heap [] := va_S.rf
  generalize hQe : MQ below (va_Qv (fun (_ : Nat) => True) (fun (u : Nat) t => va_P D vwCl [(hS_, .inr (0, [.ref u, .int 0, .int 0, .int 0])), (hB, .inr (1, [.ref aY, .int 0, .int ml, .int (nI n)])), (aY, .inl ((D.1 100), cap, .inl fY)), (u, .inl ((D.1 100), n, .inl (strF n cap fY)))] t.heap ∧ va_D (va_A [(hS_, .inr (0, [.null, .int 0, .int 0, .int 0])), (hB, .inr (1, [.ref aY, .int 0, .int ml, .int (nI n)])), (aY, .inl ((D.1 100), cap, .inl fY))] s.heap.size) [(hS_, .inr (0, [.ref u, .int 0, .int 0, .int 0])), (hB, .inr (1, [.ref aY, .int 0, .int ml, .int (nI n)])), (aY, .inl ((D.1 100), cap, .inl fY)), (u, .inl ((D.1 100), n, .inl (strF n cap fY)))]) (va_A [(hS_, .inr (0, [.null, .int 0, .int 0, .int 0])), (hB, .inr (1, [.ref aY, .int 0, .int ml, .int (nI n)])), (aY, .inl ((D.1 100), cap, .inl fY))] s.heap.size)) ([.ref hS_, .ref hB, .null] : List Value).toArray s 1 n (va_A [(hS_, .inr (0, [.null, .int 0, .int 0, .int 0])), (hB, .inr (1, [.ref aY, .int 0, .int ml, .int (nI n)])), (aY, .inl ((D.1 100), cap, .inl fY))] s.heap.size) = Q
  have hP : va_P D vwCl [(hS_, .inr (0, [.null, .int 0, .int 0, .int 0])), (hB, .inr (1, [.ref aY, .int 0, .int ml, .int (nI n)])), (aY, .inl ((D.1 100), cap, .inl fY))] s.heap := hP
  obtain ⟨A, hAe⟩ : ∃ A, A = va_A [(hS_, .inr (0, [.null, .int 0, .int 0, .int 0])), (hB, .inr (1, [.ref aY, .int 0, .int ml, .int (nI n)])), (aY, .inl ((D.1 100), cap, .inl fY))] s.heap.size := ⟨_, rfl⟩
  rw [← hAe] at hD hZ hS
  have hA : ∀ q : Nat, s.heap.size ≤ q → A q := fun q h => by rw [hAe]; exact Or.inr h
  obtain ⟨H, hHe⟩ : ∃ H, H = s.heap := ⟨_, rfl⟩
  obtain ⟨locs, hLe⟩ : ∃ L : List Loc, L = [] := ⟨_, rfl⟩
  have hP : va_P D vwCl [(hS_, .inr (0, [.null, .int 0, .int 0, .int 0])), (hB, .inr (1, [.ref aY, .int 0, .int ml, .int (nI n)])), (aY, .inl ((D.1 100), cap, .inl fY))] H := by rw [hHe]; exact hP
  have hS : va_S A s.heap H locs := by rw [hHe, hLe]; exact hS
  have hgoal : W p l e ({ frames := 3, cells := 1, slots := n, locals := 106 } : Room) s m ([.ref hS_, .ref hB, .null] : List Value).toArray below meth c H locs 0 0 Q (F0 m 0 ls []) := by
    clear hHe hLe
    refine lv_aload_n hx hb dJ0_init_db425_0 rfl (lv_at hl 0 rfl) ?_
    refine W.objInit hx hb hown (hts _ q_483) (hts _ q_120) (hts _ q_121) rfl (by rw [hml]; exact hl.1) rfl dJ0_init_db425_1 (Nat.le_of_ble_eq_true rfl) (Nat.le_of_ble_eq_true rfl) ?_
    refine W.eq (g2 := F0 m 4 ls []) rfl ?_
    refine lv_aload_n hx hb dJ0_init_db425_4 rfl (lv_at hl 1 rfl) ?_
    have hPc := hP.sub (ws' := [(hB, .inr (1, [.ref aY, .int 0, .int ml, .int (nI n)])), (aY, .inl ((D.1 100), cap, .inl fY))]) [1, 2] rfl
    have hDc := hD.sub (ws' := [(hB, .inr (1, [.ref aY, .int 0, .int ml, .int (nI n)])), (aY, .inl ((D.1 100), cap, .inl fY))]) [1, 2] (by decide) rfl
    have hFc := va_free (wc := [(hB, .inr (1, [.ref aY, .int 0, .int ml, .int (nI n)])), (aY, .inl ((D.1 100), cap, .inl fY))]) hD hS hA [1, 2] rfl
    refine va_callr (va_runU (C := "java/lang/StringBuilder") (owner := "java/lang/AbstractStringBuilder") (As := []) (rest := []) ⟨hx, hb, hml, hown, hts⟩ (c_J5_getValue_6d5f1 l D hB aY ml n cap fY H.size ) (va_cwU 0 hts (gi_U q_484 q_486 q_487 q_485 q_85 q_488) rfl rfl rfl rfl (by decide +kernel) ⟨Nat.le_of_ble_eq_true rfl, Nat.le_of_ble_eq_true rfl⟩) ⟨cPre_blind, va_recv hK hP (ci := 1) (q0 := 1) rfl rfl, cPre_mk hPc hK hDc hN (lwZ_for hZ hS hFc)⟩ rfl rfl hl.1 rfl (lv_room (Nat.le_of_ble_eq_true rfl)) dJ0_init_db425_5 ⟨(show 0 + 0 ≤ 1 from (by omega)), (show 0 + 0 ≤ n from (by omega))⟩) hS (fun q _ h => hFc q h) hFc (fun u ra_5 t H1 locs ht hvm hw hBk hz1 hk1 hS => ?_)
    obtain ⟨hra, hP1, hD1⟩ := hBk
    have hra2 := hra.symm
    subst hra2
    rw [ht] at hP1
    obtain ⟨hP, hD⟩ := va_join (wr := [(hS_, .inr (0, [.null, .int 0, .int 0, .int 0]))]) (w1 := [(hB, .inr (1, [.ref aY, .int 0, .int ml, .int (nI n)])), (aY, .inl ((D.1 100), cap, .inl fY))]) hP hD [1, 2] [0] rfl rfl (by decide) (by decide) hk1 hFc hP1 hD1
    clear hPc hDc hFc hP1 hD1 hk1 hz1
    clear hvm ht u; clear t
    generalize H1 = H at hP hS ⊢
    have hP : va_P D vwCl [(hS_, .inr (0, [.null, .int 0, .int 0, .int 0])), (hB, .inr (1, [.ref aY, .int 0, .int ml, .int (nI n)])), (aY, .inl ((D.1 100), cap, .inl fY))] H := hP
    have hD : va_D A [(hS_, .inr (0, [.null, .int 0, .int 0, .int 0])), (hB, .inr (1, [.ref aY, .int 0, .int ml, .int (nI n)])), (aY, .inl ((D.1 100), cap, .inl fY))] := hD
    refine lv_astore_n (lv' := [(3, .ref aY), (0, .ref hS_), (1, .ref hB), (2, .null)]) hx hb dJ0_init_db425_8 rfl hl (by decide) rfl (fun ls hl => ?_)
    refine lv_aload_n hx hb dJ0_init_db425_9 rfl (lv_at hl 2 rfl) ?_
    have hPc := hP.sub (ws' := [(hB, .inr (1, [.ref aY, .int 0, .int ml, .int (nI n)]))]) [1] rfl
    have hDc := hD.sub (ws' := [(hB, .inr (1, [.ref aY, .int 0, .int ml, .int (nI n)]))]) [1] (by decide) rfl
    have hFc := va_free (wc := [(hB, .inr (1, [.ref aY, .int 0, .int ml, .int (nI n)]))]) hD hS hA [1] rfl
    refine va_calli (va_runU (C := "java/lang/StringBuilder") (owner := "java/lang/AbstractStringBuilder") (As := []) (rest := []) ⟨hx, hb, hml, hown, hts⟩ (c_J4_length_8abf5 l D hB aY ml n H.size ) (va_cwO 0 hts (gi_O q_489 q_491 q_490 q_492 q_493 q_86 q_494) rfl rfl rfl q_496 (by decide +kernel) ⟨Nat.le_of_ble_eq_true rfl, Nat.le_of_ble_eq_true rfl⟩) ⟨cPre_blind, va_recv hK hP (ci := 1) (q0 := 1) rfl rfl, cPre_mk hPc hK hDc hN (lwZ_for hZ hS hFc)⟩ rfl rfl hl.1 rfl (lv_room (Nat.le_of_ble_eq_true rfl)) dJ0_init_db425_10 ⟨(show 0 + 0 ≤ 1 from (by omega)), (show 0 + 0 ≤ n from (by omega))⟩) hS (fun q h1 h2 => absurd h2 (Nat.not_le.mpr h1)) (fun q h => hA q (Nat.le_trans hS.1 h)) (fun r_10 u t H1 locs ht hvm hw hBk hz1 hk1 hS => ?_)
    have hP := va_P_ro hP hk1
    subst hw
    clear hBk hvm ht u hz1 hk1
    clear hPc hDc hFc; clear t
    generalize H1 = H at hP hS ⊢
    rw [show (F_J4_length_8abf5 n : Int32) = nI n from rfl]
    refine lv_istore (lv' := [(4, .int (nI n)), (3, .ref aY), (0, .ref hS_), (1, .ref hB), (2, .null)]) hx hb dJ0_init_db425_13 hl (by decide) rfl (fun ls hl => ?_)
    refine lv_aload_n hx hb dJ0_init_db425_15 rfl (lv_at hl 3 rfl) ?_
    have hPc := hP.sub (ws' := [(hB, .inr (1, [.ref aY, .int 0, .int ml, .int (nI n)]))]) [1] rfl
    have hDc := hD.sub (ws' := [(hB, .inr (1, [.ref aY, .int 0, .int ml, .int (nI n)]))]) [1] (by decide) rfl
    have hFc := va_free (wc := [(hB, .inr (1, [.ref aY, .int 0, .int ml, .int (nI n)]))]) hD hS hA [1] rfl
    refine va_calli (va_runU (C := "java/lang/StringBuilder") (owner := "java/lang/AbstractStringBuilder") (As := []) (rest := []) ⟨hx, hb, hml, hown, hts⟩ (c_J5_isLatin1_aae02 l D hB aY ml n H.size ) (va_cwU 0 hts (gi_U q_497 q_374 q_375 q_373 q_85 q_376) rfl rfl rfl rfl (by decide +kernel) ⟨Nat.le_of_ble_eq_true rfl, Nat.le_of_ble_eq_true rfl⟩) ⟨cPre_blind, va_recv hK hP (ci := 1) (q0 := 1) rfl rfl, cPre_mk hPc hK hDc hN (lwZ_for hZ hS hFc)⟩ rfl rfl hl.1 rfl (lv_room (Nat.le_of_ble_eq_true rfl)) dJ0_init_db425_16 ⟨(show 0 + 0 ≤ 1 from (by omega)), (show 0 + 0 ≤ n from (by omega))⟩) hS (fun q h1 h2 => absurd h2 (Nat.not_le.mpr h1)) (fun q h => hA q (Nat.le_trans hS.1 h)) (fun r_16 u t H1 locs ht hvm hw hBk hz1 hk1 hS => ?_)
    have hP := va_P_ro hP hk1
    obtain ⟨hw, z_1⟩ := hw
    rw [hw] at z_1
    subst hw
    clear hBk hvm ht u hz1 hk1
    clear hPc hDc hFc; clear t
    generalize H1 = H at hP hS ⊢
    refine lv_if_eq (tgt := 41) hx hb dJ0_init_db425_19 (by decide) (fun c_2 => ?_) (fun c_2 => ?_)
    · exact absurd c_2 (by decide)
    · refine lv_aload_n hx hb dJ0_init_db425_22 rfl (lv_at hl 2 rfl) ?_
      refine lv_iconst (v := 0) hx hb dJ0_init_db425_23 (by decide) ?_
      refine va_putF (D := D) (ci := 0) (v := .int 0) (ty := .byte) (C := RJ0) (T := TJ0) (N := 4) hx hb hts in_J0 tyJ0 tyJ0_ok nmJ0 hown hK hP hD hS 0 rfl rfl 1 (by decide) (hts _ q_595) (fun _ h9 => h9) rfl hin rfl (by decide +kernel) rfl rfl (Nat.le_of_ble_eq_true rfl) dJ0_init_db425_24 (fun H locs hP hD hS => ?_)
      have hP : va_P D vwCl [(hS_, .inr (0, [.null, .int 0, .int 0, .int 0])), (hB, .inr (1, [.ref aY, .int 0, .int ml, .int (nI n)])), (aY, .inl ((D.1 100), cap, .inl fY))] H := hP
      have hD : va_D A [(hS_, .inr (0, [.null, .int 0, .int 0, .int 0])), (hB, .inr (1, [.ref aY, .int 0, .int ml, .int (nI n)])), (aY, .inl ((D.1 100), cap, .inl fY))] := hD
      refine lv_aload_n hx hb dJ0_init_db425_27 rfl (lv_at hl 2 rfl) ?_
      refine lv_aload_n hx hb dJ0_init_db425_28 rfl (lv_at hl 1 rfl) ?_
      refine lv_iconst (v := 0) hx hb dJ0_init_db425_29 (by decide) ?_
      refine lv_iload hx hb dJ0_init_db425_30 (lv_at hl 0 rfl) ?_
      by_cases c_3 : n < cap
      · have hPc := hP.sub (ws' := [(aY, .inl ((D.1 100), cap, .inl fY))]) [2] rfl
        have hDc := hD.sub (ws' := [(aY, .inl ((D.1 100), cap, .inl fY))]) [2] (by decide) rfl
        have hFc := va_free (wc := [(aY, .inl ((D.1 100), cap, .inl fY))]) hD hS hA [2] rfl
        refine va_callr (va_runS (As := [.ref aY, .int 0, .int (nI n)]) (rest := [.ref hS_]) ⟨hx, hb, hml, hown, hts⟩ (c_J7_copyOfRange_39247A l D aY cap fY n (nI n) H.size (show n < cap from (by omega)) (show cap ≤ 1000 from (by omega)) (show ∀ j, fits .byte (.int (fY j)) = true from (by assumption)) (show (nI n) = nI n from rfl)) ⟨callB_of 3 hts (gi_sub q_500) rfl rfl rfl (hts _ q_96) (hts _ q_498) (by decide +kernel) ⟨Nat.le_of_ble_eq_true rfl, Nat.le_of_ble_eq_true rfl⟩, (hts _ q_499)⟩ ⟨cPre_blind, cPre_mk hPc hK hDc hN (lwZ_for hZ hS hFc)⟩ rfl rfl hl.1 rfl (lv_room (Nat.le_of_ble_eq_true rfl)) dJ0_init_db425_32 ⟨(show 0 + 1 ≤ 1 from (by omega)), (show 0 + n ≤ n from (by omega))⟩) hS (fun q _ h => hFc q h) hFc (fun u ra_32 t H1 locs ht hvm hw hBk hz1 hk1 hS => ?_)
        obtain ⟨hP1, hD1⟩ := hBk
        rw [ht] at hP1
        obtain ⟨hP, hD⟩ := va_join (wr := [(hS_, .inr (0, [.null, .int 0, .int 0, .int 0])), (hB, .inr (1, [.ref aY, .int 0, .int ml, .int (nI n)]))]) (w1 := [(aY, .inl ((D.1 100), cap, .inl fY)), (ra_32, .inl ((D.1 100), n, .inl (va_cpy fY (fun _ => 0) 0 0 n)))]) hP hD [2] [0, 1] rfl rfl (by decide) (by decide) hk1 hFc hP1 hD1
        clear hPc hDc hFc hP1 hD1 hk1 hz1
        clear hvm ht u; clear t
        generalize H1 = H at hP hS ⊢
        have hP : va_P D vwCl [(hS_, .inr (0, [.null, .int 0, .int 0, .int 0])), (hB, .inr (1, [.ref aY, .int 0, .int ml, .int (nI n)])), (aY, .inl ((D.1 100), cap, .inl fY)), (ra_32, .inl ((D.1 100), n, .inl (va_cpy fY (fun _ => 0) 0 0 n)))] H := hP
        have hD : va_D A [(hS_, .inr (0, [.null, .int 0, .int 0, .int 0])), (hB, .inr (1, [.ref aY, .int 0, .int ml, .int (nI n)])), (aY, .inl ((D.1 100), cap, .inl fY)), (ra_32, .inl ((D.1 100), n, .inl (va_cpy fY (fun _ => 0) 0 0 n)))] := hD
        refine va_putF (D := D) (ci := 0) (v := .ref ra_32) (ty := (.array .byte)) (C := RJ0) (T := TJ0) (N := 4) hx hb hts in_J0 tyJ0 tyJ0_ok nmJ0 hown hK hP hD hS 0 rfl rfl 0 (by decide) (hts _ q_594) (fun _ h9 => h9) rfl hin rfl (by decide +kernel) rfl rfl (Nat.le_of_ble_eq_true rfl) dJ0_init_db425_35 (fun H locs hP hD hS => ?_)
        have hP : va_P D vwCl [(hS_, .inr (0, [.ref ra_32, .int 0, .int 0, .int 0])), (hB, .inr (1, [.ref aY, .int 0, .int ml, .int (nI n)])), (aY, .inl ((D.1 100), cap, .inl fY)), (ra_32, .inl ((D.1 100), n, .inl (va_cpy fY (fun _ => 0) 0 0 n)))] H := hP
        have hD : va_D A [(hS_, .inr (0, [.ref ra_32, .int 0, .int 0, .int 0])), (hB, .inr (1, [.ref aY, .int 0, .int ml, .int (nI n)])), (aY, .inl ((D.1 100), cap, .inl fY)), (ra_32, .inl ((D.1 100), n, .inl (va_cpy fY (fun _ => 0) 0 0 n)))] := hD
        refine lv_goto (tgt := 97) hx hb dJ0_init_db425_38 (by decide) ?_
        have hq : va_cpy fY (fun _ => 0) 0 0 n = strF n cap fY := by unfold strF; rw [if_pos c_3]
        rw [hq] at hP hD
        subst hQe
        subst hAe
        refine W.widen (k := 1) (n := n) (by omega) (by omega) ?_
        have hP9 := hP.sub (ws' := [(hS_, .inr (0, [.ref ra_32, .int 0, .int 0, .int 0])), (hB, .inr (1, [.ref aY, .int 0, .int ml, .int (nI n)])), (aY, .inl ((D.1 100), cap, .inl fY)), (ra_32, .inl ((D.1 100), n, .inl (strF n cap fY)))]) [0, 1, 2, 3] rfl
        have hD9 := hD.sub (ws' := [(hS_, .inr (0, [.ref ra_32, .int 0, .int 0, .int 0])), (hB, .inr (1, [.ref aY, .int 0, .int ml, .int (nI n)])), (aY, .inl ((D.1 100), cap, .inl fY)), (ra_32, .inl ((D.1 100), n, .inl (strF n cap fY)))]) [0, 1, 2, 3] (by decide) rfl
        exact W.vret hx hb hr (fun t ht hW => ⟨⟨ra_32, rfl, trivial, (by rw [ht]; exact hP9), (hD9)⟩, hS.F ht⟩) hS.2.2 dJ0_init_db425_97
      · have hPc := hP.sub (ws' := [(aY, .inl ((D.1 100), cap, .inl fY))]) [2] rfl
        have hDc := hD.sub (ws' := [(aY, .inl ((D.1 100), cap, .inl fY))]) [2] (by decide) rfl
        have hFc := va_free (wc := [(aY, .inl ((D.1 100), cap, .inl fY))]) hD hS hA [2] rfl
        refine va_callr (va_runS (As := [.ref aY, .int 0, .int (nI n)]) (rest := [.ref hS_]) ⟨hx, hb, hml, hown, hts⟩ (c_J7_copyOfRange_39247B l D aY cap fY n (nI n) H.size (show n = cap from (by omega)) (show cap ≤ 1000 from (by omega)) (show ∀ j, fits .byte (.int (fY j)) = true from (by assumption)) (show (nI n) = nI n from rfl)) ⟨callB_of 3 hts (gi_sub q_500) rfl rfl rfl (hts _ q_96) (hts _ q_498) (by decide +kernel) ⟨Nat.le_of_ble_eq_true rfl, Nat.le_of_ble_eq_true rfl⟩, (hts _ q_499)⟩ ⟨cPre_blind, cPre_mk hPc hK hDc hN (lwZ_for hZ hS hFc)⟩ rfl rfl hl.1 rfl (lv_room (Nat.le_of_ble_eq_true rfl)) dJ0_init_db425_32 ⟨(show 0 + 1 ≤ 1 from (by omega)), (show 0 + n ≤ n from (by omega))⟩) hS (fun q _ h => hFc q h) hFc (fun u ra_32 t H1 locs ht hvm hw hBk hz1 hk1 hS => ?_)
        obtain ⟨hP1, hD1⟩ := hBk
        rw [ht] at hP1
        obtain ⟨hP, hD⟩ := va_join (wr := [(hS_, .inr (0, [.null, .int 0, .int 0, .int 0])), (hB, .inr (1, [.ref aY, .int 0, .int ml, .int (nI n)]))]) (w1 := [(aY, .inl ((D.1 100), cap, .inl fY)), (ra_32, .inl ((D.1 100), n, .inl fY))]) hP hD [2] [0, 1] rfl rfl (by decide) (by decide) hk1 hFc hP1 hD1
        clear hPc hDc hFc hP1 hD1 hk1 hz1
        clear hvm ht u; clear t
        generalize H1 = H at hP hS ⊢
        have hP : va_P D vwCl [(hS_, .inr (0, [.null, .int 0, .int 0, .int 0])), (hB, .inr (1, [.ref aY, .int 0, .int ml, .int (nI n)])), (aY, .inl ((D.1 100), cap, .inl fY)), (ra_32, .inl ((D.1 100), n, .inl fY))] H := hP
        have hD : va_D A [(hS_, .inr (0, [.null, .int 0, .int 0, .int 0])), (hB, .inr (1, [.ref aY, .int 0, .int ml, .int (nI n)])), (aY, .inl ((D.1 100), cap, .inl fY)), (ra_32, .inl ((D.1 100), n, .inl fY))] := hD
        refine va_putF (D := D) (ci := 0) (v := .ref ra_32) (ty := (.array .byte)) (C := RJ0) (T := TJ0) (N := 4) hx hb hts in_J0 tyJ0 tyJ0_ok nmJ0 hown hK hP hD hS 0 rfl rfl 0 (by decide) (hts _ q_594) (fun _ h9 => h9) rfl hin rfl (by decide +kernel) rfl rfl (Nat.le_of_ble_eq_true rfl) dJ0_init_db425_35 (fun H locs hP hD hS => ?_)
        have hP : va_P D vwCl [(hS_, .inr (0, [.ref ra_32, .int 0, .int 0, .int 0])), (hB, .inr (1, [.ref aY, .int 0, .int ml, .int (nI n)])), (aY, .inl ((D.1 100), cap, .inl fY)), (ra_32, .inl ((D.1 100), n, .inl fY))] H := hP
        have hD : va_D A [(hS_, .inr (0, [.ref ra_32, .int 0, .int 0, .int 0])), (hB, .inr (1, [.ref aY, .int 0, .int ml, .int (nI n)])), (aY, .inl ((D.1 100), cap, .inl fY)), (ra_32, .inl ((D.1 100), n, .inl fY))] := hD
        refine lv_goto (tgt := 97) hx hb dJ0_init_db425_38 (by decide) ?_
        have hq : fY = strF n cap fY := by unfold strF; rw [if_neg c_3]
        have hP : va_P D vwCl [(hS_, .inr (0, [.ref ra_32, .int 0, .int 0, .int 0])), (hB, .inr (1, [.ref aY, .int 0, .int ml, .int (nI n)])), (aY, .inl ((D.1 100), cap, .inl fY)), (ra_32, .inl ((D.1 100), n, .inl (strF n cap fY)))] H := by rw [← hq]; exact hP
        have hD : va_D A [(hS_, .inr (0, [.ref ra_32, .int 0, .int 0, .int 0])), (hB, .inr (1, [.ref aY, .int 0, .int ml, .int (nI n)])), (aY, .inl ((D.1 100), cap, .inl fY)), (ra_32, .inl ((D.1 100), n, .inl (strF n cap fY)))] := by rw [← hq]; exact hD
        subst hQe
        subst hAe
        refine W.widen (k := 1) (n := n) (by omega) (by omega) ?_
        have hP9 := hP.sub (ws' := [(hS_, .inr (0, [.ref ra_32, .int 0, .int 0, .int 0])), (hB, .inr (1, [.ref aY, .int 0, .int ml, .int (nI n)])), (aY, .inl ((D.1 100), cap, .inl fY)), (ra_32, .inl ((D.1 100), n, .inl (strF n cap fY)))]) [0, 1, 2, 3] rfl
        have hD9 := hD.sub (ws' := [(hS_, .inr (0, [.ref ra_32, .int 0, .int 0, .int 0])), (hB, .inr (1, [.ref aY, .int 0, .int ml, .int (nI n)])), (aY, .inl ((D.1 100), cap, .inl fY)), (ra_32, .inl ((D.1 100), n, .inl (strF n cap fY)))]) [0, 1, 2, 3] (by decide) rfl
        exact W.vret hx hb hr (fun t ht hW => ⟨⟨ra_32, rfl, trivial, (by rw [ht]; exact hP9), (hD9)⟩, hS.F ht⟩) hS.2.2 dJ0_init_db425_97
  rw [hHe, hLe] at hgoal
  exact hgoal


set_option maxHeartbeats 4000000 in
set_option maxRecDepth 100000 in
theorem c_J0_init_81219 (l : Launch) (D : va_G) (hS_ : Nat) (hB : Nat) (aY : Nat) (ml : Int32) (n : Nat) (cap : Nat) (fY : Nat → Int32) (sz : Nat) (hn : n ≤ cap) (hcap : cap ≤ 1000) (hfit : ∀ j, fits .byte (.int (fY j)) = true) : Met l yJ0_init_81219 (Cond.code yJ0_init_81219 cJ0_init_81219 2 none :: lwAll) ({ frames := 4, cells := 1, slots := n, locals := 130 } : Room) (va_Pc [.ref hS_, .ref hB] (cPre D (lwTY D) [(hS_, .inr (0, [.null, .int 0, .int 0, .int 0])), (hB, .inr (1, [.ref aY, .int 0, .int ml, .int (nI n)])), (aY, .inl ((D.1 100), cap, .inl fY))] sz)) (va_Qv (fun (_ : Nat) => True) (fun (u : Nat) t => va_P D vwCl [(hS_, .inr (0, [.ref u, .int 0, .int 0, .int 0])), (hB, .inr (1, [.ref aY, .int 0, .int ml, .int (nI n)])), (aY, .inl ((D.1 100), cap, .inl fY)), (u, .inl ((D.1 100), n, .inl (strF n cap fY)))] t.heap ∧ va_D (va_A [(hS_, .inr (0, [.null, .int 0, .int 0, .int 0])), (hB, .inr (1, [.ref aY, .int 0, .int ml, .int (nI n)])), (aY, .inl ((D.1 100), cap, .inl fY))] sz) [(hS_, .inr (0, [.ref u, .int 0, .int 0, .int 0])), (hB, .inr (1, [.ref aY, .int 0, .int ml, .int (nI n)])), (aY, .inl ((D.1 100), cap, .inl fY)), (u, .inl ((D.1 100), n, .inl (strF n cap fY)))]) (va_A [(hS_, .inr (0, [.null, .int 0, .int 0, .int 0])), (hB, .inr (1, [.ref aY, .int 0, .int ml, .int (nI n)])), (aY, .inl ((D.1 100), cap, .inl fY))] sz)) 1 n (va_A [(hS_, .inr (0, [.null, .int 0, .int 0, .int 0])), (hB, .inr (1, [.ref aY, .int 0, .int ml, .int (nI n)])), (aY, .inl ((D.1 100), cap, .inl fY))] sz) := by
  refine Met.ofW (cc := cJ0_init_81219) (maxL := 2) (ret := none) (by decide) rfl ?_
  intro p e s m args below meth c s₁ B hml hv
  obtain ⟨rfl, hsz, hP, hK, hD0, hN, hZ⟩ := hv
  have hx := B.exec
  have hb := B.bytes
  have hr := B.returns
  have hts : ∀ wd ∈ lwAll, wd.before ([.ref hS_, .ref hB] : List Value).toArray s = true := fun wd h => atoms_spec (ws := (Cond.code yJ0_init_81219 cJ0_init_81219 2 none :: lwAll)) B.pre wd (List.mem_cons_of_mem _ h)
  have hown : s.vm.findClass RJ0 = some m.cls := findClass_of_methodNamed B.named
  have hlocks := B.notSynchronized
  have hin : meth.name = "<init>" := (name_of_methodNamed B.named B.method).1
  subst hsz
  have hD := hD0.self (sz := s.heap.size)
  have hl := lv_entry ([.ref hS_, .ref hB]) (n := 2) (Nat.le_of_ble_eq_true rfl)
  rw [lg_entry_eq]
  generalize (lg_sl ([.ref hS_, .ref hB]) ++ List.replicate (2 - (lg_sl ([.ref hS_, .ref hB])).length) Slot.unset).toArray = ls at hl ⊢
  have hl : lv_has ls 2 [(0, .ref hS_), (1, .ref hB)] := hl
  have hS : va_S (va_A [(hS_, .inr (0, [.null, .int 0, .int 0, .int 0])), (hB, .inr (1, [.ref aY, .int 0, .int ml, .int (nI n)])), (aY, .inl ((D.1 100), cap, .inl fY))] s.heap.size) s.heap s.heap [] := va_S.rf
  generalize hQe : MQ below (va_Qv (fun (_ : Nat) => True) (fun (u : Nat) t => va_P D vwCl [(hS_, .inr (0, [.ref u, .int 0, .int 0, .int 0])), (hB, .inr (1, [.ref aY, .int 0, .int ml, .int (nI n)])), (aY, .inl ((D.1 100), cap, .inl fY)), (u, .inl ((D.1 100), n, .inl (strF n cap fY)))] t.heap ∧ va_D (va_A [(hS_, .inr (0, [.null, .int 0, .int 0, .int 0])), (hB, .inr (1, [.ref aY, .int 0, .int ml, .int (nI n)])), (aY, .inl ((D.1 100), cap, .inl fY))] s.heap.size) [(hS_, .inr (0, [.ref u, .int 0, .int 0, .int 0])), (hB, .inr (1, [.ref aY, .int 0, .int ml, .int (nI n)])), (aY, .inl ((D.1 100), cap, .inl fY)), (u, .inl ((D.1 100), n, .inl (strF n cap fY)))]) (va_A [(hS_, .inr (0, [.null, .int 0, .int 0, .int 0])), (hB, .inr (1, [.ref aY, .int 0, .int ml, .int (nI n)])), (aY, .inl ((D.1 100), cap, .inl fY))] s.heap.size)) ([.ref hS_, .ref hB] : List Value).toArray s 1 n (va_A [(hS_, .inr (0, [.null, .int 0, .int 0, .int 0])), (hB, .inr (1, [.ref aY, .int 0, .int ml, .int (nI n)])), (aY, .inl ((D.1 100), cap, .inl fY))] s.heap.size) = Q
  have hP : va_P D vwCl [(hS_, .inr (0, [.null, .int 0, .int 0, .int 0])), (hB, .inr (1, [.ref aY, .int 0, .int ml, .int (nI n)])), (aY, .inl ((D.1 100), cap, .inl fY))] s.heap := hP
  obtain ⟨A, hAe⟩ : ∃ A, A = va_A [(hS_, .inr (0, [.null, .int 0, .int 0, .int 0])), (hB, .inr (1, [.ref aY, .int 0, .int ml, .int (nI n)])), (aY, .inl ((D.1 100), cap, .inl fY))] s.heap.size := ⟨_, rfl⟩
  rw [← hAe] at hD hZ hS
  have hA : ∀ q : Nat, s.heap.size ≤ q → A q := fun q h => by rw [hAe]; exact Or.inr h
  obtain ⟨H, hHe⟩ : ∃ H, H = s.heap := ⟨_, rfl⟩
  obtain ⟨locs, hLe⟩ : ∃ L : List Loc, L = [] := ⟨_, rfl⟩
  have hP : va_P D vwCl [(hS_, .inr (0, [.null, .int 0, .int 0, .int 0])), (hB, .inr (1, [.ref aY, .int 0, .int ml, .int (nI n)])), (aY, .inl ((D.1 100), cap, .inl fY))] H := by rw [hHe]; exact hP
  have hS : va_S A s.heap H locs := by rw [hHe, hLe]; exact hS
  have hgoal : W p l e ({ frames := 4, cells := 1, slots := n, locals := 130 } : Room) s m ([.ref hS_, .ref hB] : List Value).toArray below meth c H locs 0 0 Q (F0 m 0 ls []) := by
    clear hHe hLe
    refine lv_aload_n hx hb dJ0_init_81219_0 rfl (lv_at hl 0 rfl) ?_
    refine lv_aload_n hx hb dJ0_init_81219_1 rfl (lv_at hl 1 rfl) ?_
    refine lv_null hx hb dJ0_init_81219_2 ?_
    have hPc := hP.sub (ws' := [(hS_, .inr (0, [.null, .int 0, .int 0, .int 0])), (hB, .inr (1, [.ref aY, .int 0, .int ml, .int (nI n)])), (aY, .inl ((D.1 100), cap, .inl fY))]) [0, 1, 2] rfl
    have hDc := hD.sub (ws' := [(hS_, .inr (0, [.null, .int 0, .int 0, .int 0])), (hB, .inr (1, [.ref aY, .int 0, .int ml, .int (nI n)])), (aY, .inl ((D.1 100), cap, .inl fY))]) [0, 1, 2] (by decide) rfl
    have hFc := va_free (wc := [(hS_, .inr (0, [.null, .int 0, .int 0, .int 0])), (hB, .inr (1, [.ref aY, .int 0, .int ml, .int (nI n)])), (aY, .inl ((D.1 100), cap, .inl fY))]) hD hS hA [0, 1, 2] rfl
    refine va_callv (va_runI (As := [.ref hB, .null]) (rest := []) ⟨hx, hb, hml, hown, hts⟩ (c_J0_init_db425 l D hS_ hB aY ml n cap fY H.size (show n ≤ cap from (by omega)) (show cap ≤ 1000 from (by omega)) (show ∀ j, fits .byte (.int (fY j)) = true from (by assumption))) ⟨callB_of 2 hts (gi_sub q_482) rfl rfl rfl (hts _ q_87) (hts _ q_480) (by decide +kernel) ⟨Nat.le_of_ble_eq_true rfl, Nat.le_of_ble_eq_true rfl⟩, rfl, (hts _ q_481)⟩ ⟨cPre_blind, cPre_mk hPc hK hDc hN (lwZ_for hZ hS hFc)⟩ rfl rfl hl.1 rfl (lv_room (Nat.le_of_ble_eq_true rfl)) dJ0_init_81219_3 ⟨(show 0 + 1 ≤ 1 from (by omega)), (show 0 + n ≤ n from (by omega))⟩) hS (fun q _ h => hFc q h) hFc (fun u t H1 locs ht hvm hw hBk hz1 hk1 hS => ?_)
    obtain ⟨q_3, rfl⟩ : ∃ z, z = u := ⟨_, rfl⟩
    obtain ⟨hP1, hD1⟩ := hBk
    rw [ht] at hP1
    obtain ⟨hP, hD⟩ := va_join (wr := []) (w1 := [(hS_, .inr (0, [.ref q_3, .int 0, .int 0, .int 0])), (hB, .inr (1, [.ref aY, .int 0, .int ml, .int (nI n)])), (aY, .inl ((D.1 100), cap, .inl fY)), (q_3, .inl ((D.1 100), n, .inl (strF n cap fY)))]) hP hD [0, 1, 2] [] rfl rfl (by decide) (by decide) hk1 hFc hP1 hD1
    clear hPc hDc hFc hP1 hD1 hk1 hz1
    clear hvm ht; clear t
    generalize H1 = H at hP hS ⊢
    have hP : va_P D vwCl [(hS_, .inr (0, [.ref q_3, .int 0, .int 0, .int 0])), (hB, .inr (1, [.ref aY, .int 0, .int ml, .int (nI n)])), (aY, .inl ((D.1 100), cap, .inl fY)), (q_3, .inl ((D.1 100), n, .inl (strF n cap fY)))] H := hP
    have hD : va_D A [(hS_, .inr (0, [.ref q_3, .int 0, .int 0, .int 0])), (hB, .inr (1, [.ref aY, .int 0, .int ml, .int (nI n)])), (aY, .inl ((D.1 100), cap, .inl fY)), (q_3, .inl ((D.1 100), n, .inl (strF n cap fY)))] := hD
    subst hQe
    subst hAe
    refine W.widen (k := 1) (n := n) (by omega) (by omega) ?_
    have hP9 := hP.sub (ws' := [(hS_, .inr (0, [.ref q_3, .int 0, .int 0, .int 0])), (hB, .inr (1, [.ref aY, .int 0, .int ml, .int (nI n)])), (aY, .inl ((D.1 100), cap, .inl fY)), (q_3, .inl ((D.1 100), n, .inl (strF n cap fY)))]) [0, 1, 2, 3] rfl
    have hD9 := hD.sub (ws' := [(hS_, .inr (0, [.ref q_3, .int 0, .int 0, .int 0])), (hB, .inr (1, [.ref aY, .int 0, .int ml, .int (nI n)])), (aY, .inl ((D.1 100), cap, .inl fY)), (q_3, .inl ((D.1 100), n, .inl (strF n cap fY)))]) [0, 1, 2, 3] (by decide) rfl
    exact W.vret hx hb hr (fun t ht hW => ⟨⟨q_3, rfl, trivial, (by rw [ht]; exact hP9), (hD9)⟩, hS.F ht⟩) hS.2.2 dJ0_init_81219_6
  rw [hHe, hLe] at hgoal
  exact hgoal


set_option maxHeartbeats 4000000 in
set_option maxRecDepth 100000 in
theorem c_J4_toString_0e30d (l : Launch) (D : va_G) (hB : Nat) (aY : Nat) (ml : Int32) (n : Nat) (cap : Nat) (fY : Nat → Int32) (sz : Nat) (hn : n ≤ cap) (hcap : cap ≤ 1000) (hfit : ∀ j, fits .byte (.int (fY j)) = true) : Met l yJ4_toString_0e30d (Cond.code yJ4_toString_0e30d cJ4_toString_0e30d 1 (some (.object "java/lang/String")) :: lwAll) ({ frames := 5, cells := 2, slots := n + 4, locals := 151 } : Room) (va_Pc [.ref hB] (cPre D (lwTY D) [(hB, .inr (1, [.ref aY, .int 0, .int ml, .int (nI n)])), (aY, .inl ((D.1 100), cap, .inl fY))] sz)) (va_Qr (fun (_ : Nat) => True) (fun (q : Nat) (ra : Nat) t => va_P D vwCl [(hB, .inr (1, [.ref aY, .int 0, .int ml, .int (nI n)])), (aY, .inl ((D.1 100), cap, .inl fY)), (ra, .inr (0, [.ref q, .int 0, .int 0, .int 0])), (q, .inl ((D.1 100), n, .inl (strF n cap fY)))] t.heap ∧ va_D (va_A [(hB, .inr (1, [.ref aY, .int 0, .int ml, .int (nI n)])), (aY, .inl ((D.1 100), cap, .inl fY))] sz) [(hB, .inr (1, [.ref aY, .int 0, .int ml, .int (nI n)])), (aY, .inl ((D.1 100), cap, .inl fY)), (ra, .inr (0, [.ref q, .int 0, .int 0, .int 0])), (q, .inl ((D.1 100), n, .inl (strF n cap fY)))]) (va_A [(hB, .inr (1, [.ref aY, .int 0, .int ml, .int (nI n)])), (aY, .inl ((D.1 100), cap, .inl fY))] sz)) 2 (n + 4) (va_A [(hB, .inr (1, [.ref aY, .int 0, .int ml, .int (nI n)])), (aY, .inl ((D.1 100), cap, .inl fY))] sz) := by
  refine Met.ofW (cc := cJ4_toString_0e30d) (maxL := 1) (ret := (some (.object "java/lang/String"))) (by decide) rfl ?_
  intro p e s m args below meth c s₁ B hml hv
  obtain ⟨rfl, hsz, hP, hK, hD0, hN, hZ⟩ := hv
  have hx := B.exec
  have hb := B.bytes
  have hr := B.returns
  have hts : ∀ wd ∈ lwAll, wd.before ([.ref hB] : List Value).toArray s = true := fun wd h => atoms_spec (ws := (Cond.code yJ4_toString_0e30d cJ4_toString_0e30d 1 (some (.object "java/lang/String")) :: lwAll)) B.pre wd (List.mem_cons_of_mem _ h)
  have hown : s.vm.findClass RJ4 = some m.cls := findClass_of_methodNamed B.named
  have hlocks := B.notSynchronized
  subst hsz
  have hD := hD0.self (sz := s.heap.size)
  have hl := lv_entry ([.ref hB]) (n := 1) (Nat.le_of_ble_eq_true rfl)
  rw [lg_entry_eq]
  generalize (lg_sl ([.ref hB]) ++ List.replicate (1 - (lg_sl ([.ref hB])).length) Slot.unset).toArray = ls at hl ⊢
  have hl : lv_has ls 1 [(0, .ref hB)] := hl
  have hS : va_S (va_A [(hB, .inr (1, [.ref aY, .int 0, .int ml, .int (nI n)])), (aY, .inl ((D.1 100), cap, .inl fY))] s.heap.size) s.heap s.heap [] := va_S.rf
  generalize hQe : MQ below (va_Qr (fun (_ : Nat) => True) (fun (q : Nat) (ra : Nat) t => va_P D vwCl [(hB, .inr (1, [.ref aY, .int 0, .int ml, .int (nI n)])), (aY, .inl ((D.1 100), cap, .inl fY)), (ra, .inr (0, [.ref q, .int 0, .int 0, .int 0])), (q, .inl ((D.1 100), n, .inl (strF n cap fY)))] t.heap ∧ va_D (va_A [(hB, .inr (1, [.ref aY, .int 0, .int ml, .int (nI n)])), (aY, .inl ((D.1 100), cap, .inl fY))] s.heap.size) [(hB, .inr (1, [.ref aY, .int 0, .int ml, .int (nI n)])), (aY, .inl ((D.1 100), cap, .inl fY)), (ra, .inr (0, [.ref q, .int 0, .int 0, .int 0])), (q, .inl ((D.1 100), n, .inl (strF n cap fY)))]) (va_A [(hB, .inr (1, [.ref aY, .int 0, .int ml, .int (nI n)])), (aY, .inl ((D.1 100), cap, .inl fY))] s.heap.size)) ([.ref hB] : List Value).toArray s 2 (n + 4) (va_A [(hB, .inr (1, [.ref aY, .int 0, .int ml, .int (nI n)])), (aY, .inl ((D.1 100), cap, .inl fY))] s.heap.size) = Q
  have hP : va_P D vwCl [(hB, .inr (1, [.ref aY, .int 0, .int ml, .int (nI n)])), (aY, .inl ((D.1 100), cap, .inl fY))] s.heap := hP
  obtain ⟨A, hAe⟩ : ∃ A, A = va_A [(hB, .inr (1, [.ref aY, .int 0, .int ml, .int (nI n)])), (aY, .inl ((D.1 100), cap, .inl fY))] s.heap.size := ⟨_, rfl⟩
  rw [← hAe] at hD hZ hS
  have hA : ∀ q : Nat, s.heap.size ≤ q → A q := fun q h => by rw [hAe]; exact Or.inr h
  obtain ⟨H, hHe⟩ : ∃ H, H = s.heap := ⟨_, rfl⟩
  obtain ⟨locs, hLe⟩ : ∃ L : List Loc, L = [] := ⟨_, rfl⟩
  have hP : va_P D vwCl [(hB, .inr (1, [.ref aY, .int 0, .int ml, .int (nI n)])), (aY, .inl ((D.1 100), cap, .inl fY))] H := by rw [hHe]; exact hP
  have hS : va_S A s.heap H locs := by rw [hHe, hLe]; exact hS
  have hgoal : W p l e ({ frames := 5, cells := 2, slots := n + 4, locals := 151 } : Room) s m ([.ref hB] : List Value).toArray below meth c H locs 0 0 Q (F0 m 0 ls []) := by
    clear hHe hLe
    refine va_new (ci := 0) (fs := [.null, .int 0, .int 0, .int 0]) (C := RJ0) (T := TJ0) (N := 4) hx hb hts in_J0 tyJ0 tyJ0_ok hown (hts _ q_475) (hts _ q_476) (hts _ q_87) hK hP hD hS hA rfl (fun j hj => by rcases (show j = 0 ∨ j = 1 ∨ j = 2 ∨ j = 3 by omega) with rfl | rfl | rfl | rfl <;> rfl) (show 0 + 1 ≤ 2 from (by omega)) (show 0 + 4 ≤ (n + 4) from (by omega)) dJ4_toString_0e30d_0 (fun o_0 H hP hD hS => ?_)
    have hP : va_P D vwCl [(hB, .inr (1, [.ref aY, .int 0, .int ml, .int (nI n)])), (aY, .inl ((D.1 100), cap, .inl fY)), (o_0, .inr (0, [.null, .int 0, .int 0, .int 0]))] H := hP
    have hD : va_D A [(hB, .inr (1, [.ref aY, .int 0, .int ml, .int (nI n)])), (aY, .inl ((D.1 100), cap, .inl fY)), (o_0, .inr (0, [.null, .int 0, .int 0, .int 0]))] := hD
    refine lv_dup hx hb dJ4_toString_0e30d_3 rfl ?_
    refine lv_aload_n hx hb dJ4_toString_0e30d_4 rfl (lv_at hl 0 rfl) ?_
    have hPc := hP.sub (ws' := [(o_0, .inr (0, [.null, .int 0, .int 0, .int 0])), (hB, .inr (1, [.ref aY, .int 0, .int ml, .int (nI n)])), (aY, .inl ((D.1 100), cap, .inl fY))]) [2, 0, 1] rfl
    have hDc := hD.sub (ws' := [(o_0, .inr (0, [.null, .int 0, .int 0, .int 0])), (hB, .inr (1, [.ref aY, .int 0, .int ml, .int (nI n)])), (aY, .inl ((D.1 100), cap, .inl fY))]) [2, 0, 1] (by decide) rfl
    have hFc := va_free (wc := [(o_0, .inr (0, [.null, .int 0, .int 0, .int 0])), (hB, .inr (1, [.ref aY, .int 0, .int ml, .int (nI n)])), (aY, .inl ((D.1 100), cap, .inl fY))]) hD hS hA [2, 0, 1] rfl
    refine va_callv (va_runI (As := [.ref hB]) (rest := [.ref o_0]) ⟨hx, hb, hml, hown, hts⟩ (c_J0_init_81219 l D o_0 hB aY ml n cap fY H.size (show n ≤ cap from (by omega)) (show cap ≤ 1000 from (by omega)) (show ∀ j, fits .byte (.int (fY j)) = true from (by assumption))) ⟨callB_of 1 hts (gi_sub q_479) rfl rfl rfl (hts _ q_87) (hts _ q_477) (by decide +kernel) ⟨Nat.le_of_ble_eq_true rfl, Nat.le_of_ble_eq_true rfl⟩, rfl, (hts _ q_478)⟩ ⟨cPre_blind, cPre_mk hPc hK hDc hN (lwZ_for hZ hS hFc)⟩ rfl rfl hl.1 rfl (lv_room (Nat.le_of_ble_eq_true rfl)) dJ4_toString_0e30d_5 ⟨(show (0 + 1) + 1 ≤ 2 from (by omega)), (show (0 + 4) + n ≤ (n + 4) from (by omega))⟩) hS (fun q _ h => hFc q h) hFc (fun u t H1 locs ht hvm hw hBk hz1 hk1 hS => ?_)
    obtain ⟨q_5, rfl⟩ : ∃ z, z = u := ⟨_, rfl⟩
    obtain ⟨hP1, hD1⟩ := hBk
    rw [ht] at hP1
    obtain ⟨hP, hD⟩ := va_join (wr := []) (w1 := [(o_0, .inr (0, [.ref q_5, .int 0, .int 0, .int 0])), (hB, .inr (1, [.ref aY, .int 0, .int ml, .int (nI n)])), (aY, .inl ((D.1 100), cap, .inl fY)), (q_5, .inl ((D.1 100), n, .inl (strF n cap fY)))]) hP hD [2, 0, 1] [] rfl rfl (by decide) (by decide) hk1 hFc hP1 hD1
    clear hPc hDc hFc hP1 hD1 hk1 hz1
    clear hvm ht; clear t
    generalize H1 = H at hP hS ⊢
    have hP : va_P D vwCl [(o_0, .inr (0, [.ref q_5, .int 0, .int 0, .int 0])), (hB, .inr (1, [.ref aY, .int 0, .int ml, .int (nI n)])), (aY, .inl ((D.1 100), cap, .inl fY)), (q_5, .inl ((D.1 100), n, .inl (strF n cap fY)))] H := hP
    have hD : va_D A [(o_0, .inr (0, [.ref q_5, .int 0, .int 0, .int 0])), (hB, .inr (1, [.ref aY, .int 0, .int ml, .int (nI n)])), (aY, .inl ((D.1 100), cap, .inl fY)), (q_5, .inl ((D.1 100), n, .inl (strF n cap fY)))] := hD
    subst hQe
    subst hAe
    refine W.widen (k := 2) (n := n + 4) (by omega) (by omega) ?_
    have hP9 := hP.sub (ws' := [(hB, .inr (1, [.ref aY, .int 0, .int ml, .int (nI n)])), (aY, .inl ((D.1 100), cap, .inl fY)), (o_0, .inr (0, [.ref q_5, .int 0, .int 0, .int 0])), (q_5, .inl ((D.1 100), n, .inl (strF n cap fY)))]) [1, 2, 0, 3] rfl
    have hD9 := hD.sub (ws' := [(hB, .inr (1, [.ref aY, .int 0, .int ml, .int (nI n)])), (aY, .inl ((D.1 100), cap, .inl fY)), (o_0, .inr (0, [.ref q_5, .int 0, .int 0, .int 0])), (q_5, .inl ((D.1 100), n, .inl (strF n cap fY)))]) [1, 2, 0, 3] (by decide) rfl
    exact W.aret (v := .ref o_0) hx hb hr (by first | exact Or.inl ⟨_, rfl⟩ | exact Or.inr ⟨_, rfl⟩) (Or.inr ⟨_, rfl⟩) (fun t ht hW => ⟨⟨q_5, o_0, rfl, trivial, (by rw [ht]; exact hP9), (hD9)⟩, hS.F ht⟩) hS.2.2 dJ4_toString_0e30d_8
  rw [hHe, hLe] at hgoal
  exact hgoal


set_option maxHeartbeats 4000000 in
set_option maxRecDepth 100000 in
theorem c_X4_text (l : Launch) (D : va_G) (hX : Nat) (hW : Nat) (hF : Nat) (hA_ : Nat) (hT : Nat) (sc : Nat) (pa : Int32) (gu : Int32) (cl : Int32) (se : Int32) (rf : Int32) (aC : Nat) (aG : Nat) (aI : Nat) (hB : Nat) (aK : Nat) (aL : Nat) (aQ : Nat) (lo : Int32) (Ch : Nat) (ct : Int32) (aY : Nat) (ml : Int32) (n : Nat) (cap : Nat) (fY : Nat → Int32) (sz : Nat) (hn : n ≤ cap) (hcap : cap ≤ 1000) (hfit : ∀ j, fits .byte (.int (fY j)) = true) : Met l yX4_text (Cond.code yX4_text cX4_text 1 (some (.object "java/lang/String")) :: lwAll) ({ frames := 6, cells := 2, slots := n + 4, locals := 171 } : Room) (va_Pc [.ref hX] (cPre D (lwTY D) [(hX, .inr (11, [.ref hW, .ref hF, .ref hA_, .ref hT, .int (nI sc), .int pa, .int gu, .int cl, .int se, .int rf])), (hT, .inr (8, [.ref aC, .ref aG, .ref aI, .ref hB, .int lo, .ref aK, .ref aL, .ref aQ, .int (nI Ch), .int ct])), (hB, .inr (1, [.ref aY, .int 0, .int ml, .int (nI n)])), (aY, .inl ((D.1 100), cap, .inl fY))] sz)) (va_Qr (fun (_ : Nat) => True) (fun (q : Nat) (ra : Nat) t => va_P D vwCl [(hX, .inr (11, [.ref hW, .ref hF, .ref hA_, .ref hT, .int (nI sc), .int pa, .int gu, .int cl, .int se, .int rf])), (hT, .inr (8, [.ref aC, .ref aG, .ref aI, .ref hB, .int lo, .ref aK, .ref aL, .ref aQ, .int (nI Ch), .int ct])), (hB, .inr (1, [.ref aY, .int 0, .int ml, .int (nI n)])), (aY, .inl ((D.1 100), cap, .inl fY)), (ra, .inr (0, [.ref q, .int 0, .int 0, .int 0])), (q, .inl ((D.1 100), n, .inl (strF n cap fY)))] t.heap ∧ va_D (va_A [(hX, .inr (11, [.ref hW, .ref hF, .ref hA_, .ref hT, .int (nI sc), .int pa, .int gu, .int cl, .int se, .int rf])), (hT, .inr (8, [.ref aC, .ref aG, .ref aI, .ref hB, .int lo, .ref aK, .ref aL, .ref aQ, .int (nI Ch), .int ct])), (hB, .inr (1, [.ref aY, .int 0, .int ml, .int (nI n)])), (aY, .inl ((D.1 100), cap, .inl fY))] sz) [(hX, .inr (11, [.ref hW, .ref hF, .ref hA_, .ref hT, .int (nI sc), .int pa, .int gu, .int cl, .int se, .int rf])), (hT, .inr (8, [.ref aC, .ref aG, .ref aI, .ref hB, .int lo, .ref aK, .ref aL, .ref aQ, .int (nI Ch), .int ct])), (hB, .inr (1, [.ref aY, .int 0, .int ml, .int (nI n)])), (aY, .inl ((D.1 100), cap, .inl fY)), (ra, .inr (0, [.ref q, .int 0, .int 0, .int 0])), (q, .inl ((D.1 100), n, .inl (strF n cap fY)))]) (va_A [(hX, .inr (11, [.ref hW, .ref hF, .ref hA_, .ref hT, .int (nI sc), .int pa, .int gu, .int cl, .int se, .int rf])), (hT, .inr (8, [.ref aC, .ref aG, .ref aI, .ref hB, .int lo, .ref aK, .ref aL, .ref aQ, .int (nI Ch), .int ct])), (hB, .inr (1, [.ref aY, .int 0, .int ml, .int (nI n)])), (aY, .inl ((D.1 100), cap, .inl fY))] sz)) 2 (n + 4) (va_A [(hX, .inr (11, [.ref hW, .ref hF, .ref hA_, .ref hT, .int (nI sc), .int pa, .int gu, .int cl, .int se, .int rf])), (hT, .inr (8, [.ref aC, .ref aG, .ref aI, .ref hB, .int lo, .ref aK, .ref aL, .ref aQ, .int (nI Ch), .int ct])), (hB, .inr (1, [.ref aY, .int 0, .int ml, .int (nI n)])), (aY, .inl ((D.1 100), cap, .inl fY))] sz) := by
  refine Met.ofW (cc := cX4_text) (maxL := 1) (ret := (some (.object "java/lang/String"))) (by decide) rfl ?_
  intro p e s m args below meth c s₁ B hml hv
  obtain ⟨rfl, hsz, hP, hK, hD0, hN, hZ⟩ := hv
  have hx := B.exec
  have hb := B.bytes
  have hr := B.returns
  have hts : ∀ wd ∈ lwAll, wd.before ([.ref hX] : List Value).toArray s = true := fun wd h => atoms_spec (ws := (Cond.code yX4_text cX4_text 1 (some (.object "java/lang/String")) :: lwAll)) B.pre wd (List.mem_cons_of_mem _ h)
  have hown : s.vm.findClass RX4 = some m.cls := findClass_of_methodNamed B.named
  have hlocks := B.notSynchronized
  subst hsz
  have hD := hD0.self (sz := s.heap.size)
  have hl := lv_entry ([.ref hX]) (n := 1) (Nat.le_of_ble_eq_true rfl)
  rw [lg_entry_eq]
  generalize (lg_sl ([.ref hX]) ++ List.replicate (1 - (lg_sl ([.ref hX])).length) Slot.unset).toArray = ls at hl ⊢
  have hl : lv_has ls 1 [(0, .ref hX)] := hl
  have hS : va_S (va_A [(hX, .inr (11, [.ref hW, .ref hF, .ref hA_, .ref hT, .int (nI sc), .int pa, .int gu, .int cl, .int se, .int rf])), (hT, .inr (8, [.ref aC, .ref aG, .ref aI, .ref hB, .int lo, .ref aK, .ref aL, .ref aQ, .int (nI Ch), .int ct])), (hB, .inr (1, [.ref aY, .int 0, .int ml, .int (nI n)])), (aY, .inl ((D.1 100), cap, .inl fY))] s.heap.size) s.heap s.heap [] := va_S.rf
  generalize hQe : MQ below (va_Qr (fun (_ : Nat) => True) (fun (q : Nat) (ra : Nat) t => va_P D vwCl [(hX, .inr (11, [.ref hW, .ref hF, .ref hA_, .ref hT, .int (nI sc), .int pa, .int gu, .int cl, .int se, .int rf])), (hT, .inr (8, [.ref aC, .ref aG, .ref aI, .ref hB, .int lo, .ref aK, .ref aL, .ref aQ, .int (nI Ch), .int ct])), (hB, .inr (1, [.ref aY, .int 0, .int ml, .int (nI n)])), (aY, .inl ((D.1 100), cap, .inl fY)), (ra, .inr (0, [.ref q, .int 0, .int 0, .int 0])), (q, .inl ((D.1 100), n, .inl (strF n cap fY)))] t.heap ∧ va_D (va_A [(hX, .inr (11, [.ref hW, .ref hF, .ref hA_, .ref hT, .int (nI sc), .int pa, .int gu, .int cl, .int se, .int rf])), (hT, .inr (8, [.ref aC, .ref aG, .ref aI, .ref hB, .int lo, .ref aK, .ref aL, .ref aQ, .int (nI Ch), .int ct])), (hB, .inr (1, [.ref aY, .int 0, .int ml, .int (nI n)])), (aY, .inl ((D.1 100), cap, .inl fY))] s.heap.size) [(hX, .inr (11, [.ref hW, .ref hF, .ref hA_, .ref hT, .int (nI sc), .int pa, .int gu, .int cl, .int se, .int rf])), (hT, .inr (8, [.ref aC, .ref aG, .ref aI, .ref hB, .int lo, .ref aK, .ref aL, .ref aQ, .int (nI Ch), .int ct])), (hB, .inr (1, [.ref aY, .int 0, .int ml, .int (nI n)])), (aY, .inl ((D.1 100), cap, .inl fY)), (ra, .inr (0, [.ref q, .int 0, .int 0, .int 0])), (q, .inl ((D.1 100), n, .inl (strF n cap fY)))]) (va_A [(hX, .inr (11, [.ref hW, .ref hF, .ref hA_, .ref hT, .int (nI sc), .int pa, .int gu, .int cl, .int se, .int rf])), (hT, .inr (8, [.ref aC, .ref aG, .ref aI, .ref hB, .int lo, .ref aK, .ref aL, .ref aQ, .int (nI Ch), .int ct])), (hB, .inr (1, [.ref aY, .int 0, .int ml, .int (nI n)])), (aY, .inl ((D.1 100), cap, .inl fY))] s.heap.size)) ([.ref hX] : List Value).toArray s 2 (n + 4) (va_A [(hX, .inr (11, [.ref hW, .ref hF, .ref hA_, .ref hT, .int (nI sc), .int pa, .int gu, .int cl, .int se, .int rf])), (hT, .inr (8, [.ref aC, .ref aG, .ref aI, .ref hB, .int lo, .ref aK, .ref aL, .ref aQ, .int (nI Ch), .int ct])), (hB, .inr (1, [.ref aY, .int 0, .int ml, .int (nI n)])), (aY, .inl ((D.1 100), cap, .inl fY))] s.heap.size) = Q
  have hP : va_P D vwCl [(hX, .inr (11, [.ref hW, .ref hF, .ref hA_, .ref hT, .int (nI sc), .int pa, .int gu, .int cl, .int se, .int rf])), (hT, .inr (8, [.ref aC, .ref aG, .ref aI, .ref hB, .int lo, .ref aK, .ref aL, .ref aQ, .int (nI Ch), .int ct])), (hB, .inr (1, [.ref aY, .int 0, .int ml, .int (nI n)])), (aY, .inl ((D.1 100), cap, .inl fY))] s.heap := hP
  obtain ⟨A, hAe⟩ : ∃ A, A = va_A [(hX, .inr (11, [.ref hW, .ref hF, .ref hA_, .ref hT, .int (nI sc), .int pa, .int gu, .int cl, .int se, .int rf])), (hT, .inr (8, [.ref aC, .ref aG, .ref aI, .ref hB, .int lo, .ref aK, .ref aL, .ref aQ, .int (nI Ch), .int ct])), (hB, .inr (1, [.ref aY, .int 0, .int ml, .int (nI n)])), (aY, .inl ((D.1 100), cap, .inl fY))] s.heap.size := ⟨_, rfl⟩
  rw [← hAe] at hD hZ hS
  have hA : ∀ q : Nat, s.heap.size ≤ q → A q := fun q h => by rw [hAe]; exact Or.inr h
  obtain ⟨H, hHe⟩ : ∃ H, H = s.heap := ⟨_, rfl⟩
  obtain ⟨locs, hLe⟩ : ∃ L : List Loc, L = [] := ⟨_, rfl⟩
  have hP : va_P D vwCl [(hX, .inr (11, [.ref hW, .ref hF, .ref hA_, .ref hT, .int (nI sc), .int pa, .int gu, .int cl, .int se, .int rf])), (hT, .inr (8, [.ref aC, .ref aG, .ref aI, .ref hB, .int lo, .ref aK, .ref aL, .ref aQ, .int (nI Ch), .int ct])), (hB, .inr (1, [.ref aY, .int 0, .int ml, .int (nI n)])), (aY, .inl ((D.1 100), cap, .inl fY))] H := by rw [hHe]; exact hP
  have hS : va_S A s.heap H locs := by rw [hHe, hLe]; exact hS
  have hgoal : W p l e ({ frames := 6, cells := 2, slots := n + 4, locals := 171 } : Room) s m ([.ref hX] : List Value).toArray below meth c H locs 0 0 Q (F0 m 0 ls []) := by
    clear hHe hLe
    refine lv_aload_n hx hb dX4_text_0 rfl (lv_at hl 0 rfl) ?_
    refine va_get (D := D) (ci := 11) (v := .ref hT) (C := RX4) (T := TX4) (N := 10) hx hb hts in_X4 hown hK hP 0 rfl rfl 3 (by decide) (hts _ q_658) (fun _ h9 => h9) rfl dX4_text_1 ?_
    refine va_getN (D := D) (ci := 8) (v := .ref hB) (C := RX1) (T := TX1) (N := 10) hx hb hts in_X1 hown hK hP 1 rfl rfl 3 (by decide) (va_Nw.use rfl (hN.1 _ n_260)) (fun _ h9 => h9) rfl dX4_text_4 ?_
    have hPc := hP.sub (ws' := [(hB, .inr (1, [.ref aY, .int 0, .int ml, .int (nI n)])), (aY, .inl ((D.1 100), cap, .inl fY))]) [2, 3] rfl
    have hDc := hD.sub (ws' := [(hB, .inr (1, [.ref aY, .int 0, .int ml, .int (nI n)])), (aY, .inl ((D.1 100), cap, .inl fY))]) [2, 3] (by decide) rfl
    have hFc := va_free (wc := [(hB, .inr (1, [.ref aY, .int 0, .int ml, .int (nI n)])), (aY, .inl ((D.1 100), cap, .inl fY))]) hD hS hA [2, 3] rfl
    refine va_callr (va_runV (As := []) (rest := []) ⟨hx, hb, hml, hown, hts⟩ (c_J4_toString_0e30d l D hB aY ml n cap fY H.size (show n ≤ cap from (by omega)) (show cap ≤ 1000 from (by omega)) (show ∀ j, fits .byte (.int (fY j)) = true from (by assumption))) (cwV 0 hts (gi_V q_694 q_472 q_473 q_86 q_474) rfl rfl rfl (by decide +kernel) ⟨Nat.le_of_ble_eq_true rfl, Nat.le_of_ble_eq_true rfl⟩) ⟨cPre_blind, va_recv hK hP (ci := 1) (q0 := 2) rfl rfl, cPre_mk hPc hK hDc hN (lwZ_for hZ hS hFc)⟩ rfl rfl hl.1 rfl (lv_room (Nat.le_of_ble_eq_true rfl)) dX4_text_7 ⟨(show 0 + 2 ≤ 2 from (by omega)), (show 0 + (n + 4) ≤ (n + 4) from (by omega))⟩) hS (fun q _ h => hFc q h) hFc (fun u ra_7 t H1 locs ht hvm hw hBk hz1 hk1 hS => ?_)
    obtain ⟨q_7, rfl⟩ : ∃ z, z = u := ⟨_, rfl⟩
    obtain ⟨hP1, hD1⟩ := hBk
    rw [ht] at hP1
    obtain ⟨hP, hD⟩ := va_join (wr := [(hX, .inr (11, [.ref hW, .ref hF, .ref hA_, .ref hT, .int (nI sc), .int pa, .int gu, .int cl, .int se, .int rf])), (hT, .inr (8, [.ref aC, .ref aG, .ref aI, .ref hB, .int lo, .ref aK, .ref aL, .ref aQ, .int (nI Ch), .int ct]))]) (w1 := [(hB, .inr (1, [.ref aY, .int 0, .int ml, .int (nI n)])), (aY, .inl ((D.1 100), cap, .inl fY)), (ra_7, .inr (0, [.ref q_7, .int 0, .int 0, .int 0])), (q_7, .inl ((D.1 100), n, .inl (strF n cap fY)))]) hP hD [2, 3] [0, 1] rfl rfl (by decide) (by decide) hk1 hFc hP1 hD1
    clear hPc hDc hFc hP1 hD1 hk1 hz1
    clear hvm ht; clear t
    generalize H1 = H at hP hS ⊢
    have hP : va_P D vwCl [(hX, .inr (11, [.ref hW, .ref hF, .ref hA_, .ref hT, .int (nI sc), .int pa, .int gu, .int cl, .int se, .int rf])), (hT, .inr (8, [.ref aC, .ref aG, .ref aI, .ref hB, .int lo, .ref aK, .ref aL, .ref aQ, .int (nI Ch), .int ct])), (hB, .inr (1, [.ref aY, .int 0, .int ml, .int (nI n)])), (aY, .inl ((D.1 100), cap, .inl fY)), (ra_7, .inr (0, [.ref q_7, .int 0, .int 0, .int 0])), (q_7, .inl ((D.1 100), n, .inl (strF n cap fY)))] H := hP
    have hD : va_D A [(hX, .inr (11, [.ref hW, .ref hF, .ref hA_, .ref hT, .int (nI sc), .int pa, .int gu, .int cl, .int se, .int rf])), (hT, .inr (8, [.ref aC, .ref aG, .ref aI, .ref hB, .int lo, .ref aK, .ref aL, .ref aQ, .int (nI Ch), .int ct])), (hB, .inr (1, [.ref aY, .int 0, .int ml, .int (nI n)])), (aY, .inl ((D.1 100), cap, .inl fY)), (ra_7, .inr (0, [.ref q_7, .int 0, .int 0, .int 0])), (q_7, .inl ((D.1 100), n, .inl (strF n cap fY)))] := hD
    subst hQe
    subst hAe
    refine W.widen (k := 2) (n := n + 4) (by omega) (by omega) ?_
    have hP9 := hP.sub (ws' := [(hX, .inr (11, [.ref hW, .ref hF, .ref hA_, .ref hT, .int (nI sc), .int pa, .int gu, .int cl, .int se, .int rf])), (hT, .inr (8, [.ref aC, .ref aG, .ref aI, .ref hB, .int lo, .ref aK, .ref aL, .ref aQ, .int (nI Ch), .int ct])), (hB, .inr (1, [.ref aY, .int 0, .int ml, .int (nI n)])), (aY, .inl ((D.1 100), cap, .inl fY)), (ra_7, .inr (0, [.ref q_7, .int 0, .int 0, .int 0])), (q_7, .inl ((D.1 100), n, .inl (strF n cap fY)))]) [0, 1, 2, 3, 4, 5] rfl
    have hD9 := hD.sub (ws' := [(hX, .inr (11, [.ref hW, .ref hF, .ref hA_, .ref hT, .int (nI sc), .int pa, .int gu, .int cl, .int se, .int rf])), (hT, .inr (8, [.ref aC, .ref aG, .ref aI, .ref hB, .int lo, .ref aK, .ref aL, .ref aQ, .int (nI Ch), .int ct])), (hB, .inr (1, [.ref aY, .int 0, .int ml, .int (nI n)])), (aY, .inl ((D.1 100), cap, .inl fY)), (ra_7, .inr (0, [.ref q_7, .int 0, .int 0, .int 0])), (q_7, .inl ((D.1 100), n, .inl (strF n cap fY)))]) [0, 1, 2, 3, 4, 5] (by decide) rfl
    exact W.aret (v := .ref ra_7) hx hb hr (by first | exact Or.inl ⟨_, rfl⟩ | exact Or.inr ⟨_, rfl⟩) (Or.inr ⟨_, rfl⟩) (fun t ht hW => ⟨⟨q_7, ra_7, rfl, trivial, (by rw [ht]; exact hP9), (hD9)⟩, hS.F ht⟩) hS.2.2 dX4_text_10
  rw [hHe, hLe] at hgoal
  exact hgoal
