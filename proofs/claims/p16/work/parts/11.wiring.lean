def F_X4_holds (x0 : Int32) (x1 : Int32) : Int32 := (if ((x0 >>> (x1 &&& 31)) &&& 1) = 1 then 1 else 0)
set_option maxHeartbeats 4000000 in
set_option maxRecDepth 100000 in
theorem c_X4_holds (l : Launch) (D : va_G) (x0 : Int32) (x1 : Int32) (sz : Nat)  : Met l yX4_holds (Cond.code yX4_holds cX4_holds 2 (some .boolean) :: lwAll) ({ frames := 0, cells := 0, slots := 0, locals := 0 } : Room) (va_Pc [.int x0, .int x1] (cPre D (lwTY D) [] sz)) (va_Qi (fun (r : Int32) (_ : Unit) => r = (F_X4_holds x0 x1) ∧ (r = 0 ∨ r = 1)) (fun _ _ => True) (fun q : Nat => sz ≤ q)) 0 0 (fun q : Nat => sz ≤ q) := by
  refine Met.ofW (cc := cX4_holds) (maxL := 2) (ret := (some .boolean)) (by decide) rfl ?_
  intro p e s m args below meth c s₁ B hml hv
  obtain ⟨rfl, hsz, hP, hK, hD0, hN, hZ⟩ := hv
  have hx := B.exec
  have hb := B.bytes
  have hr := B.returns
  have hts : ∀ wd ∈ lwAll, wd.before ([.int x0, .int x1] : List Value).toArray s = true := fun wd h => atoms_spec (ws := (Cond.code yX4_holds cX4_holds 2 (some .boolean) :: lwAll)) B.pre wd (List.mem_cons_of_mem _ h)
  have hown : s.vm.findClass RX4 = some m.cls := findClass_of_methodNamed B.named
  have hlocks := B.notSynchronized
  subst hsz
  have hD := hD0.self (sz := s.heap.size)
  have hl := lv_entry ([.int x0, .int x1]) (n := 2) (Nat.le_of_ble_eq_true rfl)
  rw [lg_entry_eq]
  generalize (lg_sl ([.int x0, .int x1]) ++ List.replicate (2 - (lg_sl ([.int x0, .int x1])).length) Slot.unset).toArray = ls at hl ⊢
  have hl : lv_has ls 2 [(0, .int x0), (1, .int x1)] := hl
  have hS : va_S (fun q : Nat => s.heap.size ≤ q) s.heap s.heap [] := va_S.rf
  generalize hQe : MQ below (va_Qi (fun (r : Int32) (_ : Unit) => r = (F_X4_holds x0 x1) ∧ (r = 0 ∨ r = 1)) (fun _ _ => True) (fun q : Nat => s.heap.size ≤ q)) ([.int x0, .int x1] : List Value).toArray s 0 0 (fun q : Nat => s.heap.size ≤ q) = Q
  have hP : va_P D vwCl [] s.heap := hP
  obtain ⟨A, hAe⟩ : ∃ A, A = va_A [] s.heap.size := ⟨_, rfl⟩
  rw [← hAe] at hD hZ
  have hA : ∀ q : Nat, s.heap.size ≤ q → A q := fun q h => by rw [hAe]; exact Or.inr h
  obtain ⟨H, hHe⟩ : ∃ H, H = s.heap := ⟨_, rfl⟩
  obtain ⟨locs, hLe⟩ : ∃ L : List Loc, L = [] := ⟨_, rfl⟩
  have hP : va_P D vwCl [] H := by rw [hHe]; exact hP
  have hS : va_S (fun q : Nat => s.heap.size ≤ q) s.heap H locs := by rw [hHe, hLe]; exact hS
  have hgoal : W p l e ({ frames := 0, cells := 0, slots := 0, locals := 0 } : Room) s m ([.int x0, .int x1] : List Value).toArray below meth c H locs 0 0 Q (F0 m 0 ls []) := by
    clear hHe hLe
    refine lv_iload_n hx hb dX4_holds_0 rfl (lv_at hl 0 rfl) ?_
    refine lv_iload_n hx hb dX4_holds_1 rfl (lv_at hl 1 rfl) ?_
    refine lv_ishr hx hb dX4_holds_2 ?_
    refine lv_iconst (v := 1) hx hb dX4_holds_3 (by decide) ?_
    refine lv_iand hx hb dX4_holds_4 ?_
    refine lv_iconst (v := 1) hx hb dX4_holds_5 (by decide) ?_
    refine lv_icmp_ne (tgt := 13) hx hb dX4_holds_6 (by decide) (fun c_1 => ?_) (fun c_1 => ?_)
    · refine lv_iconst (v := 0) hx hb dX4_holds_13 (by decide) ?_
      subst hQe
      exact W.zret (ty := .boolean) (v := 0) hx hb hr (zb_narrow zb_0) (fun t ht hW => ⟨⟨0, (), rfl, ⟨(by unfold F_X4_holds; rw [if_neg c_1]), zb_0⟩, trivial⟩, hS.F ht⟩) hS.2.2 dX4_holds_14
    · refine lv_iconst (v := 1) hx hb dX4_holds_9 (by decide) ?_
      refine lv_goto (tgt := 14) hx hb dX4_holds_10 (by decide) ?_
      subst hQe
      exact W.zret (ty := .boolean) (v := 1) hx hb hr (zb_narrow zb_1) (fun t ht hW => ⟨⟨1, (), rfl, ⟨(by unfold F_X4_holds; rw [if_pos c_1]), zb_1⟩, trivial⟩, hS.F ht⟩) hS.2.2 dX4_holds_14
  rw [hHe, hLe] at hgoal
  exact hgoal

def F_X4_oneIf (x0 : Int32) : Int32 := (if x0 = 0 then 0 else 1)
set_option maxHeartbeats 4000000 in
set_option maxRecDepth 100000 in
theorem c_X4_oneIf (l : Launch) (D : va_G) (x0 : Int32) (sz : Nat)  : Met l yX4_oneIf (Cond.code yX4_oneIf cX4_oneIf 1 (some .int) :: lwAll) ({ frames := 0, cells := 0, slots := 0, locals := 0 } : Room) (va_Pc [.int x0] (cPre D (lwTY D) [] sz)) (va_Qi (fun (r : Int32) (_ : Unit) => r = (F_X4_oneIf x0)) (fun _ _ => True) (fun q : Nat => sz ≤ q)) 0 0 (fun q : Nat => sz ≤ q) := by
  refine Met.ofW (cc := cX4_oneIf) (maxL := 1) (ret := (some .int)) (by decide) rfl ?_
  intro p e s m args below meth c s₁ B hml hv
  obtain ⟨rfl, hsz, hP, hK, hD0, hN, hZ⟩ := hv
  have hx := B.exec
  have hb := B.bytes
  have hr := B.returns
  have hts : ∀ wd ∈ lwAll, wd.before ([.int x0] : List Value).toArray s = true := fun wd h => atoms_spec (ws := (Cond.code yX4_oneIf cX4_oneIf 1 (some .int) :: lwAll)) B.pre wd (List.mem_cons_of_mem _ h)
  have hown : s.vm.findClass RX4 = some m.cls := findClass_of_methodNamed B.named
  have hlocks := B.notSynchronized
  subst hsz
  have hD := hD0.self (sz := s.heap.size)
  have hl := lv_entry ([.int x0]) (n := 1) (Nat.le_of_ble_eq_true rfl)
  rw [lg_entry_eq]
  generalize (lg_sl ([.int x0]) ++ List.replicate (1 - (lg_sl ([.int x0])).length) Slot.unset).toArray = ls at hl ⊢
  have hl : lv_has ls 1 [(0, .int x0)] := hl
  have hS : va_S (fun q : Nat => s.heap.size ≤ q) s.heap s.heap [] := va_S.rf
  generalize hQe : MQ below (va_Qi (fun (r : Int32) (_ : Unit) => r = (F_X4_oneIf x0)) (fun _ _ => True) (fun q : Nat => s.heap.size ≤ q)) ([.int x0] : List Value).toArray s 0 0 (fun q : Nat => s.heap.size ≤ q) = Q
  have hP : va_P D vwCl [] s.heap := hP
  obtain ⟨A, hAe⟩ : ∃ A, A = va_A [] s.heap.size := ⟨_, rfl⟩
  rw [← hAe] at hD hZ
  have hA : ∀ q : Nat, s.heap.size ≤ q → A q := fun q h => by rw [hAe]; exact Or.inr h
  obtain ⟨H, hHe⟩ : ∃ H, H = s.heap := ⟨_, rfl⟩
  obtain ⟨locs, hLe⟩ : ∃ L : List Loc, L = [] := ⟨_, rfl⟩
  have hP : va_P D vwCl [] H := by rw [hHe]; exact hP
  have hS : va_S (fun q : Nat => s.heap.size ≤ q) s.heap H locs := by rw [hHe, hLe]; exact hS
  have hgoal : W p l e ({ frames := 0, cells := 0, slots := 0, locals := 0 } : Room) s m ([.int x0] : List Value).toArray below meth c H locs 0 0 Q (F0 m 0 ls []) := by
    clear hHe hLe
    refine lv_iload_n hx hb dX4_oneIf_0 rfl (lv_at hl 0 rfl) ?_
    refine lv_if_eq (tgt := 8) hx hb dX4_oneIf_1 (by decide) (fun c_1 => ?_) (fun c_1 => ?_)
    · refine lv_iconst (v := 0) hx hb dX4_oneIf_8 (by decide) ?_
      subst hQe
      exact W.iret (v := 0) hx hb hr (fun t ht hW => ⟨⟨0, (), rfl, (by unfold F_X4_oneIf; rw [if_pos c_1]), trivial⟩, hS.F ht⟩) hS.2.2 dX4_oneIf_9
    · refine lv_iconst (v := 1) hx hb dX4_oneIf_4 (by decide) ?_
      refine lv_goto (tgt := 9) hx hb dX4_oneIf_5 (by decide) ?_
      subst hQe
      exact W.iret (v := 1) hx hb hr (fun t ht hW => ⟨⟨1, (), rfl, (by unfold F_X4_oneIf; rw [if_neg c_1]), trivial⟩, hS.F ht⟩) hS.2.2 dX4_oneIf_9
  rw [hHe, hLe] at hgoal
  exact hgoal

def F_X4_isSize (x0 : Int32) : Int32 := (if x0 < 2 then 0 else (if 5 < x0 then 0 else 1))
set_option maxHeartbeats 4000000 in
set_option maxRecDepth 100000 in
theorem c_X4_isSize (l : Launch) (D : va_G) (x0 : Int32) (sz : Nat)  : Met l yX4_isSize (Cond.code yX4_isSize cX4_isSize 1 (some .boolean) :: lwAll) ({ frames := 0, cells := 0, slots := 0, locals := 0 } : Room) (va_Pc [.int x0] (cPre D (lwTY D) [] sz)) (va_Qi (fun (r : Int32) (_ : Unit) => r = (F_X4_isSize x0) ∧ (r = 0 ∨ r = 1)) (fun _ _ => True) (fun q : Nat => sz ≤ q)) 0 0 (fun q : Nat => sz ≤ q) := by
  refine Met.ofW (cc := cX4_isSize) (maxL := 1) (ret := (some .boolean)) (by decide) rfl ?_
  intro p e s m args below meth c s₁ B hml hv
  obtain ⟨rfl, hsz, hP, hK, hD0, hN, hZ⟩ := hv
  have hx := B.exec
  have hb := B.bytes
  have hr := B.returns
  have hts : ∀ wd ∈ lwAll, wd.before ([.int x0] : List Value).toArray s = true := fun wd h => atoms_spec (ws := (Cond.code yX4_isSize cX4_isSize 1 (some .boolean) :: lwAll)) B.pre wd (List.mem_cons_of_mem _ h)
  have hown : s.vm.findClass RX4 = some m.cls := findClass_of_methodNamed B.named
  have hlocks := B.notSynchronized
  subst hsz
  have hD := hD0.self (sz := s.heap.size)
  have hl := lv_entry ([.int x0]) (n := 1) (Nat.le_of_ble_eq_true rfl)
  rw [lg_entry_eq]
  generalize (lg_sl ([.int x0]) ++ List.replicate (1 - (lg_sl ([.int x0])).length) Slot.unset).toArray = ls at hl ⊢
  have hl : lv_has ls 1 [(0, .int x0)] := hl
  have hS : va_S (fun q : Nat => s.heap.size ≤ q) s.heap s.heap [] := va_S.rf
  generalize hQe : MQ below (va_Qi (fun (r : Int32) (_ : Unit) => r = (F_X4_isSize x0) ∧ (r = 0 ∨ r = 1)) (fun _ _ => True) (fun q : Nat => s.heap.size ≤ q)) ([.int x0] : List Value).toArray s 0 0 (fun q : Nat => s.heap.size ≤ q) = Q
  have hP : va_P D vwCl [] s.heap := hP
  obtain ⟨A, hAe⟩ : ∃ A, A = va_A [] s.heap.size := ⟨_, rfl⟩
  rw [← hAe] at hD hZ
  have hA : ∀ q : Nat, s.heap.size ≤ q → A q := fun q h => by rw [hAe]; exact Or.inr h
  obtain ⟨H, hHe⟩ : ∃ H, H = s.heap := ⟨_, rfl⟩
  obtain ⟨locs, hLe⟩ : ∃ L : List Loc, L = [] := ⟨_, rfl⟩
  have hP : va_P D vwCl [] H := by rw [hHe]; exact hP
  have hS : va_S (fun q : Nat => s.heap.size ≤ q) s.heap H locs := by rw [hHe, hLe]; exact hS
  have hgoal : W p l e ({ frames := 0, cells := 0, slots := 0, locals := 0 } : Room) s m ([.int x0] : List Value).toArray below meth c H locs 0 0 Q (F0 m 0 ls []) := by
    clear hHe hLe
    refine lv_iload_n hx hb dX4_isSize_0 rfl (lv_at hl 0 rfl) ?_
    refine lv_iconst (v := 2) hx hb dX4_isSize_1 (by decide) ?_
    refine lv_icmp_lt (tgt := 14) hx hb dX4_isSize_2 (by decide) (fun c_1 => ?_) (fun c_1 => ?_)
    · refine lv_iconst (v := 0) hx hb dX4_isSize_14 (by decide) ?_
      subst hQe
      exact W.zret (ty := .boolean) (v := 0) hx hb hr (zb_narrow zb_0) (fun t ht hW => ⟨⟨0, (), rfl, ⟨(by unfold F_X4_isSize; rw [if_pos c_1]), zb_0⟩, trivial⟩, hS.F ht⟩) hS.2.2 dX4_isSize_15
    · refine lv_iload_n hx hb dX4_isSize_5 rfl (lv_at hl 0 rfl) ?_
      refine lv_iconst (v := 5) hx hb dX4_isSize_6 (by decide) ?_
      refine lv_icmp_gt (tgt := 14) hx hb dX4_isSize_7 (by decide) (fun c_2 => ?_) (fun c_2 => ?_)
      · refine lv_iconst (v := 0) hx hb dX4_isSize_14 (by decide) ?_
        subst hQe
        exact W.zret (ty := .boolean) (v := 0) hx hb hr (zb_narrow zb_0) (fun t ht hW => ⟨⟨0, (), rfl, ⟨(by unfold F_X4_isSize; rw [if_neg c_1, if_pos c_2]), zb_0⟩, trivial⟩, hS.F ht⟩) hS.2.2 dX4_isSize_15
      · refine lv_iconst (v := 1) hx hb dX4_isSize_10 (by decide) ?_
        refine lv_goto (tgt := 15) hx hb dX4_isSize_11 (by decide) ?_
        subst hQe
        exact W.zret (ty := .boolean) (v := 1) hx hb hr (zb_narrow zb_1) (fun t ht hW => ⟨⟨1, (), rfl, ⟨(by unfold F_X4_isSize; rw [if_neg c_1, if_neg c_2]), zb_1⟩, trivial⟩, hS.F ht⟩) hS.2.2 dX4_isSize_15
  rw [hHe, hLe] at hgoal
  exact hgoal

def F_X3_hasKey (K : Nat) (x1 : Int32) : Int32 := (if x1 < 0 then 0 else (if (nI K) ≤ x1 then 0 else 1))
set_option maxHeartbeats 4000000 in
set_option maxRecDepth 100000 in
theorem c_X3_hasKey (l : Launch) (D : va_G) (hW : Nat) (R : Nat) (C : Nat) (K : Nat) (fi : Int32) (di : Int32) (br : Int32) (li : Int32) (x1 : Int32) (sz : Nat)  : Met l yX3_hasKey (Cond.code yX3_hasKey cX3_hasKey 2 (some .boolean) :: lwAll) ({ frames := 0, cells := 0, slots := 0, locals := 0 } : Room) (va_Pc [.ref hW, .int x1] (cPre D (lwTY D) [(hW, .inr (10, [.int (nI R), .int (nI C), .int (nI K), .int fi, .int di, .int br, .int li]))] sz)) (va_Qi (fun (r : Int32) (_ : Unit) => r = (F_X3_hasKey K x1) ∧ (r = 0 ∨ r = 1)) (fun _ _ => True) (fun q : Nat => sz ≤ q)) 0 0 (fun q : Nat => sz ≤ q) := by
  refine Met.ofW (cc := cX3_hasKey) (maxL := 2) (ret := (some .boolean)) (by decide) rfl ?_
  intro p e s m args below meth c s₁ B hml hv
  obtain ⟨rfl, hsz, hP, hK, hD0, hN, hZ⟩ := hv
  have hx := B.exec
  have hb := B.bytes
  have hr := B.returns
  have hts : ∀ wd ∈ lwAll, wd.before ([.ref hW, .int x1] : List Value).toArray s = true := fun wd h => atoms_spec (ws := (Cond.code yX3_hasKey cX3_hasKey 2 (some .boolean) :: lwAll)) B.pre wd (List.mem_cons_of_mem _ h)
  have hown : s.vm.findClass RX3 = some m.cls := findClass_of_methodNamed B.named
  have hlocks := B.notSynchronized
  subst hsz
  have hD := hD0.self (sz := s.heap.size)
  have hl := lv_entry ([.ref hW, .int x1]) (n := 2) (Nat.le_of_ble_eq_true rfl)
  rw [lg_entry_eq]
  generalize (lg_sl ([.ref hW, .int x1]) ++ List.replicate (2 - (lg_sl ([.ref hW, .int x1])).length) Slot.unset).toArray = ls at hl ⊢
  have hl : lv_has ls 2 [(0, .ref hW), (1, .int x1)] := hl
  have hS : va_S (fun q : Nat => s.heap.size ≤ q) s.heap s.heap [] := va_S.rf
  generalize hQe : MQ below (va_Qi (fun (r : Int32) (_ : Unit) => r = (F_X3_hasKey K x1) ∧ (r = 0 ∨ r = 1)) (fun _ _ => True) (fun q : Nat => s.heap.size ≤ q)) ([.ref hW, .int x1] : List Value).toArray s 0 0 (fun q : Nat => s.heap.size ≤ q) = Q
  have hP : va_P D vwCl [(hW, .inr (10, [.int (nI R), .int (nI C), .int (nI K), .int fi, .int di, .int br, .int li]))] s.heap := hP
  obtain ⟨A, hAe⟩ : ∃ A, A = va_A [(hW, .inr (10, [.int (nI R), .int (nI C), .int (nI K), .int fi, .int di, .int br, .int li]))] s.heap.size := ⟨_, rfl⟩
  rw [← hAe] at hD hZ
  have hA : ∀ q : Nat, s.heap.size ≤ q → A q := fun q h => by rw [hAe]; exact Or.inr h
  obtain ⟨H, hHe⟩ : ∃ H, H = s.heap := ⟨_, rfl⟩
  obtain ⟨locs, hLe⟩ : ∃ L : List Loc, L = [] := ⟨_, rfl⟩
  have hP : va_P D vwCl [(hW, .inr (10, [.int (nI R), .int (nI C), .int (nI K), .int fi, .int di, .int br, .int li]))] H := by rw [hHe]; exact hP
  have hS : va_S (fun q : Nat => s.heap.size ≤ q) s.heap H locs := by rw [hHe, hLe]; exact hS
  have hgoal : W p l e ({ frames := 0, cells := 0, slots := 0, locals := 0 } : Room) s m ([.ref hW, .int x1] : List Value).toArray below meth c H locs 0 0 Q (F0 m 0 ls []) := by
    clear hHe hLe
    refine lv_iload_n hx hb dX3_hasKey_0 rfl (lv_at hl 1 rfl) ?_
    refine lv_if_lt (tgt := 16) hx hb dX3_hasKey_1 (by decide) (fun c_1 => ?_) (fun c_1 => ?_)
    · refine lv_iconst (v := 0) hx hb dX3_hasKey_16 (by decide) ?_
      subst hQe
      exact W.zret (ty := .boolean) (v := 0) hx hb hr (zb_narrow zb_0) (fun t ht hW => ⟨⟨0, (), rfl, ⟨(by unfold F_X3_hasKey; rw [if_pos c_1]), zb_0⟩, trivial⟩, hS.F ht⟩) hS.2.2 dX3_hasKey_17
    · refine lv_iload_n hx hb dX3_hasKey_4 rfl (lv_at hl 1 rfl) ?_
      refine lv_aload_n hx hb dX3_hasKey_5 rfl (lv_at hl 0 rfl) ?_
      refine va_get (D := D) (ci := 10) (v := .int (nI K)) (C := RX3) (T := TX3) (N := 7) hx hb hts in_X3 hown hK hP 0 rfl rfl 2 (by decide) (hts _ q_132) (fun _ h9 => h9) rfl dX3_hasKey_6 ?_
      refine lv_icmp_ge (tgt := 16) hx hb dX3_hasKey_9 (by decide) (fun c_2 => ?_) (fun c_2 => ?_)
      · refine lv_iconst (v := 0) hx hb dX3_hasKey_16 (by decide) ?_
        subst hQe
        exact W.zret (ty := .boolean) (v := 0) hx hb hr (zb_narrow zb_0) (fun t ht hW => ⟨⟨0, (), rfl, ⟨(by unfold F_X3_hasKey; rw [if_neg c_1, if_pos c_2]), zb_0⟩, trivial⟩, hS.F ht⟩) hS.2.2 dX3_hasKey_17
      · refine lv_iconst (v := 1) hx hb dX3_hasKey_12 (by decide) ?_
        refine lv_goto (tgt := 17) hx hb dX3_hasKey_13 (by decide) ?_
        subst hQe
        exact W.zret (ty := .boolean) (v := 1) hx hb hr (zb_narrow zb_1) (fun t ht hW => ⟨⟨1, (), rfl, ⟨(by unfold F_X3_hasKey; rw [if_neg c_1, if_neg c_2]), zb_1⟩, trivial⟩, hS.F ht⟩) hS.2.2 dX3_hasKey_17
  rw [hHe, hLe] at hgoal
  exact hgoal

def F_X3_isSet (K : Nat) (x1 : Int32) : Int32 := (if x1 < 0 then 0 else (if ((1 : Int32) <<< ((nI K) &&& 31)) ≤ x1 then 0 else 1))
set_option maxHeartbeats 4000000 in
set_option maxRecDepth 100000 in
theorem c_X3_isSet (l : Launch) (D : va_G) (hW : Nat) (R : Nat) (C : Nat) (K : Nat) (fi : Int32) (di : Int32) (br : Int32) (li : Int32) (x1 : Int32) (sz : Nat)  : Met l yX3_isSet (Cond.code yX3_isSet cX3_isSet 2 (some .boolean) :: lwAll) ({ frames := 0, cells := 0, slots := 0, locals := 0 } : Room) (va_Pc [.ref hW, .int x1] (cPre D (lwTY D) [(hW, .inr (10, [.int (nI R), .int (nI C), .int (nI K), .int fi, .int di, .int br, .int li]))] sz)) (va_Qi (fun (r : Int32) (_ : Unit) => r = (F_X3_isSet K x1) ∧ (r = 0 ∨ r = 1)) (fun _ _ => True) (fun q : Nat => sz ≤ q)) 0 0 (fun q : Nat => sz ≤ q) := by
  refine Met.ofW (cc := cX3_isSet) (maxL := 2) (ret := (some .boolean)) (by decide) rfl ?_
  intro p e s m args below meth c s₁ B hml hv
  obtain ⟨rfl, hsz, hP, hK, hD0, hN, hZ⟩ := hv
  have hx := B.exec
  have hb := B.bytes
  have hr := B.returns
  have hts : ∀ wd ∈ lwAll, wd.before ([.ref hW, .int x1] : List Value).toArray s = true := fun wd h => atoms_spec (ws := (Cond.code yX3_isSet cX3_isSet 2 (some .boolean) :: lwAll)) B.pre wd (List.mem_cons_of_mem _ h)
  have hown : s.vm.findClass RX3 = some m.cls := findClass_of_methodNamed B.named
  have hlocks := B.notSynchronized
  subst hsz
  have hD := hD0.self (sz := s.heap.size)
  have hl := lv_entry ([.ref hW, .int x1]) (n := 2) (Nat.le_of_ble_eq_true rfl)
  rw [lg_entry_eq]
  generalize (lg_sl ([.ref hW, .int x1]) ++ List.replicate (2 - (lg_sl ([.ref hW, .int x1])).length) Slot.unset).toArray = ls at hl ⊢
  have hl : lv_has ls 2 [(0, .ref hW), (1, .int x1)] := hl
  have hS : va_S (fun q : Nat => s.heap.size ≤ q) s.heap s.heap [] := va_S.rf
  generalize hQe : MQ below (va_Qi (fun (r : Int32) (_ : Unit) => r = (F_X3_isSet K x1) ∧ (r = 0 ∨ r = 1)) (fun _ _ => True) (fun q : Nat => s.heap.size ≤ q)) ([.ref hW, .int x1] : List Value).toArray s 0 0 (fun q : Nat => s.heap.size ≤ q) = Q
  have hP : va_P D vwCl [(hW, .inr (10, [.int (nI R), .int (nI C), .int (nI K), .int fi, .int di, .int br, .int li]))] s.heap := hP
  obtain ⟨A, hAe⟩ : ∃ A, A = va_A [(hW, .inr (10, [.int (nI R), .int (nI C), .int (nI K), .int fi, .int di, .int br, .int li]))] s.heap.size := ⟨_, rfl⟩
  rw [← hAe] at hD hZ
  have hA : ∀ q : Nat, s.heap.size ≤ q → A q := fun q h => by rw [hAe]; exact Or.inr h
  obtain ⟨H, hHe⟩ : ∃ H, H = s.heap := ⟨_, rfl⟩
  obtain ⟨locs, hLe⟩ : ∃ L : List Loc, L = [] := ⟨_, rfl⟩
  have hP : va_P D vwCl [(hW, .inr (10, [.int (nI R), .int (nI C), .int (nI K), .int fi, .int di, .int br, .int li]))] H := by rw [hHe]; exact hP
  have hS : va_S (fun q : Nat => s.heap.size ≤ q) s.heap H locs := by rw [hHe, hLe]; exact hS
  have hgoal : W p l e ({ frames := 0, cells := 0, slots := 0, locals := 0 } : Room) s m ([.ref hW, .int x1] : List Value).toArray below meth c H locs 0 0 Q (F0 m 0 ls []) := by
    clear hHe hLe
    refine lv_iload_n hx hb dX3_isSet_0 rfl (lv_at hl 1 rfl) ?_
    refine lv_if_lt (tgt := 18) hx hb dX3_isSet_1 (by decide) (fun c_1 => ?_) (fun c_1 => ?_)
    · refine lv_iconst (v := 0) hx hb dX3_isSet_18 (by decide) ?_
      subst hQe
      exact W.zret (ty := .boolean) (v := 0) hx hb hr (zb_narrow zb_0) (fun t ht hW => ⟨⟨0, (), rfl, ⟨(by unfold F_X3_isSet; rw [if_pos c_1]), zb_0⟩, trivial⟩, hS.F ht⟩) hS.2.2 dX3_isSet_19
    · refine lv_iload_n hx hb dX3_isSet_4 rfl (lv_at hl 1 rfl) ?_
      refine lv_iconst (v := 1) hx hb dX3_isSet_5 (by decide) ?_
      refine lv_aload_n hx hb dX3_isSet_6 rfl (lv_at hl 0 rfl) ?_
      refine va_get (D := D) (ci := 10) (v := .int (nI K)) (C := RX3) (T := TX3) (N := 7) hx hb hts in_X3 hown hK hP 0 rfl rfl 2 (by decide) (hts _ q_132) (fun _ h9 => h9) rfl dX3_isSet_7 ?_
      refine lv_ishl hx hb dX3_isSet_10 ?_
      refine lv_icmp_ge (tgt := 18) hx hb dX3_isSet_11 (by decide) (fun c_2 => ?_) (fun c_2 => ?_)
      · refine lv_iconst (v := 0) hx hb dX3_isSet_18 (by decide) ?_
        subst hQe
        exact W.zret (ty := .boolean) (v := 0) hx hb hr (zb_narrow zb_0) (fun t ht hW => ⟨⟨0, (), rfl, ⟨(by unfold F_X3_isSet; rw [if_neg c_1, if_pos c_2]), zb_0⟩, trivial⟩, hS.F ht⟩) hS.2.2 dX3_isSet_19
      · refine lv_iconst (v := 1) hx hb dX3_isSet_14 (by decide) ?_
        refine lv_goto (tgt := 19) hx hb dX3_isSet_15 (by decide) ?_
        subst hQe
        exact W.zret (ty := .boolean) (v := 1) hx hb hr (zb_narrow zb_1) (fun t ht hW => ⟨⟨1, (), rfl, ⟨(by unfold F_X3_isSet; rw [if_neg c_1, if_neg c_2]), zb_1⟩, trivial⟩, hS.F ht⟩) hS.2.2 dX3_isSet_19
  rw [hHe, hLe] at hgoal
  exact hgoal

def F_X3_rowOf (C : Nat) (x1 : Int32) : Int32 := (if (nI C) ≤ 0 then 0 else x1 / (nI C))
set_option maxHeartbeats 4000000 in
set_option maxRecDepth 100000 in
theorem c_X3_rowOf (l : Launch) (D : va_G) (hW : Nat) (R : Nat) (C : Nat) (K : Nat) (fi : Int32) (di : Int32) (br : Int32) (li : Int32) (x1 : Int32) (sz : Nat)  : Met l yX3_rowOf (Cond.code yX3_rowOf cX3_rowOf 2 (some .int) :: lwAll) ({ frames := 0, cells := 0, slots := 0, locals := 0 } : Room) (va_Pc [.ref hW, .int x1] (cPre D (lwTY D) [(hW, .inr (10, [.int (nI R), .int (nI C), .int (nI K), .int fi, .int di, .int br, .int li]))] sz)) (va_Qi (fun (r : Int32) (_ : Unit) => r = (F_X3_rowOf C x1)) (fun _ _ => True) (fun q : Nat => sz ≤ q)) 0 0 (fun q : Nat => sz ≤ q) := by
  refine Met.ofW (cc := cX3_rowOf) (maxL := 2) (ret := (some .int)) (by decide) rfl ?_
  intro p e s m args below meth c s₁ B hml hv
  obtain ⟨rfl, hsz, hP, hK, hD0, hN, hZ⟩ := hv
  have hx := B.exec
  have hb := B.bytes
  have hr := B.returns
  have hts : ∀ wd ∈ lwAll, wd.before ([.ref hW, .int x1] : List Value).toArray s = true := fun wd h => atoms_spec (ws := (Cond.code yX3_rowOf cX3_rowOf 2 (some .int) :: lwAll)) B.pre wd (List.mem_cons_of_mem _ h)
  have hown : s.vm.findClass RX3 = some m.cls := findClass_of_methodNamed B.named
  have hlocks := B.notSynchronized
  subst hsz
  have hD := hD0.self (sz := s.heap.size)
  have hl := lv_entry ([.ref hW, .int x1]) (n := 2) (Nat.le_of_ble_eq_true rfl)
  rw [lg_entry_eq]
  generalize (lg_sl ([.ref hW, .int x1]) ++ List.replicate (2 - (lg_sl ([.ref hW, .int x1])).length) Slot.unset).toArray = ls at hl ⊢
  have hl : lv_has ls 2 [(0, .ref hW), (1, .int x1)] := hl
  have hS : va_S (fun q : Nat => s.heap.size ≤ q) s.heap s.heap [] := va_S.rf
  generalize hQe : MQ below (va_Qi (fun (r : Int32) (_ : Unit) => r = (F_X3_rowOf C x1)) (fun _ _ => True) (fun q : Nat => s.heap.size ≤ q)) ([.ref hW, .int x1] : List Value).toArray s 0 0 (fun q : Nat => s.heap.size ≤ q) = Q
  have hP : va_P D vwCl [(hW, .inr (10, [.int (nI R), .int (nI C), .int (nI K), .int fi, .int di, .int br, .int li]))] s.heap := hP
  obtain ⟨A, hAe⟩ : ∃ A, A = va_A [(hW, .inr (10, [.int (nI R), .int (nI C), .int (nI K), .int fi, .int di, .int br, .int li]))] s.heap.size := ⟨_, rfl⟩
  rw [← hAe] at hD hZ
  have hA : ∀ q : Nat, s.heap.size ≤ q → A q := fun q h => by rw [hAe]; exact Or.inr h
  obtain ⟨H, hHe⟩ : ∃ H, H = s.heap := ⟨_, rfl⟩
  obtain ⟨locs, hLe⟩ : ∃ L : List Loc, L = [] := ⟨_, rfl⟩
  have hP : va_P D vwCl [(hW, .inr (10, [.int (nI R), .int (nI C), .int (nI K), .int fi, .int di, .int br, .int li]))] H := by rw [hHe]; exact hP
  have hS : va_S (fun q : Nat => s.heap.size ≤ q) s.heap H locs := by rw [hHe, hLe]; exact hS
  have hgoal : W p l e ({ frames := 0, cells := 0, slots := 0, locals := 0 } : Room) s m ([.ref hW, .int x1] : List Value).toArray below meth c H locs 0 0 Q (F0 m 0 ls []) := by
    clear hHe hLe
    refine lv_aload_n hx hb dX3_rowOf_0 rfl (lv_at hl 0 rfl) ?_
    refine va_get (D := D) (ci := 10) (v := .int (nI C)) (C := RX3) (T := TX3) (N := 7) hx hb hts in_X3 hown hK hP 0 rfl rfl 1 (by decide) (hts _ q_130) (fun _ h9 => h9) rfl dX3_rowOf_1 ?_
    refine lv_if_le (tgt := 16) hx hb dX3_rowOf_4 (by decide) (fun c_1 => ?_) (fun c_1 => ?_)
    · refine lv_iconst (v := 0) hx hb dX3_rowOf_16 (by decide) ?_
      subst hQe
      exact W.iret (v := 0) hx hb hr (fun t ht hW => ⟨⟨0, (), rfl, (by unfold F_X3_rowOf; rw [if_pos c_1]), trivial⟩, hS.F ht⟩) hS.2.2 dX3_rowOf_17
    · refine lv_iload_n hx hb dX3_rowOf_7 rfl (lv_at hl 1 rfl) ?_
      refine lv_aload_n hx hb dX3_rowOf_8 rfl (lv_at hl 0 rfl) ?_
      refine va_get (D := D) (ci := 10) (v := .int (nI C)) (C := RX3) (T := TX3) (N := 7) hx hb hts in_X3 hown hK hP 0 rfl rfl 1 (by decide) (hts _ q_130) (fun _ h9 => h9) rfl dX3_rowOf_9 ?_
      refine lv_idiv hx hb dX3_rowOf_12 (fun h => c_1 (by rw [h]; decide)) ?_
      refine lv_goto (tgt := 17) hx hb dX3_rowOf_13 (by decide) ?_
      subst hQe
      exact W.iret (v := x1 / (nI C)) hx hb hr (fun t ht hW => ⟨⟨x1 / (nI C), (), rfl, (by unfold F_X3_rowOf; rw [if_neg c_1]), trivial⟩, hS.F ht⟩) hS.2.2 dX3_rowOf_17
  rw [hHe, hLe] at hgoal
  exact hgoal

def F_X3_columnsOf (C : Nat) (x1 : Int32) (x2 : Int32) : Int32 := (x1 >>> ((x2 * (nI C)) &&& 31)) &&& (((1 : Int32) <<< ((nI C) &&& 31)) - 1)
set_option maxHeartbeats 4000000 in
set_option maxRecDepth 100000 in
theorem c_X3_columnsOf (l : Launch) (D : va_G) (hW : Nat) (R : Nat) (C : Nat) (K : Nat) (fi : Int32) (di : Int32) (br : Int32) (li : Int32) (x1 : Int32) (x2 : Int32) (sz : Nat)  : Met l yX3_columnsOf (Cond.code yX3_columnsOf cX3_columnsOf 3 (some .int) :: lwAll) ({ frames := 0, cells := 0, slots := 0, locals := 0 } : Room) (va_Pc [.ref hW, .int x1, .int x2] (cPre D (lwTY D) [(hW, .inr (10, [.int (nI R), .int (nI C), .int (nI K), .int fi, .int di, .int br, .int li]))] sz)) (va_Qi (fun (r : Int32) (_ : Unit) => r = (F_X3_columnsOf C x1 x2)) (fun _ _ => True) (fun q : Nat => sz ≤ q)) 0 0 (fun q : Nat => sz ≤ q) := by
  refine Met.ofW (cc := cX3_columnsOf) (maxL := 3) (ret := (some .int)) (by decide) rfl ?_
  intro p e s m args below meth c s₁ B hml hv
  obtain ⟨rfl, hsz, hP, hK, hD0, hN, hZ⟩ := hv
  have hx := B.exec
  have hb := B.bytes
  have hr := B.returns
  have hts : ∀ wd ∈ lwAll, wd.before ([.ref hW, .int x1, .int x2] : List Value).toArray s = true := fun wd h => atoms_spec (ws := (Cond.code yX3_columnsOf cX3_columnsOf 3 (some .int) :: lwAll)) B.pre wd (List.mem_cons_of_mem _ h)
  have hown : s.vm.findClass RX3 = some m.cls := findClass_of_methodNamed B.named
  have hlocks := B.notSynchronized
  subst hsz
  have hD := hD0.self (sz := s.heap.size)
  have hl := lv_entry ([.ref hW, .int x1, .int x2]) (n := 3) (Nat.le_of_ble_eq_true rfl)
  rw [lg_entry_eq]
  generalize (lg_sl ([.ref hW, .int x1, .int x2]) ++ List.replicate (3 - (lg_sl ([.ref hW, .int x1, .int x2])).length) Slot.unset).toArray = ls at hl ⊢
  have hl : lv_has ls 3 [(0, .ref hW), (1, .int x1), (2, .int x2)] := hl
  have hS : va_S (fun q : Nat => s.heap.size ≤ q) s.heap s.heap [] := va_S.rf
  generalize hQe : MQ below (va_Qi (fun (r : Int32) (_ : Unit) => r = (F_X3_columnsOf C x1 x2)) (fun _ _ => True) (fun q : Nat => s.heap.size ≤ q)) ([.ref hW, .int x1, .int x2] : List Value).toArray s 0 0 (fun q : Nat => s.heap.size ≤ q) = Q
  have hP : va_P D vwCl [(hW, .inr (10, [.int (nI R), .int (nI C), .int (nI K), .int fi, .int di, .int br, .int li]))] s.heap := hP
  obtain ⟨A, hAe⟩ : ∃ A, A = va_A [(hW, .inr (10, [.int (nI R), .int (nI C), .int (nI K), .int fi, .int di, .int br, .int li]))] s.heap.size := ⟨_, rfl⟩
  rw [← hAe] at hD hZ
  have hA : ∀ q : Nat, s.heap.size ≤ q → A q := fun q h => by rw [hAe]; exact Or.inr h
  obtain ⟨H, hHe⟩ : ∃ H, H = s.heap := ⟨_, rfl⟩
  obtain ⟨locs, hLe⟩ : ∃ L : List Loc, L = [] := ⟨_, rfl⟩
  have hP : va_P D vwCl [(hW, .inr (10, [.int (nI R), .int (nI C), .int (nI K), .int fi, .int di, .int br, .int li]))] H := by rw [hHe]; exact hP
  have hS : va_S (fun q : Nat => s.heap.size ≤ q) s.heap H locs := by rw [hHe, hLe]; exact hS
  have hgoal : W p l e ({ frames := 0, cells := 0, slots := 0, locals := 0 } : Room) s m ([.ref hW, .int x1, .int x2] : List Value).toArray below meth c H locs 0 0 Q (F0 m 0 ls []) := by
    clear hHe hLe
    refine lv_iload_n hx hb dX3_columnsOf_0 rfl (lv_at hl 1 rfl) ?_
    refine lv_iload_n hx hb dX3_columnsOf_1 rfl (lv_at hl 2 rfl) ?_
    refine lv_aload_n hx hb dX3_columnsOf_2 rfl (lv_at hl 0 rfl) ?_
    refine va_get (D := D) (ci := 10) (v := .int (nI C)) (C := RX3) (T := TX3) (N := 7) hx hb hts in_X3 hown hK hP 0 rfl rfl 1 (by decide) (hts _ q_130) (fun _ h9 => h9) rfl dX3_columnsOf_3 ?_
    refine lv_imul hx hb dX3_columnsOf_6 ?_
    refine lv_ishr hx hb dX3_columnsOf_7 ?_
    refine lv_iconst (v := 1) hx hb dX3_columnsOf_8 (by decide) ?_
    refine lv_aload_n hx hb dX3_columnsOf_9 rfl (lv_at hl 0 rfl) ?_
    refine va_get (D := D) (ci := 10) (v := .int (nI C)) (C := RX3) (T := TX3) (N := 7) hx hb hts in_X3 hown hK hP 0 rfl rfl 1 (by decide) (hts _ q_130) (fun _ h9 => h9) rfl dX3_columnsOf_10 ?_
    refine lv_ishl hx hb dX3_columnsOf_13 ?_
    refine lv_iconst (v := 1) hx hb dX3_columnsOf_14 (by decide) ?_
    refine lv_isub hx hb dX3_columnsOf_15 ?_
    refine lv_iand hx hb dX3_columnsOf_16 ?_
    subst hQe
    exact W.iret (v := (x1 >>> ((x2 * (nI C)) &&& 31)) &&& (((1 : Int32) <<< ((nI C) &&& 31)) - 1)) hx hb hr (fun t ht hW => ⟨⟨(x1 >>> ((x2 * (nI C)) &&& 31)) &&& (((1 : Int32) <<< ((nI C) &&& 31)) - 1), (), rfl, (by rfl), trivial⟩, hS.F ht⟩) hS.2.2 dX3_columnsOf_17
  rw [hHe, hLe] at hgoal
  exact hgoal

def T_J6_bitCount_0f7a4_9 (x0 : Int32) : Int32 := x0 - (((x0.toUInt32 >>> ((1 : Int32).toUInt32 &&& Int32.toUInt32 31)).toInt32) &&& 1431655765)
def T_J6_bitCount_0f7a4_23 (x0 : Int32) : Int32 := ((T_J6_bitCount_0f7a4_9 x0) &&& 858993459) + ((((T_J6_bitCount_0f7a4_9 x0).toUInt32 >>> ((2 : Int32).toUInt32 &&& Int32.toUInt32 31)).toInt32) &&& 858993459)
def T_J6_bitCount_0f7a4_33 (x0 : Int32) : Int32 := ((T_J6_bitCount_0f7a4_23 x0) + (((T_J6_bitCount_0f7a4_23 x0).toUInt32 >>> ((4 : Int32).toUInt32 &&& Int32.toUInt32 31)).toInt32)) &&& 252645135
def T_J6_bitCount_0f7a4_40 (x0 : Int32) : Int32 := (T_J6_bitCount_0f7a4_33 x0) + (((T_J6_bitCount_0f7a4_33 x0).toUInt32 >>> ((8 : Int32).toUInt32 &&& Int32.toUInt32 31)).toInt32)
def T_J6_bitCount_0f7a4_47 (x0 : Int32) : Int32 := (T_J6_bitCount_0f7a4_40 x0) + (((T_J6_bitCount_0f7a4_40 x0).toUInt32 >>> ((16 : Int32).toUInt32 &&& Int32.toUInt32 31)).toInt32)
def F_J6_bitCount_0f7a4 (x0 : Int32) : Int32 := (T_J6_bitCount_0f7a4_47 x0) &&& 63
set_option maxHeartbeats 4000000 in
set_option maxRecDepth 100000 in
theorem c_J6_bitCount_0f7a4 (l : Launch) (D : va_G) (x0 : Int32) (sz : Nat)  : Met l yJ6_bitCount_0f7a4 (Cond.code yJ6_bitCount_0f7a4 cJ6_bitCount_0f7a4 1 (some .int) :: lwAll) ({ frames := 0, cells := 0, slots := 0, locals := 0 } : Room) (va_Pc [.int x0] (cPre D (lwTY D) [] sz)) (va_Qi (fun (r : Int32) (_ : Unit) => r = (F_J6_bitCount_0f7a4 x0)) (fun _ _ => True) (fun q : Nat => sz ≤ q)) 0 0 (fun q : Nat => sz ≤ q) := by
  refine Met.ofW (cc := cJ6_bitCount_0f7a4) (maxL := 1) (ret := (some .int)) (by decide) rfl ?_
  intro p e s m args below meth c s₁ B hml hv
  obtain ⟨rfl, hsz, hP, hK, hD0, hN, hZ⟩ := hv
  have hx := B.exec
  have hb := B.bytes
  have hr := B.returns
  have hts : ∀ wd ∈ lwAll, wd.before ([.int x0] : List Value).toArray s = true := fun wd h => atoms_spec (ws := (Cond.code yJ6_bitCount_0f7a4 cJ6_bitCount_0f7a4 1 (some .int) :: lwAll)) B.pre wd (List.mem_cons_of_mem _ h)
  have hown : s.vm.findClass RJ6 = some m.cls := findClass_of_methodNamed B.named
  have hlocks := B.notSynchronized
  subst hsz
  have hD := hD0.self (sz := s.heap.size)
  have hl := lv_entry ([.int x0]) (n := 1) (Nat.le_of_ble_eq_true rfl)
  rw [lg_entry_eq]
  generalize (lg_sl ([.int x0]) ++ List.replicate (1 - (lg_sl ([.int x0])).length) Slot.unset).toArray = ls at hl ⊢
  have hl : lv_has ls 1 [(0, .int x0)] := hl
  have hS : va_S (fun q : Nat => s.heap.size ≤ q) s.heap s.heap [] := va_S.rf
  generalize hQe : MQ below (va_Qi (fun (r : Int32) (_ : Unit) => r = (F_J6_bitCount_0f7a4 x0)) (fun _ _ => True) (fun q : Nat => s.heap.size ≤ q)) ([.int x0] : List Value).toArray s 0 0 (fun q : Nat => s.heap.size ≤ q) = Q
  have hP : va_P D vwCl [] s.heap := hP
  obtain ⟨A, hAe⟩ : ∃ A, A = va_A [] s.heap.size := ⟨_, rfl⟩
  rw [← hAe] at hD hZ
  have hA : ∀ q : Nat, s.heap.size ≤ q → A q := fun q h => by rw [hAe]; exact Or.inr h
  obtain ⟨H, hHe⟩ : ∃ H, H = s.heap := ⟨_, rfl⟩
  obtain ⟨locs, hLe⟩ : ∃ L : List Loc, L = [] := ⟨_, rfl⟩
  have hP : va_P D vwCl [] H := by rw [hHe]; exact hP
  have hS : va_S (fun q : Nat => s.heap.size ≤ q) s.heap H locs := by rw [hHe, hLe]; exact hS
  have hgoal : W p l e ({ frames := 0, cells := 0, slots := 0, locals := 0 } : Room) s m ([.int x0] : List Value).toArray below meth c H locs 0 0 Q (F0 m 0 ls []) := by
    clear hHe hLe
    refine lv_iload_n hx hb dJ6_bitCount_0f7a4_0 rfl (lv_at hl 0 rfl) ?_
    refine lv_iload_n hx hb dJ6_bitCount_0f7a4_1 rfl (lv_at hl 0 rfl) ?_
    refine lv_iconst (v := 1) hx hb dJ6_bitCount_0f7a4_2 (by decide) ?_
    refine lv_iushr (v := (x0.toUInt32 >>> ((1 : Int32).toUInt32 &&& Int32.toUInt32 31)).toInt32) hx hb dJ6_bitCount_0f7a4_3 rfl ?_
    refine lv_ldcw (v := 1431655765) hx hb hown (hts _ q_729) dJ6_bitCount_0f7a4_4 ?_
    refine lv_iand hx hb dJ6_bitCount_0f7a4_7 ?_
    refine lv_isub hx hb dJ6_bitCount_0f7a4_8 ?_
    refine lv_istore_n (lv' := [(0, .int (x0 - (((x0.toUInt32 >>> ((1 : Int32).toUInt32 &&& Int32.toUInt32 31)).toInt32) &&& 1431655765)))]) hx hb dJ6_bitCount_0f7a4_9 rfl hl (by decide) rfl (fun ls hl => ?_)
    have hl : lv_has ls 1 [(0, .int (T_J6_bitCount_0f7a4_9 x0))] := hl
    refine lv_iload_n hx hb dJ6_bitCount_0f7a4_10 rfl (lv_at hl 0 rfl) ?_
    refine lv_ldcw (v := 858993459) hx hb hown (hts _ q_730) dJ6_bitCount_0f7a4_11 ?_
    refine lv_iand hx hb dJ6_bitCount_0f7a4_14 ?_
    refine lv_iload_n hx hb dJ6_bitCount_0f7a4_15 rfl (lv_at hl 0 rfl) ?_
    refine lv_iconst (v := 2) hx hb dJ6_bitCount_0f7a4_16 (by decide) ?_
    refine lv_iushr (v := ((T_J6_bitCount_0f7a4_9 x0).toUInt32 >>> ((2 : Int32).toUInt32 &&& Int32.toUInt32 31)).toInt32) hx hb dJ6_bitCount_0f7a4_17 rfl ?_
    refine lv_ldcw (v := 858993459) hx hb hown (hts _ q_730) dJ6_bitCount_0f7a4_18 ?_
    refine lv_iand hx hb dJ6_bitCount_0f7a4_21 ?_
    refine lv_iadd hx hb dJ6_bitCount_0f7a4_22 ?_
    refine lv_istore_n (lv' := [(0, .int (((T_J6_bitCount_0f7a4_9 x0) &&& 858993459) + ((((T_J6_bitCount_0f7a4_9 x0).toUInt32 >>> ((2 : Int32).toUInt32 &&& Int32.toUInt32 31)).toInt32) &&& 858993459)))]) hx hb dJ6_bitCount_0f7a4_23 rfl hl (by decide) rfl (fun ls hl => ?_)
    have hl : lv_has ls 1 [(0, .int (T_J6_bitCount_0f7a4_23 x0))] := hl
    refine lv_iload_n hx hb dJ6_bitCount_0f7a4_24 rfl (lv_at hl 0 rfl) ?_
    refine lv_iload_n hx hb dJ6_bitCount_0f7a4_25 rfl (lv_at hl 0 rfl) ?_
    refine lv_iconst (v := 4) hx hb dJ6_bitCount_0f7a4_26 (by decide) ?_
    refine lv_iushr (v := ((T_J6_bitCount_0f7a4_23 x0).toUInt32 >>> ((4 : Int32).toUInt32 &&& Int32.toUInt32 31)).toInt32) hx hb dJ6_bitCount_0f7a4_27 rfl ?_
    refine lv_iadd hx hb dJ6_bitCount_0f7a4_28 ?_
    refine lv_ldcw (v := 252645135) hx hb hown (hts _ q_731) dJ6_bitCount_0f7a4_29 ?_
    refine lv_iand hx hb dJ6_bitCount_0f7a4_32 ?_
    refine lv_istore_n (lv' := [(0, .int (((T_J6_bitCount_0f7a4_23 x0) + (((T_J6_bitCount_0f7a4_23 x0).toUInt32 >>> ((4 : Int32).toUInt32 &&& Int32.toUInt32 31)).toInt32)) &&& 252645135))]) hx hb dJ6_bitCount_0f7a4_33 rfl hl (by decide) rfl (fun ls hl => ?_)
    have hl : lv_has ls 1 [(0, .int (T_J6_bitCount_0f7a4_33 x0))] := hl
    refine lv_iload_n hx hb dJ6_bitCount_0f7a4_34 rfl (lv_at hl 0 rfl) ?_
    refine lv_iload_n hx hb dJ6_bitCount_0f7a4_35 rfl (lv_at hl 0 rfl) ?_
    refine lv_bipush (v := 8) hx hb dJ6_bitCount_0f7a4_36 (by decide) ?_
    refine lv_iushr (v := ((T_J6_bitCount_0f7a4_33 x0).toUInt32 >>> ((8 : Int32).toUInt32 &&& Int32.toUInt32 31)).toInt32) hx hb dJ6_bitCount_0f7a4_38 rfl ?_
    refine lv_iadd hx hb dJ6_bitCount_0f7a4_39 ?_
    refine lv_istore_n (lv' := [(0, .int ((T_J6_bitCount_0f7a4_33 x0) + (((T_J6_bitCount_0f7a4_33 x0).toUInt32 >>> ((8 : Int32).toUInt32 &&& Int32.toUInt32 31)).toInt32)))]) hx hb dJ6_bitCount_0f7a4_40 rfl hl (by decide) rfl (fun ls hl => ?_)
    have hl : lv_has ls 1 [(0, .int (T_J6_bitCount_0f7a4_40 x0))] := hl
    refine lv_iload_n hx hb dJ6_bitCount_0f7a4_41 rfl (lv_at hl 0 rfl) ?_
    refine lv_iload_n hx hb dJ6_bitCount_0f7a4_42 rfl (lv_at hl 0 rfl) ?_
    refine lv_bipush (v := 16) hx hb dJ6_bitCount_0f7a4_43 (by decide) ?_
    refine lv_iushr (v := ((T_J6_bitCount_0f7a4_40 x0).toUInt32 >>> ((16 : Int32).toUInt32 &&& Int32.toUInt32 31)).toInt32) hx hb dJ6_bitCount_0f7a4_45 rfl ?_
    refine lv_iadd hx hb dJ6_bitCount_0f7a4_46 ?_
    refine lv_istore_n (lv' := [(0, .int ((T_J6_bitCount_0f7a4_40 x0) + (((T_J6_bitCount_0f7a4_40 x0).toUInt32 >>> ((16 : Int32).toUInt32 &&& Int32.toUInt32 31)).toInt32)))]) hx hb dJ6_bitCount_0f7a4_47 rfl hl (by decide) rfl (fun ls hl => ?_)
    have hl : lv_has ls 1 [(0, .int (T_J6_bitCount_0f7a4_47 x0))] := hl
    refine lv_iload_n hx hb dJ6_bitCount_0f7a4_48 rfl (lv_at hl 0 rfl) ?_
    refine lv_bipush (v := 63) hx hb dJ6_bitCount_0f7a4_49 (by decide) ?_
    refine lv_iand hx hb dJ6_bitCount_0f7a4_51 ?_
    subst hQe
    exact W.iret (v := (T_J6_bitCount_0f7a4_47 x0) &&& 63) hx hb hr (fun t ht hW => ⟨⟨(T_J6_bitCount_0f7a4_47 x0) &&& 63, (), rfl, (by rfl), trivial⟩, hS.F ht⟩) hS.2.2 dJ6_bitCount_0f7a4_52
  rw [hHe, hLe] at hgoal
  exact hgoal

def T_X3_nextOfSameSize_4 (x0 : Int32) : Int32 := x0 &&& (-x0)
def T_X3_nextOfSameSize_8 (x0 : Int32) : Int32 := x0 + (T_X3_nextOfSameSize_4 x0)
def F_X3_nextOfSameSize (x0 : Int32) : Int32 := (T_X3_nextOfSameSize_8 x0) ||| ((x0 ^^^ (T_X3_nextOfSameSize_8 x0)) >>> ((2 + (F_J6_bitCount_0f7a4 ((T_X3_nextOfSameSize_4 x0) - 1))) &&& 31))
set_option maxHeartbeats 4000000 in
set_option maxRecDepth 100000 in
theorem c_X3_nextOfSameSize (l : Launch) (D : va_G) (x0 : Int32) (sz : Nat)  : Met l yX3_nextOfSameSize (Cond.code yX3_nextOfSameSize cX3_nextOfSameSize 3 (some .int) :: lwAll) ({ frames := 1, cells := 0, slots := 0, locals := 20 } : Room) (va_Pc [.int x0] (cPre D (lwTY D) [] sz)) (va_Qi (fun (r : Int32) (_ : Unit) => r = (F_X3_nextOfSameSize x0)) (fun _ _ => True) (fun q : Nat => sz ≤ q)) 0 0 (fun q : Nat => sz ≤ q) := by
  refine Met.ofW (cc := cX3_nextOfSameSize) (maxL := 3) (ret := (some .int)) (by decide) rfl ?_
  intro p e s m args below meth c s₁ B hml hv
  obtain ⟨rfl, hsz, hP, hK, hD0, hN, hZ⟩ := hv
  have hx := B.exec
  have hb := B.bytes
  have hr := B.returns
  have hts : ∀ wd ∈ lwAll, wd.before ([.int x0] : List Value).toArray s = true := fun wd h => atoms_spec (ws := (Cond.code yX3_nextOfSameSize cX3_nextOfSameSize 3 (some .int) :: lwAll)) B.pre wd (List.mem_cons_of_mem _ h)
  have hown : s.vm.findClass RX3 = some m.cls := findClass_of_methodNamed B.named
  have hlocks := B.notSynchronized
  subst hsz
  have hD := hD0.self (sz := s.heap.size)
  have hl := lv_entry ([.int x0]) (n := 3) (Nat.le_of_ble_eq_true rfl)
  rw [lg_entry_eq]
  generalize (lg_sl ([.int x0]) ++ List.replicate (3 - (lg_sl ([.int x0])).length) Slot.unset).toArray = ls at hl ⊢
  have hl : lv_has ls 3 [(0, .int x0)] := hl
  have hS : va_S (fun q : Nat => s.heap.size ≤ q) s.heap s.heap [] := va_S.rf
  generalize hQe : MQ below (va_Qi (fun (r : Int32) (_ : Unit) => r = (F_X3_nextOfSameSize x0)) (fun _ _ => True) (fun q : Nat => s.heap.size ≤ q)) ([.int x0] : List Value).toArray s 0 0 (fun q : Nat => s.heap.size ≤ q) = Q
  have hP : va_P D vwCl [] s.heap := hP
  obtain ⟨A, hAe⟩ : ∃ A, A = va_A [] s.heap.size := ⟨_, rfl⟩
  rw [← hAe] at hD hZ
  have hA : ∀ q : Nat, s.heap.size ≤ q → A q := fun q h => by rw [hAe]; exact Or.inr h
  obtain ⟨H, hHe⟩ : ∃ H, H = s.heap := ⟨_, rfl⟩
  obtain ⟨locs, hLe⟩ : ∃ L : List Loc, L = [] := ⟨_, rfl⟩
  have hP : va_P D vwCl [] H := by rw [hHe]; exact hP
  have hS : va_S (fun q : Nat => s.heap.size ≤ q) s.heap H locs := by rw [hHe, hLe]; exact hS
  have hgoal : W p l e ({ frames := 1, cells := 0, slots := 0, locals := 20 } : Room) s m ([.int x0] : List Value).toArray below meth c H locs 0 0 Q (F0 m 0 ls []) := by
    clear hHe hLe
    refine lv_iload_n hx hb dX3_nextOfSameSize_0 rfl (lv_at hl 0 rfl) ?_
    refine lv_iload_n hx hb dX3_nextOfSameSize_1 rfl (lv_at hl 0 rfl) ?_
    refine lv_ineg hx hb dX3_nextOfSameSize_2 ?_
    refine lv_iand hx hb dX3_nextOfSameSize_3 ?_
    refine lv_istore_n (lv' := [(1, .int (x0 &&& (-x0))), (0, .int x0)]) hx hb dX3_nextOfSameSize_4 rfl hl (by decide) rfl (fun ls hl => ?_)
    have hl : lv_has ls 3 [(1, .int (T_X3_nextOfSameSize_4 x0)), (0, .int x0)] := hl
    refine lv_iload_n hx hb dX3_nextOfSameSize_5 rfl (lv_at hl 1 rfl) ?_
    refine lv_iload_n hx hb dX3_nextOfSameSize_6 rfl (lv_at hl 0 rfl) ?_
    refine lv_iadd hx hb dX3_nextOfSameSize_7 ?_
    refine lv_istore_n (lv' := [(2, .int (x0 + (T_X3_nextOfSameSize_4 x0))), (1, .int (T_X3_nextOfSameSize_4 x0)), (0, .int x0)]) hx hb dX3_nextOfSameSize_8 rfl hl (by decide) rfl (fun ls hl => ?_)
    have hl : lv_has ls 3 [(2, .int (T_X3_nextOfSameSize_8 x0)), (1, .int (T_X3_nextOfSameSize_4 x0)), (0, .int x0)] := hl
    refine lv_iload_n hx hb dX3_nextOfSameSize_9 rfl (lv_at hl 0 rfl) ?_
    refine lv_iload_n hx hb dX3_nextOfSameSize_10 rfl (lv_at hl 2 rfl) ?_
    refine lv_iload_n hx hb dX3_nextOfSameSize_11 rfl (lv_at hl 0 rfl) ?_
    refine lv_ixor hx hb dX3_nextOfSameSize_12 ?_
    refine lv_iconst (v := 2) hx hb dX3_nextOfSameSize_13 (by decide) ?_
    refine lv_iload_n hx hb dX3_nextOfSameSize_14 rfl (lv_at hl 1 rfl) ?_
    refine lv_iconst (v := 1) hx hb dX3_nextOfSameSize_15 (by decide) ?_
    refine lv_isub hx hb dX3_nextOfSameSize_16 ?_
    have hPc := hP.sub (ws' := []) [] rfl
    have hDc := hD.sub (ws' := []) [] (by decide) rfl
    have hFc := va_free (wc := []) hD (va_S_up hS hA) hA [] rfl
    refine va_calli (va_runS (As := [.int ((T_X3_nextOfSameSize_4 x0) - 1)]) (rest := [.int 2, .int (x0 ^^^ (T_X3_nextOfSameSize_8 x0)), .int (T_X3_nextOfSameSize_8 x0)]) ⟨hx, hb, hml, hown, hts⟩ (c_J6_bitCount_0f7a4 l D ((T_X3_nextOfSameSize_4 x0) - 1) H.size ) ⟨callB_of 1 hts (gi_sub q_728) rfl rfl rfl (hts _ q_101) (hts _ q_726) (by decide +kernel) ⟨Nat.le_of_ble_eq_true rfl, Nat.le_of_ble_eq_true rfl⟩, (hts _ q_727)⟩ ⟨cPre_blind, cPre_mk hPc hK hDc hN (lwZ_for hZ (va_S_up hS hA) hFc)⟩ rfl rfl hl.1 rfl (lv_room (Nat.le_of_ble_eq_true rfl)) dX3_nextOfSameSize_17 ⟨(Nat.le_of_ble_eq_true rfl), (Nat.le_of_ble_eq_true rfl)⟩) hS (fun q h1 h2 => absurd h2 (Nat.not_le.mpr h1)) (fun q h => Nat.le_trans hS.1 h) (fun r_17 u t H1 locs ht hvm hw hBk hz1 hk1 hS => ?_)
    have hP := va_P_ro hP hk1
    subst hw
    clear hBk hvm ht u hz1 hk1
    clear hPc hDc hFc; clear t
    generalize H1 = H at hP hS ⊢
    refine lv_iadd hx hb dX3_nextOfSameSize_20 ?_
    refine lv_ishr hx hb dX3_nextOfSameSize_21 ?_
    refine lv_ior hx hb dX3_nextOfSameSize_22 ?_
    subst hQe
    exact W.iret (v := (T_X3_nextOfSameSize_8 x0) ||| ((x0 ^^^ (T_X3_nextOfSameSize_8 x0)) >>> ((2 + (F_J6_bitCount_0f7a4 ((T_X3_nextOfSameSize_4 x0) - 1))) &&& 31))) hx hb hr (fun t ht hW => ⟨⟨(T_X3_nextOfSameSize_8 x0) ||| ((x0 ^^^ (T_X3_nextOfSameSize_8 x0)) >>> ((2 + (F_J6_bitCount_0f7a4 ((T_X3_nextOfSameSize_4 x0) - 1))) &&& 31)), (), rfl, (by rfl), trivial⟩, hS.F ht⟩) hS.2.2 dX3_nextOfSameSize_23
  rw [hHe, hLe] at hgoal
  exact hgoal

def S_X3_spread_20 (C : Nat) (x2 : Int32) (x3 : Int32) (a0 : Int32) (i1 : Nat) (a1 : Int32) : Int32 := (if ((F_X3_columnsOf C x3 (nI i1)) &&& a0) = 0 then a1 else a1 ||| (F_X3_columnsOf C x2 (nI i1)))
def L_X3_spread_6 (R : Nat) (C : Nat) (x2 : Int32) (x3 : Int32) : Nat → Nat → (Int32) → Int32
  | 0, i0, a0 => a0
  | n0 + 1, i0, a0 => (if (itr (fun i a => S_X3_spread_20 C x2 x3 a0 i a) R 0 a0) = a0 then a0 else L_X3_spread_6 R C x2 x3 n0 (i0 + 1) (itr (fun i a => S_X3_spread_20 C x2 x3 a0 i a) R 0 a0))
def F_X3_spread (R : Nat) (C : Nat) (x1 : Int32) (x2 : Int32) (x3 : Int32) (St : Nat) : Int32 := L_X3_spread_6 R C x2 x3 St 0 x1
set_option maxHeartbeats 4000000 in
set_option maxRecDepth 100000 in
theorem c_X3_spread (l : Launch) (D : va_G) (hW : Nat) (R : Nat) (C : Nat) (K : Nat) (fi : Int32) (di : Int32) (br : Int32) (li : Int32) (x1 : Int32) (x2 : Int32) (x3 : Int32) (St : Nat) (x4 : Int32) (sz : Nat) (hR : R ≤ 5) (hSt : St ≤ 5) (hx4 : x4 = nI St) : Met l yX3_spread (Cond.code yX3_spread cX3_spread 9 (some .int) :: lwAll) ({ frames := 1, cells := 0, slots := 0, locals := 22 } : Room) (va_Pc [.ref hW, .int x1, .int x2, .int x3, .int x4] (cPre D (lwTY D) [(hW, .inr (10, [.int (nI R), .int (nI C), .int (nI K), .int fi, .int di, .int br, .int li]))] sz)) (va_Qi (fun (r : Int32) (_ : Unit) => r = (F_X3_spread R C x1 x2 x3 St)) (fun _ _ => True) (fun q : Nat => sz ≤ q)) 0 0 (fun q : Nat => sz ≤ q) := by
  subst hx4
  refine Met.ofW (cc := cX3_spread) (maxL := 9) (ret := (some .int)) (by decide) rfl ?_
  intro p e s m args below meth c s₁ B hml hv
  obtain ⟨rfl, hsz, hP, hK, hD0, hN, hZ⟩ := hv
  have hx := B.exec
  have hb := B.bytes
  have hr := B.returns
  have hts : ∀ wd ∈ lwAll, wd.before ([.ref hW, .int x1, .int x2, .int x3, .int (nI St)] : List Value).toArray s = true := fun wd h => atoms_spec (ws := (Cond.code yX3_spread cX3_spread 9 (some .int) :: lwAll)) B.pre wd (List.mem_cons_of_mem _ h)
  have hown : s.vm.findClass RX3 = some m.cls := findClass_of_methodNamed B.named
  have hlocks := B.notSynchronized
  subst hsz
  have hD := hD0.self (sz := s.heap.size)
  have hl := lv_entry ([.ref hW, .int x1, .int x2, .int x3, .int (nI St)]) (n := 9) (Nat.le_of_ble_eq_true rfl)
  rw [lg_entry_eq]
  generalize (lg_sl ([.ref hW, .int x1, .int x2, .int x3, .int (nI St)]) ++ List.replicate (9 - (lg_sl ([.ref hW, .int x1, .int x2, .int x3, .int (nI St)])).length) Slot.unset).toArray = ls at hl ⊢
  have hl : lv_has ls 9 [(0, .ref hW), (1, .int x1), (2, .int x2), (3, .int x3), (4, .int (nI St))] := hl
  have hS : va_S (fun q : Nat => s.heap.size ≤ q) s.heap s.heap [] := va_S.rf
  generalize hQe : MQ below (va_Qi (fun (r : Int32) (_ : Unit) => r = (F_X3_spread R C x1 x2 x3 St)) (fun _ _ => True) (fun q : Nat => s.heap.size ≤ q)) ([.ref hW, .int x1, .int x2, .int x3, .int (nI St)] : List Value).toArray s 0 0 (fun q : Nat => s.heap.size ≤ q) = Q
  have hP : va_P D vwCl [(hW, .inr (10, [.int (nI R), .int (nI C), .int (nI K), .int fi, .int di, .int br, .int li]))] s.heap := hP
  obtain ⟨A, hAe⟩ : ∃ A, A = va_A [(hW, .inr (10, [.int (nI R), .int (nI C), .int (nI K), .int fi, .int di, .int br, .int li]))] s.heap.size := ⟨_, rfl⟩
  rw [← hAe] at hD hZ
  have hA : ∀ q : Nat, s.heap.size ≤ q → A q := fun q h => by rw [hAe]; exact Or.inr h
  obtain ⟨H, hHe⟩ : ∃ H, H = s.heap := ⟨_, rfl⟩
  obtain ⟨locs, hLe⟩ : ∃ L : List Loc, L = [] := ⟨_, rfl⟩
  have hP : va_P D vwCl [(hW, .inr (10, [.int (nI R), .int (nI C), .int (nI K), .int fi, .int di, .int br, .int li]))] H := by rw [hHe]; exact hP
  have hS : va_S (fun q : Nat => s.heap.size ≤ q) s.heap H locs := by rw [hHe, hLe]; exact hS
  have hgoal : W p l e ({ frames := 1, cells := 0, slots := 0, locals := 22 } : Room) s m ([.ref hW, .int x1, .int x2, .int x3, .int (nI St)] : List Value).toArray below meth c H locs 0 0 Q (F0 m 0 ls []) := by
    clear hHe hLe
    refine lv_iload_n hx hb dX3_spread_0 rfl (lv_at hl 1 rfl) ?_
    refine lv_istore (lv' := [(5, .int x1), (0, .ref hW), (1, .int x1), (2, .int x2), (3, .int x3), (4, .int (nI St))]) hx hb dX3_spread_1 hl (by decide) rfl (fun ls hl => ?_)
    refine lv_iconst (v := 0) hx hb dX3_spread_3 (by decide) ?_
    refine lv_istore (lv' := [(6, .int 0), (5, .int x1), (0, .ref hW), (1, .int x1), (2, .int x2), (3, .int x3), (4, .int (nI St))]) hx hb dX3_spread_4 hl (by decide) rfl (fun ls hl => ?_)
    have lp_6 : ∀ (n0 i0 : Nat), i0 + n0 = St → ∀ (a0 : Int32) (H : Heap) (locs : List Loc) (ls : Array Slot), va_P D vwCl [(hW, .inr (10, [.int (nI R), .int (nI C), .int (nI K), .int fi, .int di, .int br, .int li]))] H → va_D A [(hW, .inr (10, [.int (nI R), .int (nI C), .int (nI K), .int fi, .int di, .int br, .int li]))] → va_S (fun q : Nat => s.heap.size ≤ q) s.heap H locs → lv_has ls 9 [(0, .ref hW), (1, .int x1), (2, .int x2), (3, .int x3), (4, .int (nI St)), (5, .int a0), (6, .int (nI i0))] → (F_X3_spread R C x1 x2 x3 St) = L_X3_spread_6 R C x2 x3 n0 i0 a0 → W p l e ({ frames := 1, cells := 0, slots := 0, locals := 22 } : Room) s m ([.ref hW, .int x1, .int x2, .int x3, .int (nI St)] : List Value).toArray below meth c H locs 0 0 Q (F0 m 6 ls []) := by
      intro n0
      induction n0 with
      | zero =>
        intro i0 hi0 a0 H locs ls hP hD hS hl hE0
        have he0 : i0 = St := by omega
        refine lv_iload hx hb dX3_spread_6 (lv_at hl 6 rfl) ?_
        refine lv_iload hx hb dX3_spread_8 (lv_at hl 4 rfl) ?_
        refine lv_icmp_ge (tgt := 80) hx hb dX3_spread_10 (by decide) (fun c_1 => ?_) (fun c_1 => ?_)
        · refine lv_iload hx hb dX3_spread_80 (lv_at hl 5 rfl) ?_
          subst hQe
          exact W.iret (v := a0) hx hb hr (fun t ht hW => ⟨⟨a0, (), rfl, (by rw [hE0, L_X3_spread_6]), trivial⟩, hS.F ht⟩) hS.2.2 dX3_spread_82
        · exact absurd (nI_le (a := St) (b := i0) (by omega) (by omega)) c_1
      | succ n0 ih0 =>
        intro i0 hi0 a0 H locs ls hP hD hS hl hE0
        refine lv_iload hx hb dX3_spread_6 (lv_at hl 6 rfl) ?_
        refine lv_iload hx hb dX3_spread_8 (lv_at hl 4 rfl) ?_
        refine lv_icmp_ge (tgt := 80) hx hb dX3_spread_10 (by decide) (fun c_2 => ?_) (fun c_2 => ?_)
        · exact absurd c_2 (nI_ge (a := i0) (b := St) (by omega) (by omega))
        · refine lv_iload hx hb dX3_spread_13 (lv_at hl 5 rfl) ?_
          refine lv_istore (lv' := [(7, .int a0), (0, .ref hW), (1, .int x1), (2, .int x2), (3, .int x3), (4, .int (nI St)), (5, .int a0), (6, .int (nI i0))]) hx hb dX3_spread_15 hl (by decide) rfl (fun ls hl => ?_)
          refine lv_iconst (v := 0) hx hb dX3_spread_17 (by decide) ?_
          refine lv_istore (lv' := [(8, .int 0), (7, .int a0), (0, .ref hW), (1, .int x1), (2, .int x2), (3, .int x3), (4, .int (nI St)), (5, .int a0), (6, .int (nI i0))]) hx hb dX3_spread_18 hl (by decide) rfl (fun ls hl => ?_)
          have lp_20 : ∀ (n1 i1 : Nat), i1 + n1 = R → ∀ (a1 : Int32) (H : Heap) (locs : List Loc) (ls : Array Slot), va_P D vwCl [(hW, .inr (10, [.int (nI R), .int (nI C), .int (nI K), .int fi, .int di, .int br, .int li]))] H → va_D A [(hW, .inr (10, [.int (nI R), .int (nI C), .int (nI K), .int fi, .int di, .int br, .int li]))] → va_S (fun q : Nat => s.heap.size ≤ q) s.heap H locs → lv_has ls 9 [(0, .ref hW), (1, .int x1), (2, .int x2), (3, .int x3), (4, .int (nI St)), (5, .int a0), (6, .int (nI i0)), (7, .int a1), (8, .int (nI i1))] → (∀ (H : Heap) (locs : List Loc) (ls : Array Slot), va_P D vwCl [(hW, .inr (10, [.int (nI R), .int (nI C), .int (nI K), .int fi, .int di, .int br, .int li]))] H → va_D A [(hW, .inr (10, [.int (nI R), .int (nI C), .int (nI K), .int fi, .int di, .int br, .int li]))] → va_S (fun q : Nat => s.heap.size ≤ q) s.heap H locs → lv_has ls 9 [(0, .ref hW), (1, .int x1), (2, .int x2), (3, .int x3), (4, .int (nI St)), (5, .int a0), (6, .int (nI i0)), (7, .int (itr (fun i a => S_X3_spread_20 C x2 x3 a0 i a) n1 i1 a1)), (8, .int (nI R))] → W p l e ({ frames := 1, cells := 0, slots := 0, locals := 22 } : Room) s m ([.ref hW, .int x1, .int x2, .int x3, .int (nI St)] : List Value).toArray below meth c H locs 0 0 Q (F0 m 60 ls [])) → W p l e ({ frames := 1, cells := 0, slots := 0, locals := 22 } : Room) s m ([.ref hW, .int x1, .int x2, .int x3, .int (nI St)] : List Value).toArray below meth c H locs 0 0 Q (F0 m 20 ls []) := by
            intro n1
            induction n1 with
            | zero =>
              intro i1 hi1 a1 H locs ls hP hD hS hl kon
              have he1 : i1 = R := by omega
              refine lv_iload hx hb dX3_spread_20 (lv_at hl 8 rfl) ?_
              refine lv_aload_n hx hb dX3_spread_22 rfl (lv_at hl 0 rfl) ?_
              refine va_get (D := D) (ci := 10) (v := .int (nI R)) (C := RX3) (T := TX3) (N := 7) hx hb hts in_X3 hown hK hP 0 rfl rfl 0 (by decide) (hts _ q_128) (fun _ h9 => h9) rfl dX3_spread_23 ?_
              refine lv_icmp_ge (tgt := 60) hx hb dX3_spread_26 (by decide) (fun c_3 => ?_) (fun c_3 => ?_)
              · subst he1
                exact kon H locs ls hP hD hS (lv_sub hl [0, 1, 2, 3, 4, 5, 6, 7, 8] rfl)
              · exact absurd (nI_le (a := R) (b := i1) (by omega) (by omega)) c_3
            | succ n1 ih1 =>
              intro i1 hi1 a1 H locs ls hP hD hS hl kon
              refine lv_iload hx hb dX3_spread_20 (lv_at hl 8 rfl) ?_
              refine lv_aload_n hx hb dX3_spread_22 rfl (lv_at hl 0 rfl) ?_
              refine va_get (D := D) (ci := 10) (v := .int (nI R)) (C := RX3) (T := TX3) (N := 7) hx hb hts in_X3 hown hK hP 0 rfl rfl 0 (by decide) (hts _ q_128) (fun _ h9 => h9) rfl dX3_spread_23 ?_
              refine lv_icmp_ge (tgt := 60) hx hb dX3_spread_26 (by decide) (fun c_4 => ?_) (fun c_4 => ?_)
              · exact absurd c_4 (nI_ge (a := i1) (b := R) (by omega) (by omega))
              · refine lv_aload_n hx hb dX3_spread_29 rfl (lv_at hl 0 rfl) ?_
                refine lv_iload_n hx hb dX3_spread_30 rfl (lv_at hl 3 rfl) ?_
                refine lv_iload hx hb dX3_spread_31 (lv_at hl 8 rfl) ?_
                have hPc := hP.sub (ws' := [(hW, .inr (10, [.int (nI R), .int (nI C), .int (nI K), .int fi, .int di, .int br, .int li]))]) [0] rfl
                have hDc := hD.sub (ws' := [(hW, .inr (10, [.int (nI R), .int (nI C), .int (nI K), .int fi, .int di, .int br, .int li]))]) [0] (by decide) rfl
                have hFc := va_free (wc := [(hW, .inr (10, [.int (nI R), .int (nI C), .int (nI K), .int fi, .int di, .int br, .int li]))]) hD (va_S_up hS hA) hA [0] rfl
                refine va_calli (va_runV (As := [.int x3, .int (nI i1)]) (rest := []) ⟨hx, hb, hml, hown, hts⟩ (c_X3_columnsOf l D hW R C K fi di br li x3 (nI i1) H.size ) (cwV 2 hts (gi_V q_722 q_724 q_10 q_81 q_725) rfl rfl rfl (by decide +kernel) ⟨Nat.le_of_ble_eq_true rfl, Nat.le_of_ble_eq_true rfl⟩) ⟨cPre_blind, va_recv hK hP (ci := 10) (q0 := 0) rfl rfl, cPre_mk hPc hK hDc hN (lwZ_for hZ (va_S_up hS hA) hFc)⟩ rfl rfl hl.1 rfl (lv_room (Nat.le_of_ble_eq_true rfl)) dX3_spread_33 ⟨(Nat.le_of_ble_eq_true rfl), (Nat.le_of_ble_eq_true rfl)⟩) hS (fun q h1 h2 => absurd h2 (Nat.not_le.mpr h1)) (fun q h => Nat.le_trans hS.1 h) (fun r_33 u t H1 locs ht hvm hw hBk hz1 hk1 hS => ?_)
                have hP := va_P_ro hP hk1
                subst hw
                clear hBk hvm ht u hz1 hk1
                clear hPc hDc hFc; clear t
                generalize H1 = H at hP hS ⊢
                refine lv_iload hx hb dX3_spread_36 (lv_at hl 5 rfl) ?_
                refine lv_iand hx hb dX3_spread_38 ?_
                refine lv_if_eq (tgt := 54) hx hb dX3_spread_39 (by decide) (fun c_5 => ?_) (fun c_5 => ?_)
                · refine lv_iinc (v := nI (i1 + 1)) (lv' := [(8, .int (nI (i1 + 1))), (0, .ref hW), (1, .int x1), (2, .int x2), (3, .int x3), (4, .int (nI St)), (5, .int a0), (6, .int (nI i0)), (7, .int a1)]) hx hb dX3_spread_54 hl (k := 8) rfl (nI_1 _) (by decide) rfl (fun ls hl => ?_)
                  refine lv_goto (tgt := 20) hx hb dX3_spread_57 (by decide) ?_
                  have hE : S_X3_spread_20 C x2 x3 a0 i1 a1 = a1 := (by unfold S_X3_spread_20; rw [if_pos c_5])
                  have hl : lv_has ls 9 [(0, .ref hW), (1, .int x1), (2, .int x2), (3, .int x3), (4, .int (nI St)), (5, .int a0), (6, .int (nI i0)), (7, .int a1), (8, .int (nI (i1 + 1)))] := lv_sub hl [1, 2, 3, 4, 5, 6, 7, 8, 0] rfl
                  have hP := hP.sub (ws' := [(hW, .inr (10, [.int (nI R), .int (nI C), .int (nI K), .int fi, .int di, .int br, .int li]))]) [0] rfl
                  have hD := hD.sub (ws' := [(hW, .inr (10, [.int (nI R), .int (nI C), .int (nI K), .int fi, .int di, .int br, .int li]))]) [0] (by decide) rfl
                  exact ih1 (i1 + 1) (by omega) (S_X3_spread_20 C x2 x3 a0 i1 a1) H locs ls (by (try rw [hE]); exact hP) (by (try rw [hE]); exact hD) hS (by (try rw [hE]); exact hl) kon
                · refine lv_iload hx hb dX3_spread_42 (lv_at hl 7 rfl) ?_
                  refine lv_aload_n hx hb dX3_spread_44 rfl (lv_at hl 0 rfl) ?_
                  refine lv_iload_n hx hb dX3_spread_45 rfl (lv_at hl 2 rfl) ?_
                  refine lv_iload hx hb dX3_spread_46 (lv_at hl 8 rfl) ?_
                  have hPc := hP.sub (ws' := [(hW, .inr (10, [.int (nI R), .int (nI C), .int (nI K), .int fi, .int di, .int br, .int li]))]) [0] rfl
                  have hDc := hD.sub (ws' := [(hW, .inr (10, [.int (nI R), .int (nI C), .int (nI K), .int fi, .int di, .int br, .int li]))]) [0] (by decide) rfl
                  have hFc := va_free (wc := [(hW, .inr (10, [.int (nI R), .int (nI C), .int (nI K), .int fi, .int di, .int br, .int li]))]) hD (va_S_up hS hA) hA [0] rfl
                  refine va_calli (va_runV (As := [.int x2, .int (nI i1)]) (rest := [.int a1]) ⟨hx, hb, hml, hown, hts⟩ (c_X3_columnsOf l D hW R C K fi di br li x2 (nI i1) H.size ) (cwV 2 hts (gi_V q_722 q_724 q_10 q_81 q_725) rfl rfl rfl (by decide +kernel) ⟨Nat.le_of_ble_eq_true rfl, Nat.le_of_ble_eq_true rfl⟩) ⟨cPre_blind, va_recv hK hP (ci := 10) (q0 := 0) rfl rfl, cPre_mk hPc hK hDc hN (lwZ_for hZ (va_S_up hS hA) hFc)⟩ rfl rfl hl.1 rfl (lv_room (Nat.le_of_ble_eq_true rfl)) dX3_spread_48 ⟨(Nat.le_of_ble_eq_true rfl), (Nat.le_of_ble_eq_true rfl)⟩) hS (fun q h1 h2 => absurd h2 (Nat.not_le.mpr h1)) (fun q h => Nat.le_trans hS.1 h) (fun r_48 u t H1 locs ht hvm hw hBk hz1 hk1 hS => ?_)
                  have hP := va_P_ro hP hk1
                  subst hw
                  clear hBk hvm ht u hz1 hk1
                  clear hPc hDc hFc; clear t
                  generalize H1 = H at hP hS ⊢
                  refine lv_ior hx hb dX3_spread_51 ?_
                  refine lv_istore (lv' := [(7, .int (a1 ||| (F_X3_columnsOf C x2 (nI i1)))), (0, .ref hW), (1, .int x1), (2, .int x2), (3, .int x3), (4, .int (nI St)), (5, .int a0), (6, .int (nI i0)), (8, .int (nI i1))]) hx hb dX3_spread_52 hl (by decide) rfl (fun ls hl => ?_)
                  refine lv_iinc (v := nI (i1 + 1)) (lv' := [(8, .int (nI (i1 + 1))), (7, .int (a1 ||| (F_X3_columnsOf C x2 (nI i1)))), (0, .ref hW), (1, .int x1), (2, .int x2), (3, .int x3), (4, .int (nI St)), (5, .int a0), (6, .int (nI i0))]) hx hb dX3_spread_54 hl (k := 8) rfl (nI_1 _) (by decide) rfl (fun ls hl => ?_)
                  refine lv_goto (tgt := 20) hx hb dX3_spread_57 (by decide) ?_
                  have hE : S_X3_spread_20 C x2 x3 a0 i1 a1 = a1 ||| (F_X3_columnsOf C x2 (nI i1)) := (by unfold S_X3_spread_20; rw [if_neg c_5])
                  have hl : lv_has ls 9 [(0, .ref hW), (1, .int x1), (2, .int x2), (3, .int x3), (4, .int (nI St)), (5, .int a0), (6, .int (nI i0)), (7, .int (a1 ||| (F_X3_columnsOf C x2 (nI i1)))), (8, .int (nI (i1 + 1)))] := lv_sub hl [2, 3, 4, 5, 6, 7, 8, 1, 0] rfl
                  have hP := hP.sub (ws' := [(hW, .inr (10, [.int (nI R), .int (nI C), .int (nI K), .int fi, .int di, .int br, .int li]))]) [0] rfl
                  have hD := hD.sub (ws' := [(hW, .inr (10, [.int (nI R), .int (nI C), .int (nI K), .int fi, .int di, .int br, .int li]))]) [0] (by decide) rfl
                  exact ih1 (i1 + 1) (by omega) (S_X3_spread_20 C x2 x3 a0 i1 a1) H locs ls (by (try rw [hE]); exact hP) (by (try rw [hE]); exact hD) hS (by (try rw [hE]); exact hl) kon
          have hl : lv_has ls 9 [(0, .ref hW), (1, .int x1), (2, .int x2), (3, .int x3), (4, .int (nI St)), (5, .int a0), (6, .int (nI i0)), (7, .int a0), (8, .int (nI 0))] := lv_sub hl [2, 3, 4, 5, 6, 7, 8, 1, 0] rfl
          refine lp_20 R 0 (by omega) a0 H locs ls hP hD hS hl ?_
          clear lp_20 hP hD hS hl
          intro H locs ls hP hD hS hl
          refine lv_iload hx hb dX3_spread_60 (lv_at hl 7 rfl) ?_
          refine lv_iload hx hb dX3_spread_62 (lv_at hl 5 rfl) ?_
          refine lv_icmp_ne (tgt := 70) hx hb dX3_spread_64 (by decide) (fun c_6 => ?_) (fun c_6 => ?_)
          · refine lv_iload hx hb dX3_spread_70 (lv_at hl 7 rfl) ?_
            refine lv_istore (lv' := [(5, .int (itr (fun i a => S_X3_spread_20 C x2 x3 a0 i a) R 0 a0)), (0, .ref hW), (1, .int x1), (2, .int x2), (3, .int x3), (4, .int (nI St)), (6, .int (nI i0)), (7, .int (itr (fun i a => S_X3_spread_20 C x2 x3 a0 i a) R 0 a0)), (8, .int (nI R))]) hx hb dX3_spread_72 hl (by decide) rfl (fun ls hl => ?_)
            refine lv_iinc (v := nI (i0 + 1)) (lv' := [(6, .int (nI (i0 + 1))), (5, .int (itr (fun i a => S_X3_spread_20 C x2 x3 a0 i a) R 0 a0)), (0, .ref hW), (1, .int x1), (2, .int x2), (3, .int x3), (4, .int (nI St)), (7, .int (itr (fun i a => S_X3_spread_20 C x2 x3 a0 i a) R 0 a0)), (8, .int (nI R))]) hx hb dX3_spread_74 hl (k := 6) rfl (nI_1 _) (by decide) rfl (fun ls hl => ?_)
            refine lv_goto (tgt := 6) hx hb dX3_spread_77 (by decide) ?_
            have hl : lv_has ls 9 [(0, .ref hW), (1, .int x1), (2, .int x2), (3, .int x3), (4, .int (nI St)), (5, .int (itr (fun i a => S_X3_spread_20 C x2 x3 a0 i a) R 0 a0)), (6, .int (nI (i0 + 1)))] := lv_sub hl [2, 3, 4, 5, 6, 1, 0] rfl
            have hP := hP.sub (ws' := [(hW, .inr (10, [.int (nI R), .int (nI C), .int (nI K), .int fi, .int di, .int br, .int li]))]) [0] rfl
            have hD := hD.sub (ws' := [(hW, .inr (10, [.int (nI R), .int (nI C), .int (nI K), .int fi, .int di, .int br, .int li]))]) [0] (by decide) rfl
            exact ih0 (i0 + 1) (by omega) (itr (fun i a => S_X3_spread_20 C x2 x3 a0 i a) R 0 a0) H locs ls hP hD hS hl (by rw [hE0, L_X3_spread_6, if_neg c_6])
          · refine lv_iload hx hb dX3_spread_67 (lv_at hl 5 rfl) ?_
            subst hQe
            exact W.iret (v := a0) hx hb hr (fun t ht hW => ⟨⟨a0, (), rfl, (by rw [hE0, L_X3_spread_6, if_pos c_6]), trivial⟩, hS.F ht⟩) hS.2.2 dX3_spread_69
    have hl : lv_has ls 9 [(0, .ref hW), (1, .int x1), (2, .int x2), (3, .int x3), (4, .int (nI St)), (5, .int x1), (6, .int (nI 0))] := lv_sub hl [2, 3, 4, 5, 6, 1, 0] rfl
    exact lp_6 St 0 (by omega) x1 H locs ls hP hD hS hl (by rfl)
  rw [hHe, hLe] at hgoal
  exact hgoal

def T_X3_seenIf_6 (li : Int32) (x1 : Int32) : Int32 := x1 &&& li
def T_X3_seenIf_15 (di : Int32) (li : Int32) (x1 : Int32) : Int32 := (T_X3_seenIf_6 li x1) &&& (di ^^^ (-1))
def S_X3_seenIf_22 (R : Nat) (C : Nat) (di : Int32) (li : Int32) (x1 : Int32) (i0 : Nat) (a0 : Int32) : Int32 := (if (F_X3_columnsOf C (T_X3_seenIf_6 li x1) (nI i0)) = 0 then a0 else a0 ||| ((F_X3_spread R C (F_X3_columnsOf C (T_X3_seenIf_6 li x1) (nI i0)) (T_X3_seenIf_6 li x1) (T_X3_seenIf_15 di li x1) R) <<< (((nI i0) * (nI C)) &&& 31)))
def F_X3_seenIf (R : Nat) (C : Nat) (fi : Int32) (di : Int32) (li : Int32) (x1 : Int32) : Int32 := (itr (fun i a => S_X3_seenIf_22 R C di li x1 i a) R 0 0) &&& fi
set_option maxHeartbeats 4000000 in
set_option maxRecDepth 100000 in
theorem c_X3_seenIf (l : Launch) (D : va_G) (hW : Nat) (R : Nat) (C : Nat) (K : Nat) (fi : Int32) (di : Int32) (br : Int32) (li : Int32) (x1 : Int32) (sz : Nat) (hR : R ≤ 5) : Met l yX3_seenIf (Cond.code yX3_seenIf cX3_seenIf 7 (some .int) :: lwAll) ({ frames := 2, cells := 0, slots := 0, locals := 50 } : Room) (va_Pc [.ref hW, .int x1] (cPre D (lwTY D) [(hW, .inr (10, [.int (nI R), .int (nI C), .int (nI K), .int fi, .int di, .int br, .int li]))] sz)) (va_Qi (fun (r : Int32) (_ : Unit) => r = (F_X3_seenIf R C fi di li x1)) (fun _ _ => True) (fun q : Nat => sz ≤ q)) 0 0 (fun q : Nat => sz ≤ q) := by
  refine Met.ofW (cc := cX3_seenIf) (maxL := 7) (ret := (some .int)) (by decide) rfl ?_
  intro p e s m args below meth c s₁ B hml hv
  obtain ⟨rfl, hsz, hP, hK, hD0, hN, hZ⟩ := hv
  have hx := B.exec
  have hb := B.bytes
  have hr := B.returns
  have hts : ∀ wd ∈ lwAll, wd.before ([.ref hW, .int x1] : List Value).toArray s = true := fun wd h => atoms_spec (ws := (Cond.code yX3_seenIf cX3_seenIf 7 (some .int) :: lwAll)) B.pre wd (List.mem_cons_of_mem _ h)
  have hown : s.vm.findClass RX3 = some m.cls := findClass_of_methodNamed B.named
  have hlocks := B.notSynchronized
  subst hsz
  have hD := hD0.self (sz := s.heap.size)
  have hl := lv_entry ([.ref hW, .int x1]) (n := 7) (Nat.le_of_ble_eq_true rfl)
  rw [lg_entry_eq]
  generalize (lg_sl ([.ref hW, .int x1]) ++ List.replicate (7 - (lg_sl ([.ref hW, .int x1])).length) Slot.unset).toArray = ls at hl ⊢
  have hl : lv_has ls 7 [(0, .ref hW), (1, .int x1)] := hl
  have hS : va_S (fun q : Nat => s.heap.size ≤ q) s.heap s.heap [] := va_S.rf
  generalize hQe : MQ below (va_Qi (fun (r : Int32) (_ : Unit) => r = (F_X3_seenIf R C fi di li x1)) (fun _ _ => True) (fun q : Nat => s.heap.size ≤ q)) ([.ref hW, .int x1] : List Value).toArray s 0 0 (fun q : Nat => s.heap.size ≤ q) = Q
  have hP : va_P D vwCl [(hW, .inr (10, [.int (nI R), .int (nI C), .int (nI K), .int fi, .int di, .int br, .int li]))] s.heap := hP
  obtain ⟨A, hAe⟩ : ∃ A, A = va_A [(hW, .inr (10, [.int (nI R), .int (nI C), .int (nI K), .int fi, .int di, .int br, .int li]))] s.heap.size := ⟨_, rfl⟩
  rw [← hAe] at hD hZ
  have hA : ∀ q : Nat, s.heap.size ≤ q → A q := fun q h => by rw [hAe]; exact Or.inr h
  obtain ⟨H, hHe⟩ : ∃ H, H = s.heap := ⟨_, rfl⟩
  obtain ⟨locs, hLe⟩ : ∃ L : List Loc, L = [] := ⟨_, rfl⟩
  have hP : va_P D vwCl [(hW, .inr (10, [.int (nI R), .int (nI C), .int (nI K), .int fi, .int di, .int br, .int li]))] H := by rw [hHe]; exact hP
  have hS : va_S (fun q : Nat => s.heap.size ≤ q) s.heap H locs := by rw [hHe, hLe]; exact hS
  have hgoal : W p l e ({ frames := 2, cells := 0, slots := 0, locals := 50 } : Room) s m ([.ref hW, .int x1] : List Value).toArray below meth c H locs 0 0 Q (F0 m 0 ls []) := by
    clear hHe hLe
    refine lv_iload_n hx hb dX3_seenIf_0 rfl (lv_at hl 1 rfl) ?_
    refine lv_aload_n hx hb dX3_seenIf_1 rfl (lv_at hl 0 rfl) ?_
    refine va_get (D := D) (ci := 10) (v := .int li) (C := RX3) (T := TX3) (N := 7) hx hb hts in_X3 hown hK hP 0 rfl rfl 6 (by decide) (hts _ q_140) (fun _ h9 => h9) rfl dX3_seenIf_2 ?_
    refine lv_iand hx hb dX3_seenIf_5 ?_
    refine lv_istore_n (lv' := [(2, .int (x1 &&& li)), (0, .ref hW), (1, .int x1)]) hx hb dX3_seenIf_6 rfl hl (by decide) rfl (fun ls hl => ?_)
    have hl : lv_has ls 7 [(2, .int (T_X3_seenIf_6 li x1)), (0, .ref hW), (1, .int x1)] := hl
    refine lv_iload_n hx hb dX3_seenIf_7 rfl (lv_at hl 0 rfl) ?_
    refine lv_aload_n hx hb dX3_seenIf_8 rfl (lv_at hl 1 rfl) ?_
    refine va_get (D := D) (ci := 10) (v := .int di) (C := RX3) (T := TX3) (N := 7) hx hb hts in_X3 hown hK hP 0 rfl rfl 4 (by decide) (hts _ q_136) (fun _ h9 => h9) rfl dX3_seenIf_9 ?_
    refine lv_iconst (v := (-1)) hx hb dX3_seenIf_12 (by decide) ?_
    refine lv_ixor hx hb dX3_seenIf_13 ?_
    refine lv_iand hx hb dX3_seenIf_14 ?_
    refine lv_istore_n (lv' := [(3, .int ((T_X3_seenIf_6 li x1) &&& (di ^^^ (-1)))), (2, .int (T_X3_seenIf_6 li x1)), (0, .ref hW), (1, .int x1)]) hx hb dX3_seenIf_15 rfl hl (by decide) rfl (fun ls hl => ?_)
    have hl : lv_has ls 7 [(3, .int (T_X3_seenIf_15 di li x1)), (2, .int (T_X3_seenIf_6 li x1)), (0, .ref hW), (1, .int x1)] := hl
    refine lv_iconst (v := 0) hx hb dX3_seenIf_16 (by decide) ?_
    refine lv_istore (lv' := [(4, .int 0), (3, .int (T_X3_seenIf_15 di li x1)), (2, .int (T_X3_seenIf_6 li x1)), (0, .ref hW), (1, .int x1)]) hx hb dX3_seenIf_17 hl (by decide) rfl (fun ls hl => ?_)
    refine lv_iconst (v := 0) hx hb dX3_seenIf_19 (by decide) ?_
    refine lv_istore (lv' := [(5, .int 0), (4, .int 0), (3, .int (T_X3_seenIf_15 di li x1)), (2, .int (T_X3_seenIf_6 li x1)), (0, .ref hW), (1, .int x1)]) hx hb dX3_seenIf_20 hl (by decide) rfl (fun ls hl => ?_)
    have lp_22 : ∀ (n0 i0 : Nat), i0 + n0 = R → ∀ (a0 : Int32) (H : Heap) (locs : List Loc) (ls : Array Slot), va_P D vwCl [(hW, .inr (10, [.int (nI R), .int (nI C), .int (nI K), .int fi, .int di, .int br, .int li]))] H → va_D A [(hW, .inr (10, [.int (nI R), .int (nI C), .int (nI K), .int fi, .int di, .int br, .int li]))] → va_S (fun q : Nat => s.heap.size ≤ q) s.heap H locs → lv_has ls 7 [(0, .ref hW), (1, .int x1), (2, .int (T_X3_seenIf_6 li x1)), (3, .int (T_X3_seenIf_15 di li x1)), (4, .int a0), (5, .int (nI i0))] → (∀ (H : Heap) (locs : List Loc) (ls : Array Slot), va_P D vwCl [(hW, .inr (10, [.int (nI R), .int (nI C), .int (nI K), .int fi, .int di, .int br, .int li]))] H → va_D A [(hW, .inr (10, [.int (nI R), .int (nI C), .int (nI K), .int fi, .int di, .int br, .int li]))] → va_S (fun q : Nat => s.heap.size ≤ q) s.heap H locs → lv_has ls 7 [(0, .ref hW), (1, .int x1), (2, .int (T_X3_seenIf_6 li x1)), (3, .int (T_X3_seenIf_15 di li x1)), (4, .int (itr (fun i a => S_X3_seenIf_22 R C di li x1 i a) n0 i0 a0)), (5, .int (nI R))] → W p l e ({ frames := 2, cells := 0, slots := 0, locals := 50 } : Room) s m ([.ref hW, .int x1] : List Value).toArray below meth c H locs 0 0 Q (F0 m 76 ls [])) → W p l e ({ frames := 2, cells := 0, slots := 0, locals := 50 } : Room) s m ([.ref hW, .int x1] : List Value).toArray below meth c H locs 0 0 Q (F0 m 22 ls []) := by
      intro n0
      induction n0 with
      | zero =>
        intro i0 hi0 a0 H locs ls hP hD hS hl kon
        have he0 : i0 = R := by omega
        refine lv_iload hx hb dX3_seenIf_22 (lv_at hl 5 rfl) ?_
        refine lv_aload_n hx hb dX3_seenIf_24 rfl (lv_at hl 0 rfl) ?_
        refine va_get (D := D) (ci := 10) (v := .int (nI R)) (C := RX3) (T := TX3) (N := 7) hx hb hts in_X3 hown hK hP 0 rfl rfl 0 (by decide) (hts _ q_128) (fun _ h9 => h9) rfl dX3_seenIf_25 ?_
        refine lv_icmp_ge (tgt := 76) hx hb dX3_seenIf_28 (by decide) (fun c_1 => ?_) (fun c_1 => ?_)
        · subst he0
          exact kon H locs ls hP hD hS (lv_sub hl [0, 1, 2, 3, 4, 5] rfl)
        · exact absurd (nI_le (a := R) (b := i0) (by omega) (by omega)) c_1
      | succ n0 ih0 =>
        intro i0 hi0 a0 H locs ls hP hD hS hl kon
        refine lv_iload hx hb dX3_seenIf_22 (lv_at hl 5 rfl) ?_
        refine lv_aload_n hx hb dX3_seenIf_24 rfl (lv_at hl 0 rfl) ?_
        refine va_get (D := D) (ci := 10) (v := .int (nI R)) (C := RX3) (T := TX3) (N := 7) hx hb hts in_X3 hown hK hP 0 rfl rfl 0 (by decide) (hts _ q_128) (fun _ h9 => h9) rfl dX3_seenIf_25 ?_
        refine lv_icmp_ge (tgt := 76) hx hb dX3_seenIf_28 (by decide) (fun c_2 => ?_) (fun c_2 => ?_)
        · exact absurd c_2 (nI_ge (a := i0) (b := R) (by omega) (by omega))
        · refine lv_aload_n hx hb dX3_seenIf_31 rfl (lv_at hl 0 rfl) ?_
          refine lv_iload_n hx hb dX3_seenIf_32 rfl (lv_at hl 2 rfl) ?_
          refine lv_iload hx hb dX3_seenIf_33 (lv_at hl 5 rfl) ?_
          have hPc := hP.sub (ws' := [(hW, .inr (10, [.int (nI R), .int (nI C), .int (nI K), .int fi, .int di, .int br, .int li]))]) [0] rfl
          have hDc := hD.sub (ws' := [(hW, .inr (10, [.int (nI R), .int (nI C), .int (nI K), .int fi, .int di, .int br, .int li]))]) [0] (by decide) rfl
          have hFc := va_free (wc := [(hW, .inr (10, [.int (nI R), .int (nI C), .int (nI K), .int fi, .int di, .int br, .int li]))]) hD (va_S_up hS hA) hA [0] rfl
          refine va_calli (va_runV (As := [.int (T_X3_seenIf_6 li x1), .int (nI i0)]) (rest := []) ⟨hx, hb, hml, hown, hts⟩ (c_X3_columnsOf l D hW R C K fi di br li (T_X3_seenIf_6 li x1) (nI i0) H.size ) (cwV 2 hts (gi_V q_722 q_724 q_10 q_81 q_725) rfl rfl rfl (by decide +kernel) ⟨Nat.le_of_ble_eq_true rfl, Nat.le_of_ble_eq_true rfl⟩) ⟨cPre_blind, va_recv hK hP (ci := 10) (q0 := 0) rfl rfl, cPre_mk hPc hK hDc hN (lwZ_for hZ (va_S_up hS hA) hFc)⟩ rfl rfl hl.1 rfl (lv_room (Nat.le_of_ble_eq_true rfl)) dX3_seenIf_35 ⟨(Nat.le_of_ble_eq_true rfl), (Nat.le_of_ble_eq_true rfl)⟩) hS (fun q h1 h2 => absurd h2 (Nat.not_le.mpr h1)) (fun q h => Nat.le_trans hS.1 h) (fun r_35 u t H1 locs ht hvm hw hBk hz1 hk1 hS => ?_)
          have hP := va_P_ro hP hk1
          subst hw
          clear hBk hvm ht u hz1 hk1
          clear hPc hDc hFc; clear t
          generalize H1 = H at hP hS ⊢
          refine lv_istore (lv' := [(6, .int (F_X3_columnsOf C (T_X3_seenIf_6 li x1) (nI i0))), (0, .ref hW), (1, .int x1), (2, .int (T_X3_seenIf_6 li x1)), (3, .int (T_X3_seenIf_15 di li x1)), (4, .int a0), (5, .int (nI i0))]) hx hb dX3_seenIf_38 hl (by decide) rfl (fun ls hl => ?_)
          refine lv_iload hx hb dX3_seenIf_40 (lv_at hl 0 rfl) ?_
          refine lv_if_eq (tgt := 70) hx hb dX3_seenIf_42 (by decide) (fun c_3 => ?_) (fun c_3 => ?_)
          · refine lv_iinc (v := nI (i0 + 1)) (lv' := [(5, .int (nI (i0 + 1))), (6, .int (F_X3_columnsOf C (T_X3_seenIf_6 li x1) (nI i0))), (0, .ref hW), (1, .int x1), (2, .int (T_X3_seenIf_6 li x1)), (3, .int (T_X3_seenIf_15 di li x1)), (4, .int a0)]) hx hb dX3_seenIf_70 hl (k := 6) rfl (nI_1 _) (by decide) rfl (fun ls hl => ?_)
            refine lv_goto (tgt := 22) hx hb dX3_seenIf_73 (by decide) ?_
            have hE : S_X3_seenIf_22 R C di li x1 i0 a0 = a0 := (by unfold S_X3_seenIf_22; rw [if_pos c_3])
            have hl : lv_has ls 7 [(0, .ref hW), (1, .int x1), (2, .int (T_X3_seenIf_6 li x1)), (3, .int (T_X3_seenIf_15 di li x1)), (4, .int a0), (5, .int (nI (i0 + 1)))] := lv_sub hl [2, 3, 4, 5, 6, 0] rfl
            have hP := hP.sub (ws' := [(hW, .inr (10, [.int (nI R), .int (nI C), .int (nI K), .int fi, .int di, .int br, .int li]))]) [0] rfl
            have hD := hD.sub (ws' := [(hW, .inr (10, [.int (nI R), .int (nI C), .int (nI K), .int fi, .int di, .int br, .int li]))]) [0] (by decide) rfl
            exact ih0 (i0 + 1) (by omega) (S_X3_seenIf_22 R C di li x1 i0 a0) H locs ls (by (try rw [hE]); exact hP) (by (try rw [hE]); exact hD) hS (by (try rw [hE]); exact hl) kon
          · refine lv_iload hx hb dX3_seenIf_45 (lv_at hl 5 rfl) ?_
            refine lv_aload_n hx hb dX3_seenIf_47 rfl (lv_at hl 1 rfl) ?_
            refine lv_iload hx hb dX3_seenIf_48 (lv_at hl 0 rfl) ?_
            refine lv_iload_n hx hb dX3_seenIf_50 rfl (lv_at hl 3 rfl) ?_
            refine lv_iload_n hx hb dX3_seenIf_51 rfl (lv_at hl 4 rfl) ?_
            refine lv_aload_n hx hb dX3_seenIf_52 rfl (lv_at hl 1 rfl) ?_
            refine va_get (D := D) (ci := 10) (v := .int (nI R)) (C := RX3) (T := TX3) (N := 7) hx hb hts in_X3 hown hK hP 0 rfl rfl 0 (by decide) (hts _ q_128) (fun _ h9 => h9) rfl dX3_seenIf_53 ?_
            have hPc := hP.sub (ws' := [(hW, .inr (10, [.int (nI R), .int (nI C), .int (nI K), .int fi, .int di, .int br, .int li]))]) [0] rfl
            have hDc := hD.sub (ws' := [(hW, .inr (10, [.int (nI R), .int (nI C), .int (nI K), .int fi, .int di, .int br, .int li]))]) [0] (by decide) rfl
            have hFc := va_free (wc := [(hW, .inr (10, [.int (nI R), .int (nI C), .int (nI K), .int fi, .int di, .int br, .int li]))]) hD (va_S_up hS hA) hA [0] rfl
            refine va_calli (va_runV (As := [.int (F_X3_columnsOf C (T_X3_seenIf_6 li x1) (nI i0)), .int (T_X3_seenIf_6 li x1), .int (T_X3_seenIf_15 di li x1), .int (nI R)]) (rest := [.int a0]) ⟨hx, hb, hml, hown, hts⟩ (c_X3_spread l D hW R C K fi di br li (F_X3_columnsOf C (T_X3_seenIf_6 li x1) (nI i0)) (T_X3_seenIf_6 li x1) (T_X3_seenIf_15 di li x1) R (nI R) H.size (show R ≤ 5 from hR) (show R ≤ 5 from (by omega)) (show (nI R) = nI R from rfl)) (cwV 4 hts (gi_V q_745 q_747 q_13 q_81 q_748) rfl rfl rfl (by decide +kernel) ⟨Nat.le_of_ble_eq_true rfl, Nat.le_of_ble_eq_true rfl⟩) ⟨cPre_blind, va_recv hK hP (ci := 10) (q0 := 0) rfl rfl, cPre_mk hPc hK hDc hN (lwZ_for hZ (va_S_up hS hA) hFc)⟩ rfl rfl hl.1 rfl (lv_room (Nat.le_of_ble_eq_true rfl)) dX3_seenIf_56 ⟨(Nat.le_of_ble_eq_true rfl), (Nat.le_of_ble_eq_true rfl)⟩) hS (fun q h1 h2 => absurd h2 (Nat.not_le.mpr h1)) (fun q h => Nat.le_trans hS.1 h) (fun r_56 u t H1 locs ht hvm hw hBk hz1 hk1 hS => ?_)
            have hP := va_P_ro hP hk1
            subst hw
            clear hBk hvm ht u hz1 hk1
            clear hPc hDc hFc; clear t
            generalize H1 = H at hP hS ⊢
            refine lv_iload hx hb dX3_seenIf_59 (lv_at hl 6 rfl) ?_
            refine lv_aload_n hx hb dX3_seenIf_61 rfl (lv_at hl 1 rfl) ?_
            refine va_get (D := D) (ci := 10) (v := .int (nI C)) (C := RX3) (T := TX3) (N := 7) hx hb hts in_X3 hown hK hP 0 rfl rfl 1 (by decide) (hts _ q_130) (fun _ h9 => h9) rfl dX3_seenIf_62 ?_
            refine lv_imul hx hb dX3_seenIf_65 ?_
            refine lv_ishl hx hb dX3_seenIf_66 ?_
            refine lv_ior hx hb dX3_seenIf_67 ?_
            refine lv_istore (lv' := [(4, .int (a0 ||| ((F_X3_spread R C (F_X3_columnsOf C (T_X3_seenIf_6 li x1) (nI i0)) (T_X3_seenIf_6 li x1) (T_X3_seenIf_15 di li x1) R) <<< (((nI i0) * (nI C)) &&& 31)))), (6, .int (F_X3_columnsOf C (T_X3_seenIf_6 li x1) (nI i0))), (0, .ref hW), (1, .int x1), (2, .int (T_X3_seenIf_6 li x1)), (3, .int (T_X3_seenIf_15 di li x1)), (5, .int (nI i0))]) hx hb dX3_seenIf_68 hl (by decide) rfl (fun ls hl => ?_)
            refine lv_iinc (v := nI (i0 + 1)) (lv' := [(5, .int (nI (i0 + 1))), (4, .int (a0 ||| ((F_X3_spread R C (F_X3_columnsOf C (T_X3_seenIf_6 li x1) (nI i0)) (T_X3_seenIf_6 li x1) (T_X3_seenIf_15 di li x1) R) <<< (((nI i0) * (nI C)) &&& 31)))), (6, .int (F_X3_columnsOf C (T_X3_seenIf_6 li x1) (nI i0))), (0, .ref hW), (1, .int x1), (2, .int (T_X3_seenIf_6 li x1)), (3, .int (T_X3_seenIf_15 di li x1))]) hx hb dX3_seenIf_70 hl (k := 6) rfl (nI_1 _) (by decide) rfl (fun ls hl => ?_)
            refine lv_goto (tgt := 22) hx hb dX3_seenIf_73 (by decide) ?_
            have hE : S_X3_seenIf_22 R C di li x1 i0 a0 = a0 ||| ((F_X3_spread R C (F_X3_columnsOf C (T_X3_seenIf_6 li x1) (nI i0)) (T_X3_seenIf_6 li x1) (T_X3_seenIf_15 di li x1) R) <<< (((nI i0) * (nI C)) &&& 31)) := (by unfold S_X3_seenIf_22; rw [if_neg c_3])
            have hl : lv_has ls 7 [(0, .ref hW), (1, .int x1), (2, .int (T_X3_seenIf_6 li x1)), (3, .int (T_X3_seenIf_15 di li x1)), (4, .int (a0 ||| ((F_X3_spread R C (F_X3_columnsOf C (T_X3_seenIf_6 li x1) (nI i0)) (T_X3_seenIf_6 li x1) (T_X3_seenIf_15 di li x1) R) <<< (((nI i0) * (nI C)) &&& 31)))), (5, .int (nI (i0 + 1)))] := lv_sub hl [3, 4, 5, 6, 1, 0] rfl
            have hP := hP.sub (ws' := [(hW, .inr (10, [.int (nI R), .int (nI C), .int (nI K), .int fi, .int di, .int br, .int li]))]) [0] rfl
            have hD := hD.sub (ws' := [(hW, .inr (10, [.int (nI R), .int (nI C), .int (nI K), .int fi, .int di, .int br, .int li]))]) [0] (by decide) rfl
            exact ih0 (i0 + 1) (by omega) (S_X3_seenIf_22 R C di li x1 i0 a0) H locs ls (by (try rw [hE]); exact hP) (by (try rw [hE]); exact hD) hS (by (try rw [hE]); exact hl) kon
    have hl : lv_has ls 7 [(0, .ref hW), (1, .int x1), (2, .int (T_X3_seenIf_6 li x1)), (3, .int (T_X3_seenIf_15 di li x1)), (4, .int 0), (5, .int (nI 0))] := lv_sub hl [4, 5, 3, 2, 1, 0] rfl
    refine lp_22 R 0 (by omega) 0 H locs ls hP hD hS hl ?_
    clear lp_22 hP hD hS hl
    intro H locs ls hP hD hS hl
    refine lv_iload hx hb dX3_seenIf_76 (lv_at hl 4 rfl) ?_
    refine lv_aload_n hx hb dX3_seenIf_78 rfl (lv_at hl 0 rfl) ?_
    refine va_get (D := D) (ci := 10) (v := .int fi) (C := RX3) (T := TX3) (N := 7) hx hb hts in_X3 hown hK hP 0 rfl rfl 3 (by decide) (hts _ q_134) (fun _ h9 => h9) rfl dX3_seenIf_79 ?_
    refine lv_iand hx hb dX3_seenIf_82 ?_
    subst hQe
    exact W.iret (v := (itr (fun i a => S_X3_seenIf_22 R C di li x1 i a) R 0 0) &&& fi) hx hb hr (fun t ht hW => ⟨⟨(itr (fun i a => S_X3_seenIf_22 R C di li x1 i a) R 0 0) &&& fi, (), rfl, (by rfl), trivial⟩, hS.F ht⟩) hS.2.2 dX3_seenIf_83
  rw [hHe, hLe] at hgoal
  exact hgoal

def F_X3_ghostsIf (R : Nat) (C : Nat) (fi : Int32) (di : Int32) (li : Int32) (x1 : Int32) : Int32 := (F_X3_seenIf R C fi di li x1) &&& (x1 ^^^ (-1))
set_option maxHeartbeats 4000000 in
set_option maxRecDepth 100000 in
theorem c_X3_ghostsIf (l : Launch) (D : va_G) (hW : Nat) (R : Nat) (C : Nat) (K : Nat) (fi : Int32) (di : Int32) (br : Int32) (li : Int32) (x1 : Int32) (sz : Nat) (hR : R ≤ 5) : Met l yX3_ghostsIf (Cond.code yX3_ghostsIf cX3_ghostsIf 2 (some .int) :: lwAll) ({ frames := 3, cells := 0, slots := 0, locals := 76 } : Room) (va_Pc [.ref hW, .int x1] (cPre D (lwTY D) [(hW, .inr (10, [.int (nI R), .int (nI C), .int (nI K), .int fi, .int di, .int br, .int li]))] sz)) (va_Qi (fun (r : Int32) (_ : Unit) => r = (F_X3_ghostsIf R C fi di li x1)) (fun _ _ => True) (fun q : Nat => sz ≤ q)) 0 0 (fun q : Nat => sz ≤ q) := by
  refine Met.ofW (cc := cX3_ghostsIf) (maxL := 2) (ret := (some .int)) (by decide) rfl ?_
  intro p e s m args below meth c s₁ B hml hv
  obtain ⟨rfl, hsz, hP, hK, hD0, hN, hZ⟩ := hv
  have hx := B.exec
  have hb := B.bytes
  have hr := B.returns
  have hts : ∀ wd ∈ lwAll, wd.before ([.ref hW, .int x1] : List Value).toArray s = true := fun wd h => atoms_spec (ws := (Cond.code yX3_ghostsIf cX3_ghostsIf 2 (some .int) :: lwAll)) B.pre wd (List.mem_cons_of_mem _ h)
  have hown : s.vm.findClass RX3 = some m.cls := findClass_of_methodNamed B.named
  have hlocks := B.notSynchronized
  subst hsz
  have hD := hD0.self (sz := s.heap.size)
  have hl := lv_entry ([.ref hW, .int x1]) (n := 2) (Nat.le_of_ble_eq_true rfl)
  rw [lg_entry_eq]
  generalize (lg_sl ([.ref hW, .int x1]) ++ List.replicate (2 - (lg_sl ([.ref hW, .int x1])).length) Slot.unset).toArray = ls at hl ⊢
  have hl : lv_has ls 2 [(0, .ref hW), (1, .int x1)] := hl
  have hS : va_S (fun q : Nat => s.heap.size ≤ q) s.heap s.heap [] := va_S.rf
  generalize hQe : MQ below (va_Qi (fun (r : Int32) (_ : Unit) => r = (F_X3_ghostsIf R C fi di li x1)) (fun _ _ => True) (fun q : Nat => s.heap.size ≤ q)) ([.ref hW, .int x1] : List Value).toArray s 0 0 (fun q : Nat => s.heap.size ≤ q) = Q
  have hP : va_P D vwCl [(hW, .inr (10, [.int (nI R), .int (nI C), .int (nI K), .int fi, .int di, .int br, .int li]))] s.heap := hP
  obtain ⟨A, hAe⟩ : ∃ A, A = va_A [(hW, .inr (10, [.int (nI R), .int (nI C), .int (nI K), .int fi, .int di, .int br, .int li]))] s.heap.size := ⟨_, rfl⟩
  rw [← hAe] at hD hZ
  have hA : ∀ q : Nat, s.heap.size ≤ q → A q := fun q h => by rw [hAe]; exact Or.inr h
  obtain ⟨H, hHe⟩ : ∃ H, H = s.heap := ⟨_, rfl⟩
  obtain ⟨locs, hLe⟩ : ∃ L : List Loc, L = [] := ⟨_, rfl⟩
  have hP : va_P D vwCl [(hW, .inr (10, [.int (nI R), .int (nI C), .int (nI K), .int fi, .int di, .int br, .int li]))] H := by rw [hHe]; exact hP
  have hS : va_S (fun q : Nat => s.heap.size ≤ q) s.heap H locs := by rw [hHe, hLe]; exact hS
  have hgoal : W p l e ({ frames := 3, cells := 0, slots := 0, locals := 76 } : Room) s m ([.ref hW, .int x1] : List Value).toArray below meth c H locs 0 0 Q (F0 m 0 ls []) := by
    clear hHe hLe
    refine lv_aload_n hx hb dX3_ghostsIf_0 rfl (lv_at hl 0 rfl) ?_
    refine lv_iload_n hx hb dX3_ghostsIf_1 rfl (lv_at hl 1 rfl) ?_
    have hPc := hP.sub (ws' := [(hW, .inr (10, [.int (nI R), .int (nI C), .int (nI K), .int fi, .int di, .int br, .int li]))]) [0] rfl
    have hDc := hD.sub (ws' := [(hW, .inr (10, [.int (nI R), .int (nI C), .int (nI K), .int fi, .int di, .int br, .int li]))]) [0] (by decide) rfl
    have hFc := va_free (wc := [(hW, .inr (10, [.int (nI R), .int (nI C), .int (nI K), .int fi, .int di, .int br, .int li]))]) hD (va_S_up hS hA) hA [0] rfl
    refine va_calli (va_runV (As := [.int x1]) (rest := []) ⟨hx, hb, hml, hown, hts⟩ (c_X3_seenIf l D hW R C K fi di br li x1 H.size (show R ≤ 5 from hR)) (cwV 1 hts (gi_V q_741 q_743 q_12 q_81 q_744) rfl rfl rfl (by decide +kernel) ⟨Nat.le_of_ble_eq_true rfl, Nat.le_of_ble_eq_true rfl⟩) ⟨cPre_blind, va_recv hK hP (ci := 10) (q0 := 0) rfl rfl, cPre_mk hPc hK hDc hN (lwZ_for hZ (va_S_up hS hA) hFc)⟩ rfl rfl hl.1 rfl (lv_room (Nat.le_of_ble_eq_true rfl)) dX3_ghostsIf_2 ⟨(Nat.le_of_ble_eq_true rfl), (Nat.le_of_ble_eq_true rfl)⟩) hS (fun q h1 h2 => absurd h2 (Nat.not_le.mpr h1)) (fun q h => Nat.le_trans hS.1 h) (fun r_2 u t H1 locs ht hvm hw hBk hz1 hk1 hS => ?_)
    have hP := va_P_ro hP hk1
    subst hw
    clear hBk hvm ht u hz1 hk1
    clear hPc hDc hFc; clear t
    generalize H1 = H at hP hS ⊢
    refine lv_iload_n hx hb dX3_ghostsIf_5 rfl (lv_at hl 1 rfl) ?_
    refine lv_iconst (v := (-1)) hx hb dX3_ghostsIf_6 (by decide) ?_
    refine lv_ixor hx hb dX3_ghostsIf_7 ?_
    refine lv_iand hx hb dX3_ghostsIf_8 ?_
    subst hQe
    exact W.iret (v := (F_X3_seenIf R C fi di li x1) &&& (x1 ^^^ (-1))) hx hb hr (fun t ht hW => ⟨⟨(F_X3_seenIf R C fi di li x1) &&& (x1 ^^^ (-1)), (), rfl, (by rfl), trivial⟩, hS.F ht⟩) hS.2.2 dX3_ghostsIf_9
  rw [hHe, hLe] at hgoal
  exact hgoal

def F_X3_isExact (R : Nat) (C : Nat) (fi : Int32) (di : Int32) (li : Int32) (x1 : Int32) : Int32 := (if ((F_X3_seenIf R C fi di li x1) &&& (x1 ^^^ (-1))) = 0 then 1 else 0)
set_option maxHeartbeats 4000000 in
set_option maxRecDepth 100000 in
theorem c_X3_isExact (l : Launch) (D : va_G) (hW : Nat) (R : Nat) (C : Nat) (K : Nat) (fi : Int32) (di : Int32) (br : Int32) (li : Int32) (x1 : Int32) (sz : Nat) (hR : R ≤ 5) : Met l yX3_isExact (Cond.code yX3_isExact cX3_isExact 2 (some .boolean) :: lwAll) ({ frames := 3, cells := 0, slots := 0, locals := 76 } : Room) (va_Pc [.ref hW, .int x1] (cPre D (lwTY D) [(hW, .inr (10, [.int (nI R), .int (nI C), .int (nI K), .int fi, .int di, .int br, .int li]))] sz)) (va_Qi (fun (r : Int32) (_ : Unit) => r = (F_X3_isExact R C fi di li x1) ∧ (r = 0 ∨ r = 1)) (fun _ _ => True) (fun q : Nat => sz ≤ q)) 0 0 (fun q : Nat => sz ≤ q) := by
  refine Met.ofW (cc := cX3_isExact) (maxL := 2) (ret := (some .boolean)) (by decide) rfl ?_
  intro p e s m args below meth c s₁ B hml hv
  obtain ⟨rfl, hsz, hP, hK, hD0, hN, hZ⟩ := hv
  have hx := B.exec
  have hb := B.bytes
  have hr := B.returns
  have hts : ∀ wd ∈ lwAll, wd.before ([.ref hW, .int x1] : List Value).toArray s = true := fun wd h => atoms_spec (ws := (Cond.code yX3_isExact cX3_isExact 2 (some .boolean) :: lwAll)) B.pre wd (List.mem_cons_of_mem _ h)
  have hown : s.vm.findClass RX3 = some m.cls := findClass_of_methodNamed B.named
  have hlocks := B.notSynchronized
  subst hsz
  have hD := hD0.self (sz := s.heap.size)
  have hl := lv_entry ([.ref hW, .int x1]) (n := 2) (Nat.le_of_ble_eq_true rfl)
  rw [lg_entry_eq]
  generalize (lg_sl ([.ref hW, .int x1]) ++ List.replicate (2 - (lg_sl ([.ref hW, .int x1])).length) Slot.unset).toArray = ls at hl ⊢
  have hl : lv_has ls 2 [(0, .ref hW), (1, .int x1)] := hl
  have hS : va_S (fun q : Nat => s.heap.size ≤ q) s.heap s.heap [] := va_S.rf
  generalize hQe : MQ below (va_Qi (fun (r : Int32) (_ : Unit) => r = (F_X3_isExact R C fi di li x1) ∧ (r = 0 ∨ r = 1)) (fun _ _ => True) (fun q : Nat => s.heap.size ≤ q)) ([.ref hW, .int x1] : List Value).toArray s 0 0 (fun q : Nat => s.heap.size ≤ q) = Q
  have hP : va_P D vwCl [(hW, .inr (10, [.int (nI R), .int (nI C), .int (nI K), .int fi, .int di, .int br, .int li]))] s.heap := hP
  obtain ⟨A, hAe⟩ : ∃ A, A = va_A [(hW, .inr (10, [.int (nI R), .int (nI C), .int (nI K), .int fi, .int di, .int br, .int li]))] s.heap.size := ⟨_, rfl⟩
  rw [← hAe] at hD hZ
  have hA : ∀ q : Nat, s.heap.size ≤ q → A q := fun q h => by rw [hAe]; exact Or.inr h
  obtain ⟨H, hHe⟩ : ∃ H, H = s.heap := ⟨_, rfl⟩
  obtain ⟨locs, hLe⟩ : ∃ L : List Loc, L = [] := ⟨_, rfl⟩
  have hP : va_P D vwCl [(hW, .inr (10, [.int (nI R), .int (nI C), .int (nI K), .int fi, .int di, .int br, .int li]))] H := by rw [hHe]; exact hP
  have hS : va_S (fun q : Nat => s.heap.size ≤ q) s.heap H locs := by rw [hHe, hLe]; exact hS
  have hgoal : W p l e ({ frames := 3, cells := 0, slots := 0, locals := 76 } : Room) s m ([.ref hW, .int x1] : List Value).toArray below meth c H locs 0 0 Q (F0 m 0 ls []) := by
    clear hHe hLe
    refine lv_aload_n hx hb dX3_isExact_0 rfl (lv_at hl 0 rfl) ?_
    refine lv_iload_n hx hb dX3_isExact_1 rfl (lv_at hl 1 rfl) ?_
    have hPc := hP.sub (ws' := [(hW, .inr (10, [.int (nI R), .int (nI C), .int (nI K), .int fi, .int di, .int br, .int li]))]) [0] rfl
    have hDc := hD.sub (ws' := [(hW, .inr (10, [.int (nI R), .int (nI C), .int (nI K), .int fi, .int di, .int br, .int li]))]) [0] (by decide) rfl
    have hFc := va_free (wc := [(hW, .inr (10, [.int (nI R), .int (nI C), .int (nI K), .int fi, .int di, .int br, .int li]))]) hD (va_S_up hS hA) hA [0] rfl
    refine va_calli (va_runV (As := [.int x1]) (rest := []) ⟨hx, hb, hml, hown, hts⟩ (c_X3_seenIf l D hW R C K fi di br li x1 H.size (show R ≤ 5 from hR)) (cwV 1 hts (gi_V q_741 q_743 q_12 q_81 q_744) rfl rfl rfl (by decide +kernel) ⟨Nat.le_of_ble_eq_true rfl, Nat.le_of_ble_eq_true rfl⟩) ⟨cPre_blind, va_recv hK hP (ci := 10) (q0 := 0) rfl rfl, cPre_mk hPc hK hDc hN (lwZ_for hZ (va_S_up hS hA) hFc)⟩ rfl rfl hl.1 rfl (lv_room (Nat.le_of_ble_eq_true rfl)) dX3_isExact_2 ⟨(Nat.le_of_ble_eq_true rfl), (Nat.le_of_ble_eq_true rfl)⟩) hS (fun q h1 h2 => absurd h2 (Nat.not_le.mpr h1)) (fun q h => Nat.le_trans hS.1 h) (fun r_2 u t H1 locs ht hvm hw hBk hz1 hk1 hS => ?_)
    have hP := va_P_ro hP hk1
    subst hw
    clear hBk hvm ht u hz1 hk1
    clear hPc hDc hFc; clear t
    generalize H1 = H at hP hS ⊢
    refine lv_iload_n hx hb dX3_isExact_5 rfl (lv_at hl 1 rfl) ?_
    refine lv_iconst (v := (-1)) hx hb dX3_isExact_6 (by decide) ?_
    refine lv_ixor hx hb dX3_isExact_7 ?_
    refine lv_iand hx hb dX3_isExact_8 ?_
    refine lv_if_ne (tgt := 16) hx hb dX3_isExact_9 (by decide) (fun c_1 => ?_) (fun c_1 => ?_)
    · refine lv_iconst (v := 0) hx hb dX3_isExact_16 (by decide) ?_
      subst hQe
      exact W.zret (ty := .boolean) (v := 0) hx hb hr (zb_narrow zb_0) (fun t ht hW => ⟨⟨0, (), rfl, ⟨(by unfold F_X3_isExact; rw [if_neg c_1]), zb_0⟩, trivial⟩, hS.F ht⟩) hS.2.2 dX3_isExact_17
    · refine lv_iconst (v := 1) hx hb dX3_isExact_12 (by decide) ?_
      refine lv_goto (tgt := 17) hx hb dX3_isExact_13 (by decide) ?_
      subst hQe
      exact W.zret (ty := .boolean) (v := 1) hx hb hr (zb_narrow zb_1) (fun t ht hW => ⟨⟨1, (), rfl, ⟨(by unfold F_X3_isExact; rw [if_pos c_1]), zb_1⟩, trivial⟩, hS.F ht⟩) hS.2.2 dX3_isExact_17
  rw [hHe, hLe] at hgoal
  exact hgoal

def L_X3_isClear_2 (R : Nat) (C : Nat) (fi : Int32) (di : Int32) (li : Int32) : Nat → Nat → (Unit) → Int32
  | 0, i0, a0 => 1
  | n0 + 1, i0, a0 => (if (F_X4_holds (F_X3_seenIf R C fi di li (fi &&& (((1 : Int32) <<< ((nI i0) &&& 31)) ^^^ (-1)))) (nI i0)) = 0 then L_X3_isClear_2 R C fi di li n0 (i0 + 1) () else 0)
def F_X3_isClear (R : Nat) (C : Nat) (K : Nat) (fi : Int32) (di : Int32) (li : Int32) : Int32 := L_X3_isClear_2 R C fi di li K 0 ()
set_option maxHeartbeats 4000000 in
set_option maxRecDepth 100000 in
theorem c_X3_isClear (l : Launch) (D : va_G) (hW : Nat) (R : Nat) (C : Nat) (K : Nat) (fi : Int32) (di : Int32) (br : Int32) (li : Int32) (sz : Nat) (hR : R ≤ 5) (hKb : K ≤ 25) : Met l yX3_isClear (Cond.code yX3_isClear cX3_isClear 2 (some .boolean) :: lwAll) ({ frames := 3, cells := 0, slots := 0, locals := 76 } : Room) (va_Pc [.ref hW] (cPre D (lwTY D) [(hW, .inr (10, [.int (nI R), .int (nI C), .int (nI K), .int fi, .int di, .int br, .int li]))] sz)) (va_Qi (fun (r : Int32) (_ : Unit) => r = (F_X3_isClear R C K fi di li) ∧ (r = 0 ∨ r = 1)) (fun _ _ => True) (fun q : Nat => sz ≤ q)) 0 0 (fun q : Nat => sz ≤ q) := by
  refine Met.ofW (cc := cX3_isClear) (maxL := 2) (ret := (some .boolean)) (by decide) rfl ?_
  intro p e s m args below meth c s₁ B hml hv
  obtain ⟨rfl, hsz, hP, hK, hD0, hN, hZ⟩ := hv
  have hx := B.exec
  have hb := B.bytes
  have hr := B.returns
  have hts : ∀ wd ∈ lwAll, wd.before ([.ref hW] : List Value).toArray s = true := fun wd h => atoms_spec (ws := (Cond.code yX3_isClear cX3_isClear 2 (some .boolean) :: lwAll)) B.pre wd (List.mem_cons_of_mem _ h)
  have hown : s.vm.findClass RX3 = some m.cls := findClass_of_methodNamed B.named
  have hlocks := B.notSynchronized
  subst hsz
  have hD := hD0.self (sz := s.heap.size)
  have hl := lv_entry ([.ref hW]) (n := 2) (Nat.le_of_ble_eq_true rfl)
  rw [lg_entry_eq]
  generalize (lg_sl ([.ref hW]) ++ List.replicate (2 - (lg_sl ([.ref hW])).length) Slot.unset).toArray = ls at hl ⊢
  have hl : lv_has ls 2 [(0, .ref hW)] := hl
  have hS : va_S (fun q : Nat => s.heap.size ≤ q) s.heap s.heap [] := va_S.rf
  generalize hQe : MQ below (va_Qi (fun (r : Int32) (_ : Unit) => r = (F_X3_isClear R C K fi di li) ∧ (r = 0 ∨ r = 1)) (fun _ _ => True) (fun q : Nat => s.heap.size ≤ q)) ([.ref hW] : List Value).toArray s 0 0 (fun q : Nat => s.heap.size ≤ q) = Q
  have hP : va_P D vwCl [(hW, .inr (10, [.int (nI R), .int (nI C), .int (nI K), .int fi, .int di, .int br, .int li]))] s.heap := hP
  obtain ⟨A, hAe⟩ : ∃ A, A = va_A [(hW, .inr (10, [.int (nI R), .int (nI C), .int (nI K), .int fi, .int di, .int br, .int li]))] s.heap.size := ⟨_, rfl⟩
  rw [← hAe] at hD hZ
  have hA : ∀ q : Nat, s.heap.size ≤ q → A q := fun q h => by rw [hAe]; exact Or.inr h
  obtain ⟨H, hHe⟩ : ∃ H, H = s.heap := ⟨_, rfl⟩
  obtain ⟨locs, hLe⟩ : ∃ L : List Loc, L = [] := ⟨_, rfl⟩
  have hP : va_P D vwCl [(hW, .inr (10, [.int (nI R), .int (nI C), .int (nI K), .int fi, .int di, .int br, .int li]))] H := by rw [hHe]; exact hP
  have hS : va_S (fun q : Nat => s.heap.size ≤ q) s.heap H locs := by rw [hHe, hLe]; exact hS
  have hgoal : W p l e ({ frames := 3, cells := 0, slots := 0, locals := 76 } : Room) s m ([.ref hW] : List Value).toArray below meth c H locs 0 0 Q (F0 m 0 ls []) := by
    clear hHe hLe
    refine lv_iconst (v := 0) hx hb dX3_isClear_0 (by decide) ?_
    refine lv_istore_n (lv' := [(1, .int 0), (0, .ref hW)]) hx hb dX3_isClear_1 rfl hl (by decide) rfl (fun ls hl => ?_)
    have lp_2 : ∀ (n0 i0 : Nat), i0 + n0 = K → ∀ (a0 : Unit) (H : Heap) (locs : List Loc) (ls : Array Slot), va_P D vwCl [(hW, .inr (10, [.int (nI R), .int (nI C), .int (nI K), .int fi, .int di, .int br, .int li]))] H → va_D A [(hW, .inr (10, [.int (nI R), .int (nI C), .int (nI K), .int fi, .int di, .int br, .int li]))] → va_S (fun q : Nat => s.heap.size ≤ q) s.heap H locs → lv_has ls 2 [(0, .ref hW), (1, .int (nI i0))] → (F_X3_isClear R C K fi di li) = L_X3_isClear_2 R C fi di li n0 i0 a0 → W p l e ({ frames := 3, cells := 0, slots := 0, locals := 76 } : Room) s m ([.ref hW] : List Value).toArray below meth c H locs 0 0 Q (F0 m 2 ls []) := by
      intro n0
      induction n0 with
      | zero =>
        intro i0 hi0 a0 H locs ls hP hD hS hl hE0
        have he0 : i0 = K := by omega
        refine lv_iload_n hx hb dX3_isClear_2 rfl (lv_at hl 1 rfl) ?_
        refine lv_aload_n hx hb dX3_isClear_3 rfl (lv_at hl 0 rfl) ?_
        refine va_get (D := D) (ci := 10) (v := .int (nI K)) (C := RX3) (T := TX3) (N := 7) hx hb hts in_X3 hown hK hP 0 rfl rfl 2 (by decide) (hts _ q_132) (fun _ h9 => h9) rfl dX3_isClear_4 ?_
        refine lv_icmp_ge (tgt := 39) hx hb dX3_isClear_7 (by decide) (fun c_1 => ?_) (fun c_1 => ?_)
        · refine lv_iconst (v := 1) hx hb dX3_isClear_39 (by decide) ?_
          subst hQe
          exact W.zret (ty := .boolean) (v := 1) hx hb hr (zb_narrow zb_1) (fun t ht hW => ⟨⟨1, (), rfl, ⟨(by rw [hE0, L_X3_isClear_2]), zb_1⟩, trivial⟩, hS.F ht⟩) hS.2.2 dX3_isClear_40
        · exact absurd (nI_le (a := K) (b := i0) (by omega) (by omega)) c_1
      | succ n0 ih0 =>
        intro i0 hi0 a0 H locs ls hP hD hS hl hE0
        refine lv_iload_n hx hb dX3_isClear_2 rfl (lv_at hl 1 rfl) ?_
        refine lv_aload_n hx hb dX3_isClear_3 rfl (lv_at hl 0 rfl) ?_
        refine va_get (D := D) (ci := 10) (v := .int (nI K)) (C := RX3) (T := TX3) (N := 7) hx hb hts in_X3 hown hK hP 0 rfl rfl 2 (by decide) (hts _ q_132) (fun _ h9 => h9) rfl dX3_isClear_4 ?_
        refine lv_icmp_ge (tgt := 39) hx hb dX3_isClear_7 (by decide) (fun c_2 => ?_) (fun c_2 => ?_)
        · exact absurd c_2 (nI_ge (a := i0) (b := K) (by omega) (by omega))
        · refine lv_aload_n hx hb dX3_isClear_10 rfl (lv_at hl 0 rfl) ?_
          refine lv_aload_n hx hb dX3_isClear_11 rfl (lv_at hl 0 rfl) ?_
          refine va_get (D := D) (ci := 10) (v := .int fi) (C := RX3) (T := TX3) (N := 7) hx hb hts in_X3 hown hK hP 0 rfl rfl 3 (by decide) (hts _ q_134) (fun _ h9 => h9) rfl dX3_isClear_12 ?_
          refine lv_iconst (v := 1) hx hb dX3_isClear_15 (by decide) ?_
          refine lv_iload_n hx hb dX3_isClear_16 rfl (lv_at hl 1 rfl) ?_
          refine lv_ishl hx hb dX3_isClear_17 ?_
          refine lv_iconst (v := (-1)) hx hb dX3_isClear_18 (by decide) ?_
          refine lv_ixor hx hb dX3_isClear_19 ?_
          refine lv_iand hx hb dX3_isClear_20 ?_
          have hPc := hP.sub (ws' := [(hW, .inr (10, [.int (nI R), .int (nI C), .int (nI K), .int fi, .int di, .int br, .int li]))]) [0] rfl
          have hDc := hD.sub (ws' := [(hW, .inr (10, [.int (nI R), .int (nI C), .int (nI K), .int fi, .int di, .int br, .int li]))]) [0] (by decide) rfl
          have hFc := va_free (wc := [(hW, .inr (10, [.int (nI R), .int (nI C), .int (nI K), .int fi, .int di, .int br, .int li]))]) hD (va_S_up hS hA) hA [0] rfl
          refine va_calli (va_runV (As := [.int (fi &&& (((1 : Int32) <<< ((nI i0) &&& 31)) ^^^ (-1)))]) (rest := []) ⟨hx, hb, hml, hown, hts⟩ (c_X3_seenIf l D hW R C K fi di br li (fi &&& (((1 : Int32) <<< ((nI i0) &&& 31)) ^^^ (-1))) H.size (show R ≤ 5 from hR)) (cwV 1 hts (gi_V q_741 q_743 q_12 q_81 q_744) rfl rfl rfl (by decide +kernel) ⟨Nat.le_of_ble_eq_true rfl, Nat.le_of_ble_eq_true rfl⟩) ⟨cPre_blind, va_recv hK hP (ci := 10) (q0 := 0) rfl rfl, cPre_mk hPc hK hDc hN (lwZ_for hZ (va_S_up hS hA) hFc)⟩ rfl rfl hl.1 rfl (lv_room (Nat.le_of_ble_eq_true rfl)) dX3_isClear_21 ⟨(Nat.le_of_ble_eq_true rfl), (Nat.le_of_ble_eq_true rfl)⟩) hS (fun q h1 h2 => absurd h2 (Nat.not_le.mpr h1)) (fun q h => Nat.le_trans hS.1 h) (fun r_21 u t H1 locs ht hvm hw hBk hz1 hk1 hS => ?_)
          have hP := va_P_ro hP hk1
          subst hw
          clear hBk hvm ht u hz1 hk1
          clear hPc hDc hFc; clear t
          generalize H1 = H at hP hS ⊢
          refine lv_iload_n hx hb dX3_isClear_24 rfl (lv_at hl 1 rfl) ?_
          have hPc := hP.sub (ws' := []) [] rfl
          have hDc := hD.sub (ws' := []) [] (by decide) rfl
          have hFc := va_free (wc := []) hD (va_S_up hS hA) hA [] rfl
          refine va_calli (va_runSN (As := [.int (F_X3_seenIf R C fi di li (fi &&& (((1 : Int32) <<< ((nI i0) &&& 31)) ^^^ (-1)))), .int (nI i0)]) (rest := []) ⟨hx, hb, hml, hown, hts⟩ (c_X4_holds l D (F_X3_seenIf R C fi di li (fi &&& (((1 : Int32) <<< ((nI i0) &&& 31)) ^^^ (-1)))) (nI i0) H.size ) ⟨va_cnB 2 hts (gi_sub q_713) rfl rfl rfl (hN.1 _ n_711) (hts _ q_80) (by decide +kernel) ⟨Nat.le_of_ble_eq_true rfl, Nat.le_of_ble_eq_true rfl⟩, (hts _ q_712), trivial⟩ ⟨cPre_blind, cPre_mk hPc hK hDc hN (lwZ_for hZ (va_S_up hS hA) hFc)⟩ rfl rfl hl.1 rfl (lv_room (Nat.le_of_ble_eq_true rfl)) dX3_isClear_25 ⟨(Nat.le_of_ble_eq_true rfl), (Nat.le_of_ble_eq_true rfl)⟩) hS (fun q h1 h2 => absurd h2 (Nat.not_le.mpr h1)) (fun q h => Nat.le_trans hS.1 h) (fun r_25 u t H1 locs ht hvm hw hBk hz1 hk1 hS => ?_)
          have hP := va_P_ro hP hk1
          obtain ⟨hw, z_3⟩ := hw
          rw [hw] at z_3
          subst hw
          clear hBk hvm ht u hz1 hk1
          clear hPc hDc hFc; clear t
          generalize H1 = H at hP hS ⊢
          refine lv_if_eq (tgt := 33) hx hb dX3_isClear_28 (by decide) (fun c_4 => ?_) (fun c_4 => ?_)
          · refine lv_iinc (v := nI (i0 + 1)) (lv' := [(1, .int (nI (i0 + 1))), (0, .ref hW)]) hx hb dX3_isClear_33 hl (k := 1) rfl (nI_1 _) (by decide) rfl (fun ls hl => ?_)
            refine lv_goto (tgt := 2) hx hb dX3_isClear_36 (by decide) ?_
            have hl : lv_has ls 2 [(0, .ref hW), (1, .int (nI (i0 + 1)))] := lv_sub hl [1, 0] rfl
            have hP := hP.sub (ws' := [(hW, .inr (10, [.int (nI R), .int (nI C), .int (nI K), .int fi, .int di, .int br, .int li]))]) [0] rfl
            have hD := hD.sub (ws' := [(hW, .inr (10, [.int (nI R), .int (nI C), .int (nI K), .int fi, .int di, .int br, .int li]))]) [0] (by decide) rfl
            exact ih0 (i0 + 1) (by omega) () H locs ls hP hD hS hl (by rw [hE0, L_X3_isClear_2, if_pos c_4])
          · refine lv_iconst (v := 0) hx hb dX3_isClear_31 (by decide) ?_
            subst hQe
            exact W.zret (ty := .boolean) (v := 0) hx hb hr (zb_narrow zb_0) (fun t ht hW => ⟨⟨0, (), rfl, ⟨(by rw [hE0, L_X3_isClear_2, if_neg c_4]), zb_0⟩, trivial⟩, hS.F ht⟩) hS.2.2 dX3_isClear_32
    have hl : lv_has ls 2 [(0, .ref hW), (1, .int (nI 0))] := lv_sub hl [1, 0] rfl
    exact lp_2 K 0 (by omega) () H locs ls hP hD hS hl (by rfl)
  rw [hHe, hLe] at hgoal
  exact hgoal

def T_X3_wayRound_5 (C : Nat) (x1 : Int32) : Int32 := F_X3_rowOf C x1
def T_X3_wayRound_14 (C : Nat) (x1 : Int32) : Int32 := x1 - ((T_X3_wayRound_5 C x1) * (nI C))
def T_X3_wayRound_26 (li : Int32) (x1 : Int32) : Int32 := li &&& (((1 : Int32) <<< (x1 &&& 31)) ^^^ (-1))
def T_X3_wayRound_34 (li : Int32) (x1 : Int32) (x2 : Int32) : Int32 := (T_X3_wayRound_26 li x1) &&& (x2 ^^^ (-1))
def T_X3_wayRound_43 (C : Nat) (li : Int32) (x1 : Int32) : Int32 := F_X3_columnsOf C (T_X3_wayRound_26 li x1) (T_X3_wayRound_5 C x1)
def L_X3_wayRound_48 (R : Nat) (C : Nat) (li : Int32) (x1 : Int32) (x2 : Int32) : Nat → Nat → (Int32) → Int32
  | 0, i0, a0 => (-1)
  | n0 + 1, i0, a0 => (if (F_X4_holds (F_X3_spread R C a0 (T_X3_wayRound_26 li x1) (T_X3_wayRound_34 li x1 x2) 1) (T_X3_wayRound_14 C x1)) = 0 then L_X3_wayRound_48 R C li x1 x2 n0 (i0 + 1) (F_X3_spread R C a0 (T_X3_wayRound_26 li x1) (T_X3_wayRound_34 li x1 x2) 1) else nI (2 * i0 + 3))
def F_X3_wayRound (R : Nat) (C : Nat) (li : Int32) (x1 : Int32) (x2 : Int32) : Int32 := L_X3_wayRound_48 R C li x1 x2 (R - 1) 0 (T_X3_wayRound_43 C li x1)
set_option maxHeartbeats 4000000 in
set_option maxRecDepth 100000 in
theorem c_X3_wayRound (l : Launch) (D : va_G) (hW : Nat) (R : Nat) (C : Nat) (K : Nat) (fi : Int32) (di : Int32) (br : Int32) (li : Int32) (x1 : Int32) (x2 : Int32) (sz : Nat) (hR : R ≤ 5) : Met l yX3_wayRound (Cond.code yX3_wayRound cX3_wayRound 9 (some .int) :: lwAll) ({ frames := 2, cells := 0, slots := 0, locals := 50 } : Room) (va_Pc [.ref hW, .int x1, .int x2] (cPre D (lwTY D) [(hW, .inr (10, [.int (nI R), .int (nI C), .int (nI K), .int fi, .int di, .int br, .int li]))] sz)) (va_Qi (fun (r : Int32) (_ : Unit) => r = (F_X3_wayRound R C li x1 x2)) (fun _ _ => True) (fun q : Nat => sz ≤ q)) 0 0 (fun q : Nat => sz ≤ q) := by
  refine Met.ofW (cc := cX3_wayRound) (maxL := 9) (ret := (some .int)) (by decide) rfl ?_
  intro p e s m args below meth c s₁ B hml hv
  obtain ⟨rfl, hsz, hP, hK, hD0, hN, hZ⟩ := hv
  have hx := B.exec
  have hb := B.bytes
  have hr := B.returns
  have hts : ∀ wd ∈ lwAll, wd.before ([.ref hW, .int x1, .int x2] : List Value).toArray s = true := fun wd h => atoms_spec (ws := (Cond.code yX3_wayRound cX3_wayRound 9 (some .int) :: lwAll)) B.pre wd (List.mem_cons_of_mem _ h)
  have hown : s.vm.findClass RX3 = some m.cls := findClass_of_methodNamed B.named
  have hlocks := B.notSynchronized
  subst hsz
  have hD := hD0.self (sz := s.heap.size)
  have hl := lv_entry ([.ref hW, .int x1, .int x2]) (n := 9) (Nat.le_of_ble_eq_true rfl)
  rw [lg_entry_eq]
  generalize (lg_sl ([.ref hW, .int x1, .int x2]) ++ List.replicate (9 - (lg_sl ([.ref hW, .int x1, .int x2])).length) Slot.unset).toArray = ls at hl ⊢
  have hl : lv_has ls 9 [(0, .ref hW), (1, .int x1), (2, .int x2)] := hl
  have hS : va_S (fun q : Nat => s.heap.size ≤ q) s.heap s.heap [] := va_S.rf
  generalize hQe : MQ below (va_Qi (fun (r : Int32) (_ : Unit) => r = (F_X3_wayRound R C li x1 x2)) (fun _ _ => True) (fun q : Nat => s.heap.size ≤ q)) ([.ref hW, .int x1, .int x2] : List Value).toArray s 0 0 (fun q : Nat => s.heap.size ≤ q) = Q
  have hP : va_P D vwCl [(hW, .inr (10, [.int (nI R), .int (nI C), .int (nI K), .int fi, .int di, .int br, .int li]))] s.heap := hP
  obtain ⟨A, hAe⟩ : ∃ A, A = va_A [(hW, .inr (10, [.int (nI R), .int (nI C), .int (nI K), .int fi, .int di, .int br, .int li]))] s.heap.size := ⟨_, rfl⟩
  rw [← hAe] at hD hZ
  have hA : ∀ q : Nat, s.heap.size ≤ q → A q := fun q h => by rw [hAe]; exact Or.inr h
  obtain ⟨H, hHe⟩ : ∃ H, H = s.heap := ⟨_, rfl⟩
  obtain ⟨locs, hLe⟩ : ∃ L : List Loc, L = [] := ⟨_, rfl⟩
  have hP : va_P D vwCl [(hW, .inr (10, [.int (nI R), .int (nI C), .int (nI K), .int fi, .int di, .int br, .int li]))] H := by rw [hHe]; exact hP
  have hS : va_S (fun q : Nat => s.heap.size ≤ q) s.heap H locs := by rw [hHe, hLe]; exact hS
  have hgoal : W p l e ({ frames := 2, cells := 0, slots := 0, locals := 50 } : Room) s m ([.ref hW, .int x1, .int x2] : List Value).toArray below meth c H locs 0 0 Q (F0 m 0 ls []) := by
    clear hHe hLe
    refine lv_aload_n hx hb dX3_wayRound_0 rfl (lv_at hl 0 rfl) ?_
    refine lv_iload_n hx hb dX3_wayRound_1 rfl (lv_at hl 1 rfl) ?_
    have hPc := hP.sub (ws' := [(hW, .inr (10, [.int (nI R), .int (nI C), .int (nI K), .int fi, .int di, .int br, .int li]))]) [0] rfl
    have hDc := hD.sub (ws' := [(hW, .inr (10, [.int (nI R), .int (nI C), .int (nI K), .int fi, .int di, .int br, .int li]))]) [0] (by decide) rfl
    have hFc := va_free (wc := [(hW, .inr (10, [.int (nI R), .int (nI C), .int (nI K), .int fi, .int di, .int br, .int li]))]) hD (va_S_up hS hA) hA [0] rfl
    refine va_calli (va_runV (As := [.int x1]) (rest := []) ⟨hx, hb, hml, hown, hts⟩ (c_X3_rowOf l D hW R C K fi di br li x1 H.size ) (cwV 1 hts (gi_V q_718 q_720 q_9 q_81 q_721) rfl rfl rfl (by decide +kernel) ⟨Nat.le_of_ble_eq_true rfl, Nat.le_of_ble_eq_true rfl⟩) ⟨cPre_blind, va_recv hK hP (ci := 10) (q0 := 0) rfl rfl, cPre_mk hPc hK hDc hN (lwZ_for hZ (va_S_up hS hA) hFc)⟩ rfl rfl hl.1 rfl (lv_room (Nat.le_of_ble_eq_true rfl)) dX3_wayRound_2 ⟨(Nat.le_of_ble_eq_true rfl), (Nat.le_of_ble_eq_true rfl)⟩) hS (fun q h1 h2 => absurd h2 (Nat.not_le.mpr h1)) (fun q h => Nat.le_trans hS.1 h) (fun r_2 u t H1 locs ht hvm hw hBk hz1 hk1 hS => ?_)
    have hP := va_P_ro hP hk1
    subst hw
    clear hBk hvm ht u hz1 hk1
    clear hPc hDc hFc; clear t
    generalize H1 = H at hP hS ⊢
    refine lv_istore_n (lv' := [(3, .int (F_X3_rowOf C x1)), (0, .ref hW), (1, .int x1), (2, .int x2)]) hx hb dX3_wayRound_5 rfl hl (by decide) rfl (fun ls hl => ?_)
    have hl : lv_has ls 9 [(3, .int (T_X3_wayRound_5 C x1)), (0, .ref hW), (1, .int x1), (2, .int x2)] := hl
    refine lv_iload_n hx hb dX3_wayRound_6 rfl (lv_at hl 2 rfl) ?_
    refine lv_iload_n hx hb dX3_wayRound_7 rfl (lv_at hl 0 rfl) ?_
    refine lv_aload_n hx hb dX3_wayRound_8 rfl (lv_at hl 1 rfl) ?_
    refine va_get (D := D) (ci := 10) (v := .int (nI C)) (C := RX3) (T := TX3) (N := 7) hx hb hts in_X3 hown hK hP 0 rfl rfl 1 (by decide) (hts _ q_130) (fun _ h9 => h9) rfl dX3_wayRound_9 ?_
    refine lv_imul hx hb dX3_wayRound_12 ?_
    refine lv_isub hx hb dX3_wayRound_13 ?_
    refine lv_istore (lv' := [(4, .int (x1 - ((T_X3_wayRound_5 C x1) * (nI C)))), (3, .int (T_X3_wayRound_5 C x1)), (0, .ref hW), (1, .int x1), (2, .int x2)]) hx hb dX3_wayRound_14 hl (by decide) rfl (fun ls hl => ?_)
    have hl : lv_has ls 9 [(4, .int (T_X3_wayRound_14 C x1)), (3, .int (T_X3_wayRound_5 C x1)), (0, .ref hW), (1, .int x1), (2, .int x2)] := hl
    refine lv_aload_n hx hb dX3_wayRound_16 rfl (lv_at hl 2 rfl) ?_
    refine va_get (D := D) (ci := 10) (v := .int li) (C := RX3) (T := TX3) (N := 7) hx hb hts in_X3 hown hK hP 0 rfl rfl 6 (by decide) (hts _ q_140) (fun _ h9 => h9) rfl dX3_wayRound_17 ?_
    refine lv_iconst (v := 1) hx hb dX3_wayRound_20 (by decide) ?_
    refine lv_iload_n hx hb dX3_wayRound_21 rfl (lv_at hl 3 rfl) ?_
    refine lv_ishl hx hb dX3_wayRound_22 ?_
    refine lv_iconst (v := (-1)) hx hb dX3_wayRound_23 (by decide) ?_
    refine lv_ixor hx hb dX3_wayRound_24 ?_
    refine lv_iand hx hb dX3_wayRound_25 ?_
    refine lv_istore (lv' := [(5, .int (li &&& (((1 : Int32) <<< (x1 &&& 31)) ^^^ (-1)))), (4, .int (T_X3_wayRound_14 C x1)), (3, .int (T_X3_wayRound_5 C x1)), (0, .ref hW), (1, .int x1), (2, .int x2)]) hx hb dX3_wayRound_26 hl (by decide) rfl (fun ls hl => ?_)
    have hl : lv_has ls 9 [(5, .int (T_X3_wayRound_26 li x1)), (4, .int (T_X3_wayRound_14 C x1)), (3, .int (T_X3_wayRound_5 C x1)), (0, .ref hW), (1, .int x1), (2, .int x2)] := hl
    refine lv_iload hx hb dX3_wayRound_28 (lv_at hl 0 rfl) ?_
    refine lv_iload_n hx hb dX3_wayRound_30 rfl (lv_at hl 5 rfl) ?_
    refine lv_iconst (v := (-1)) hx hb dX3_wayRound_31 (by decide) ?_
    refine lv_ixor hx hb dX3_wayRound_32 ?_
    refine lv_iand hx hb dX3_wayRound_33 ?_
    refine lv_istore (lv' := [(6, .int ((T_X3_wayRound_26 li x1) &&& (x2 ^^^ (-1)))), (5, .int (T_X3_wayRound_26 li x1)), (4, .int (T_X3_wayRound_14 C x1)), (3, .int (T_X3_wayRound_5 C x1)), (0, .ref hW), (1, .int x1), (2, .int x2)]) hx hb dX3_wayRound_34 hl (by decide) rfl (fun ls hl => ?_)
    have hl : lv_has ls 9 [(6, .int (T_X3_wayRound_34 li x1 x2)), (5, .int (T_X3_wayRound_26 li x1)), (4, .int (T_X3_wayRound_14 C x1)), (3, .int (T_X3_wayRound_5 C x1)), (0, .ref hW), (1, .int x1), (2, .int x2)] := hl
    refine lv_aload_n hx hb dX3_wayRound_36 rfl (lv_at hl 4 rfl) ?_
    refine lv_iload hx hb dX3_wayRound_37 (lv_at hl 1 rfl) ?_
    refine lv_iload_n hx hb dX3_wayRound_39 rfl (lv_at hl 3 rfl) ?_
    have hPc := hP.sub (ws' := [(hW, .inr (10, [.int (nI R), .int (nI C), .int (nI K), .int fi, .int di, .int br, .int li]))]) [0] rfl
    have hDc := hD.sub (ws' := [(hW, .inr (10, [.int (nI R), .int (nI C), .int (nI K), .int fi, .int di, .int br, .int li]))]) [0] (by decide) rfl
    have hFc := va_free (wc := [(hW, .inr (10, [.int (nI R), .int (nI C), .int (nI K), .int fi, .int di, .int br, .int li]))]) hD (va_S_up hS hA) hA [0] rfl
    refine va_calli (va_runV (As := [.int (T_X3_wayRound_26 li x1), .int (T_X3_wayRound_5 C x1)]) (rest := []) ⟨hx, hb, hml, hown, hts⟩ (c_X3_columnsOf l D hW R C K fi di br li (T_X3_wayRound_26 li x1) (T_X3_wayRound_5 C x1) H.size ) (cwV 2 hts (gi_V q_722 q_724 q_10 q_81 q_725) rfl rfl rfl (by decide +kernel) ⟨Nat.le_of_ble_eq_true rfl, Nat.le_of_ble_eq_true rfl⟩) ⟨cPre_blind, va_recv hK hP (ci := 10) (q0 := 0) rfl rfl, cPre_mk hPc hK hDc hN (lwZ_for hZ (va_S_up hS hA) hFc)⟩ rfl rfl hl.1 rfl (lv_room (Nat.le_of_ble_eq_true rfl)) dX3_wayRound_40 ⟨(Nat.le_of_ble_eq_true rfl), (Nat.le_of_ble_eq_true rfl)⟩) hS (fun q h1 h2 => absurd h2 (Nat.not_le.mpr h1)) (fun q h => Nat.le_trans hS.1 h) (fun r_40 u t H1 locs ht hvm hw hBk hz1 hk1 hS => ?_)
    have hP := va_P_ro hP hk1
    subst hw
    clear hBk hvm ht u hz1 hk1
    clear hPc hDc hFc; clear t
    generalize H1 = H at hP hS ⊢
    refine lv_istore (lv' := [(7, .int (F_X3_columnsOf C (T_X3_wayRound_26 li x1) (T_X3_wayRound_5 C x1))), (6, .int (T_X3_wayRound_34 li x1 x2)), (5, .int (T_X3_wayRound_26 li x1)), (4, .int (T_X3_wayRound_14 C x1)), (3, .int (T_X3_wayRound_5 C x1)), (0, .ref hW), (1, .int x1), (2, .int x2)]) hx hb dX3_wayRound_43 hl (by decide) rfl (fun ls hl => ?_)
    have hl : lv_has ls 9 [(7, .int (T_X3_wayRound_43 C li x1)), (6, .int (T_X3_wayRound_34 li x1 x2)), (5, .int (T_X3_wayRound_26 li x1)), (4, .int (T_X3_wayRound_14 C x1)), (3, .int (T_X3_wayRound_5 C x1)), (0, .ref hW), (1, .int x1), (2, .int x2)] := hl
    refine lv_iconst (v := 3) hx hb dX3_wayRound_45 (by decide) ?_
    refine lv_istore (lv' := [(8, .int 3), (7, .int (T_X3_wayRound_43 C li x1)), (6, .int (T_X3_wayRound_34 li x1 x2)), (5, .int (T_X3_wayRound_26 li x1)), (4, .int (T_X3_wayRound_14 C x1)), (3, .int (T_X3_wayRound_5 C x1)), (0, .ref hW), (1, .int x1), (2, .int x2)]) hx hb dX3_wayRound_46 hl (by decide) rfl (fun ls hl => ?_)
    have lp_48 : ∀ (n0 i0 : Nat), i0 + n0 = (R - 1) → ∀ (a0 : Int32) (H : Heap) (locs : List Loc) (ls : Array Slot), va_P D vwCl [(hW, .inr (10, [.int (nI R), .int (nI C), .int (nI K), .int fi, .int di, .int br, .int li]))] H → va_D A [(hW, .inr (10, [.int (nI R), .int (nI C), .int (nI K), .int fi, .int di, .int br, .int li]))] → va_S (fun q : Nat => s.heap.size ≤ q) s.heap H locs → lv_has ls 9 [(0, .ref hW), (1, .int x1), (2, .int x2), (3, .int (T_X3_wayRound_5 C x1)), (4, .int (T_X3_wayRound_14 C x1)), (5, .int (T_X3_wayRound_26 li x1)), (6, .int (T_X3_wayRound_34 li x1 x2)), (7, .int a0), (8, .int (nI (2 * i0 + 3)))] → (F_X3_wayRound R C li x1 x2) = L_X3_wayRound_48 R C li x1 x2 n0 i0 a0 → W p l e ({ frames := 2, cells := 0, slots := 0, locals := 50 } : Room) s m ([.ref hW, .int x1, .int x2] : List Value).toArray below meth c H locs 0 0 Q (F0 m 48 ls []) := by
      intro n0
      induction n0 with
      | zero =>
        intro i0 hi0 a0 H locs ls hP hD hS hl hE0
        have he0 : i0 = (R - 1) := by omega
        refine lv_iload hx hb dX3_wayRound_48 (lv_at hl 8 rfl) ?_
        refine lv_iconst (v := 2) hx hb dX3_wayRound_50 (by decide) ?_
        refine lv_aload_n hx hb dX3_wayRound_51 rfl (lv_at hl 0 rfl) ?_
        refine va_get (D := D) (ci := 10) (v := .int (nI R)) (C := RX3) (T := TX3) (N := 7) hx hb hts in_X3 hown hK hP 0 rfl rfl 0 (by decide) (hts _ q_128) (fun _ h9 => h9) rfl dX3_wayRound_52 ?_
        refine lv_imul hx hb dX3_wayRound_55 ?_
        refine lv_icmp_ge (tgt := 91) hx hb dX3_wayRound_56 (by decide) (fun c_1 => ?_) (fun c_1 => ?_)
        · refine lv_iconst (v := (-1)) hx hb dX3_wayRound_91 (by decide) ?_
          subst hQe
          exact W.iret (v := (-1)) hx hb hr (fun t ht hW => ⟨⟨(-1), (), rfl, (by rw [hE0, L_X3_wayRound_48]), trivial⟩, hS.F ht⟩) hS.2.2 dX3_wayRound_92
        · exact absurd (by rw [show (2 : Int32) = nI 2 from rfl, pk_mul]; exact nI_le (by omega) (by omega)) c_1
      | succ n0 ih0 =>
        intro i0 hi0 a0 H locs ls hP hD hS hl hE0
        refine lv_iload hx hb dX3_wayRound_48 (lv_at hl 8 rfl) ?_
        refine lv_iconst (v := 2) hx hb dX3_wayRound_50 (by decide) ?_
        refine lv_aload_n hx hb dX3_wayRound_51 rfl (lv_at hl 0 rfl) ?_
        refine va_get (D := D) (ci := 10) (v := .int (nI R)) (C := RX3) (T := TX3) (N := 7) hx hb hts in_X3 hown hK hP 0 rfl rfl 0 (by decide) (hts _ q_128) (fun _ h9 => h9) rfl dX3_wayRound_52 ?_
        refine lv_imul hx hb dX3_wayRound_55 ?_
        refine lv_icmp_ge (tgt := 91) hx hb dX3_wayRound_56 (by decide) (fun c_2 => ?_) (fun c_2 => ?_)
        · exact absurd c_2 (by rw [show (2 : Int32) = nI 2 from rfl, pk_mul]; exact nI_ge (by omega) (by omega))
        · refine lv_aload_n hx hb dX3_wayRound_59 rfl (lv_at hl 0 rfl) ?_
          refine lv_iload hx hb dX3_wayRound_60 (lv_at hl 7 rfl) ?_
          refine lv_iload hx hb dX3_wayRound_62 (lv_at hl 5 rfl) ?_
          refine lv_iload hx hb dX3_wayRound_64 (lv_at hl 6 rfl) ?_
          refine lv_iconst (v := 1) hx hb dX3_wayRound_66 (by decide) ?_
          have hPc := hP.sub (ws' := [(hW, .inr (10, [.int (nI R), .int (nI C), .int (nI K), .int fi, .int di, .int br, .int li]))]) [0] rfl
          have hDc := hD.sub (ws' := [(hW, .inr (10, [.int (nI R), .int (nI C), .int (nI K), .int fi, .int di, .int br, .int li]))]) [0] (by decide) rfl
          have hFc := va_free (wc := [(hW, .inr (10, [.int (nI R), .int (nI C), .int (nI K), .int fi, .int di, .int br, .int li]))]) hD (va_S_up hS hA) hA [0] rfl
          refine va_calli (va_runV (As := [.int a0, .int (T_X3_wayRound_26 li x1), .int (T_X3_wayRound_34 li x1 x2), .int 1]) (rest := []) ⟨hx, hb, hml, hown, hts⟩ (c_X3_spread l D hW R C K fi di br li a0 (T_X3_wayRound_26 li x1) (T_X3_wayRound_34 li x1 x2) 1 1 H.size (show R ≤ 5 from hR) (show 1 ≤ 5 from (by omega)) (show 1 = nI 1 from rfl)) (cwV 4 hts (gi_V q_745 q_747 q_13 q_81 q_748) rfl rfl rfl (by decide +kernel) ⟨Nat.le_of_ble_eq_true rfl, Nat.le_of_ble_eq_true rfl⟩) ⟨cPre_blind, va_recv hK hP (ci := 10) (q0 := 0) rfl rfl, cPre_mk hPc hK hDc hN (lwZ_for hZ (va_S_up hS hA) hFc)⟩ rfl rfl hl.1 rfl (lv_room (Nat.le_of_ble_eq_true rfl)) dX3_wayRound_67 ⟨(Nat.le_of_ble_eq_true rfl), (Nat.le_of_ble_eq_true rfl)⟩) hS (fun q h1 h2 => absurd h2 (Nat.not_le.mpr h1)) (fun q h => Nat.le_trans hS.1 h) (fun r_67 u t H1 locs ht hvm hw hBk hz1 hk1 hS => ?_)
          have hP := va_P_ro hP hk1
          subst hw
          clear hBk hvm ht u hz1 hk1
          clear hPc hDc hFc; clear t
          generalize H1 = H at hP hS ⊢
          refine lv_istore (lv' := [(7, .int (F_X3_spread R C a0 (T_X3_wayRound_26 li x1) (T_X3_wayRound_34 li x1 x2) 1)), (0, .ref hW), (1, .int x1), (2, .int x2), (3, .int (T_X3_wayRound_5 C x1)), (4, .int (T_X3_wayRound_14 C x1)), (5, .int (T_X3_wayRound_26 li x1)), (6, .int (T_X3_wayRound_34 li x1 x2)), (8, .int (nI (2 * i0 + 3)))]) hx hb dX3_wayRound_70 hl (by decide) rfl (fun ls hl => ?_)
          refine lv_iload hx hb dX3_wayRound_72 (lv_at hl 0 rfl) ?_
          refine lv_iload hx hb dX3_wayRound_74 (lv_at hl 5 rfl) ?_
          have hPc := hP.sub (ws' := []) [] rfl
          have hDc := hD.sub (ws' := []) [] (by decide) rfl
          have hFc := va_free (wc := []) hD (va_S_up hS hA) hA [] rfl
          refine va_calli (va_runSN (As := [.int (F_X3_spread R C a0 (T_X3_wayRound_26 li x1) (T_X3_wayRound_34 li x1 x2) 1), .int (T_X3_wayRound_14 C x1)]) (rest := []) ⟨hx, hb, hml, hown, hts⟩ (c_X4_holds l D (F_X3_spread R C a0 (T_X3_wayRound_26 li x1) (T_X3_wayRound_34 li x1 x2) 1) (T_X3_wayRound_14 C x1) H.size ) ⟨va_cnB 2 hts (gi_sub q_713) rfl rfl rfl (hN.1 _ n_711) (hts _ q_80) (by decide +kernel) ⟨Nat.le_of_ble_eq_true rfl, Nat.le_of_ble_eq_true rfl⟩, (hts _ q_712), trivial⟩ ⟨cPre_blind, cPre_mk hPc hK hDc hN (lwZ_for hZ (va_S_up hS hA) hFc)⟩ rfl rfl hl.1 rfl (lv_room (Nat.le_of_ble_eq_true rfl)) dX3_wayRound_76 ⟨(Nat.le_of_ble_eq_true rfl), (Nat.le_of_ble_eq_true rfl)⟩) hS (fun q h1 h2 => absurd h2 (Nat.not_le.mpr h1)) (fun q h => Nat.le_trans hS.1 h) (fun r_76 u t H1 locs ht hvm hw hBk hz1 hk1 hS => ?_)
          have hP := va_P_ro hP hk1
          obtain ⟨hw, z_3⟩ := hw
          rw [hw] at z_3
          subst hw
          clear hBk hvm ht u hz1 hk1
          clear hPc hDc hFc; clear t
          generalize H1 = H at hP hS ⊢
          refine lv_if_eq (tgt := 85) hx hb dX3_wayRound_79 (by decide) (fun c_4 => ?_) (fun c_4 => ?_)
          · refine lv_iinc (v := nI (2 * (i0 + 1) + 3)) (lv' := [(8, .int (nI (2 * (i0 + 1) + 3))), (7, .int (F_X3_spread R C a0 (T_X3_wayRound_26 li x1) (T_X3_wayRound_34 li x1 x2) 1)), (0, .ref hW), (1, .int x1), (2, .int x2), (3, .int (T_X3_wayRound_5 C x1)), (4, .int (T_X3_wayRound_14 C x1)), (5, .int (T_X3_wayRound_26 li x1)), (6, .int (T_X3_wayRound_34 li x1 x2))]) hx hb dX3_wayRound_85 hl (k := 8) rfl ((by rw [show Int32.ofInt 2 = nI 2 from rfl, nI_add]; exact congrArg nI (by omega))) (by decide) rfl (fun ls hl => ?_)
            refine lv_goto (tgt := 48) hx hb dX3_wayRound_88 (by decide) ?_
            have hl : lv_has ls 9 [(0, .ref hW), (1, .int x1), (2, .int x2), (3, .int (T_X3_wayRound_5 C x1)), (4, .int (T_X3_wayRound_14 C x1)), (5, .int (T_X3_wayRound_26 li x1)), (6, .int (T_X3_wayRound_34 li x1 x2)), (7, .int (F_X3_spread R C a0 (T_X3_wayRound_26 li x1) (T_X3_wayRound_34 li x1 x2) 1)), (8, .int (nI (2 * (i0 + 1) + 3)))] := lv_sub hl [2, 3, 4, 5, 6, 7, 8, 1, 0] rfl
            have hP := hP.sub (ws' := [(hW, .inr (10, [.int (nI R), .int (nI C), .int (nI K), .int fi, .int di, .int br, .int li]))]) [0] rfl
            have hD := hD.sub (ws' := [(hW, .inr (10, [.int (nI R), .int (nI C), .int (nI K), .int fi, .int di, .int br, .int li]))]) [0] (by decide) rfl
            exact ih0 (i0 + 1) (by omega) (F_X3_spread R C a0 (T_X3_wayRound_26 li x1) (T_X3_wayRound_34 li x1 x2) 1) H locs ls hP hD hS hl (by rw [hE0, L_X3_wayRound_48, if_pos c_4])
          · refine lv_iload hx hb dX3_wayRound_82 (lv_at hl 8 rfl) ?_
            subst hQe
            exact W.iret (v := nI (2 * i0 + 3)) hx hb hr (fun t ht hW => ⟨⟨nI (2 * i0 + 3), (), rfl, (by rw [hE0, L_X3_wayRound_48, if_neg c_4]), trivial⟩, hS.F ht⟩) hS.2.2 dX3_wayRound_84
    have hl : lv_has ls 9 [(0, .ref hW), (1, .int x1), (2, .int x2), (3, .int (T_X3_wayRound_5 C x1)), (4, .int (T_X3_wayRound_14 C x1)), (5, .int (T_X3_wayRound_26 li x1)), (6, .int (T_X3_wayRound_34 li x1 x2)), (7, .int (T_X3_wayRound_43 C li x1)), (8, .int (nI (2 * 0 + 3)))] := lv_sub hl [6, 7, 8, 5, 4, 3, 2, 1, 0] rfl
    exact lp_48 (R - 1) 0 (by omega) (T_X3_wayRound_43 C li x1) H locs ls hP hD hS hl (by rfl)
  rw [hHe, hLe] at hgoal
  exact hgoal

def S_X3_leastKeys_4 (R : Nat) (C : Nat) (li : Int32) (x1 : Int32) (i0 : Nat) (a0 : Int32) : Int32 := (if (F_X4_holds li (nI i0)) = 0 then a0 else (if (F_X3_wayRound R C li (nI i0) x1) = (-1) then a0 else (if a0 = (-1) then F_X3_wayRound R C li (nI i0) x1 else (if a0 ≤ (F_X3_wayRound R C li (nI i0) x1) then a0 else F_X3_wayRound R C li (nI i0) x1))))
def F_X3_leastKeys (R : Nat) (C : Nat) (K : Nat) (li : Int32) (x1 : Int32) : Int32 := (itr (fun i a => S_X3_leastKeys_4 R C li x1 i a) K 0 (-1))
set_option maxHeartbeats 4000000 in
set_option maxRecDepth 100000 in
theorem c_X3_leastKeys (l : Launch) (D : va_G) (hW : Nat) (R : Nat) (C : Nat) (K : Nat) (fi : Int32) (di : Int32) (br : Int32) (li : Int32) (x1 : Int32) (sz : Nat) (hR : R ≤ 5) (hKb : K ≤ 25) : Met l yX3_leastKeys (Cond.code yX3_leastKeys cX3_leastKeys 5 (some .int) :: lwAll) ({ frames := 3, cells := 0, slots := 0, locals := 78 } : Room) (va_Pc [.ref hW, .int x1] (cPre D (lwTY D) [(hW, .inr (10, [.int (nI R), .int (nI C), .int (nI K), .int fi, .int di, .int br, .int li]))] sz)) (va_Qi (fun (r : Int32) (_ : Unit) => r = (F_X3_leastKeys R C K li x1)) (fun _ _ => True) (fun q : Nat => sz ≤ q)) 0 0 (fun q : Nat => sz ≤ q) := by
  refine Met.ofW (cc := cX3_leastKeys) (maxL := 5) (ret := (some .int)) (by decide) rfl ?_
  intro p e s m args below meth c s₁ B hml hv
  obtain ⟨rfl, hsz, hP, hK, hD0, hN, hZ⟩ := hv
  have hx := B.exec
  have hb := B.bytes
  have hr := B.returns
  have hts : ∀ wd ∈ lwAll, wd.before ([.ref hW, .int x1] : List Value).toArray s = true := fun wd h => atoms_spec (ws := (Cond.code yX3_leastKeys cX3_leastKeys 5 (some .int) :: lwAll)) B.pre wd (List.mem_cons_of_mem _ h)
  have hown : s.vm.findClass RX3 = some m.cls := findClass_of_methodNamed B.named
  have hlocks := B.notSynchronized
  subst hsz
  have hD := hD0.self (sz := s.heap.size)
  have hl := lv_entry ([.ref hW, .int x1]) (n := 5) (Nat.le_of_ble_eq_true rfl)
  rw [lg_entry_eq]
  generalize (lg_sl ([.ref hW, .int x1]) ++ List.replicate (5 - (lg_sl ([.ref hW, .int x1])).length) Slot.unset).toArray = ls at hl ⊢
  have hl : lv_has ls 5 [(0, .ref hW), (1, .int x1)] := hl
  have hS : va_S (fun q : Nat => s.heap.size ≤ q) s.heap s.heap [] := va_S.rf
  generalize hQe : MQ below (va_Qi (fun (r : Int32) (_ : Unit) => r = (F_X3_leastKeys R C K li x1)) (fun _ _ => True) (fun q : Nat => s.heap.size ≤ q)) ([.ref hW, .int x1] : List Value).toArray s 0 0 (fun q : Nat => s.heap.size ≤ q) = Q
  have hP : va_P D vwCl [(hW, .inr (10, [.int (nI R), .int (nI C), .int (nI K), .int fi, .int di, .int br, .int li]))] s.heap := hP
  obtain ⟨A, hAe⟩ : ∃ A, A = va_A [(hW, .inr (10, [.int (nI R), .int (nI C), .int (nI K), .int fi, .int di, .int br, .int li]))] s.heap.size := ⟨_, rfl⟩
  rw [← hAe] at hD hZ
  have hA : ∀ q : Nat, s.heap.size ≤ q → A q := fun q h => by rw [hAe]; exact Or.inr h
  obtain ⟨H, hHe⟩ : ∃ H, H = s.heap := ⟨_, rfl⟩
  obtain ⟨locs, hLe⟩ : ∃ L : List Loc, L = [] := ⟨_, rfl⟩
  have hP : va_P D vwCl [(hW, .inr (10, [.int (nI R), .int (nI C), .int (nI K), .int fi, .int di, .int br, .int li]))] H := by rw [hHe]; exact hP
  have hS : va_S (fun q : Nat => s.heap.size ≤ q) s.heap H locs := by rw [hHe, hLe]; exact hS
  have hgoal : W p l e ({ frames := 3, cells := 0, slots := 0, locals := 78 } : Room) s m ([.ref hW, .int x1] : List Value).toArray below meth c H locs 0 0 Q (F0 m 0 ls []) := by
    clear hHe hLe
    refine lv_iconst (v := (-1)) hx hb dX3_leastKeys_0 (by decide) ?_
    refine lv_istore_n (lv' := [(2, .int (-1)), (0, .ref hW), (1, .int x1)]) hx hb dX3_leastKeys_1 rfl hl (by decide) rfl (fun ls hl => ?_)
    refine lv_iconst (v := 0) hx hb dX3_leastKeys_2 (by decide) ?_
    refine lv_istore_n (lv' := [(3, .int 0), (2, .int (-1)), (0, .ref hW), (1, .int x1)]) hx hb dX3_leastKeys_3 rfl hl (by decide) rfl (fun ls hl => ?_)
    have lp_4 : ∀ (n0 i0 : Nat), i0 + n0 = K → ∀ (a0 : Int32) (H : Heap) (locs : List Loc) (ls : Array Slot), va_P D vwCl [(hW, .inr (10, [.int (nI R), .int (nI C), .int (nI K), .int fi, .int di, .int br, .int li]))] H → va_D A [(hW, .inr (10, [.int (nI R), .int (nI C), .int (nI K), .int fi, .int di, .int br, .int li]))] → va_S (fun q : Nat => s.heap.size ≤ q) s.heap H locs → lv_has ls 5 [(0, .ref hW), (1, .int x1), (2, .int a0), (3, .int (nI i0))] → (∀ (H : Heap) (locs : List Loc) (ls : Array Slot), va_P D vwCl [(hW, .inr (10, [.int (nI R), .int (nI C), .int (nI K), .int fi, .int di, .int br, .int li]))] H → va_D A [(hW, .inr (10, [.int (nI R), .int (nI C), .int (nI K), .int fi, .int di, .int br, .int li]))] → va_S (fun q : Nat => s.heap.size ≤ q) s.heap H locs → lv_has ls 5 [(0, .ref hW), (1, .int x1), (2, .int (itr (fun i a => S_X3_leastKeys_4 R C li x1 i a) n0 i0 a0)), (3, .int (nI K))] → W p l e ({ frames := 3, cells := 0, slots := 0, locals := 78 } : Room) s m ([.ref hW, .int x1] : List Value).toArray below meth c H locs 0 0 Q (F0 m 61 ls [])) → W p l e ({ frames := 3, cells := 0, slots := 0, locals := 78 } : Room) s m ([.ref hW, .int x1] : List Value).toArray below meth c H locs 0 0 Q (F0 m 4 ls []) := by
      intro n0
      induction n0 with
      | zero =>
        intro i0 hi0 a0 H locs ls hP hD hS hl kon
        have he0 : i0 = K := by omega
        refine lv_iload_n hx hb dX3_leastKeys_4 rfl (lv_at hl 3 rfl) ?_
        refine lv_aload_n hx hb dX3_leastKeys_5 rfl (lv_at hl 0 rfl) ?_
        refine va_get (D := D) (ci := 10) (v := .int (nI K)) (C := RX3) (T := TX3) (N := 7) hx hb hts in_X3 hown hK hP 0 rfl rfl 2 (by decide) (hts _ q_132) (fun _ h9 => h9) rfl dX3_leastKeys_6 ?_
        refine lv_icmp_ge (tgt := 61) hx hb dX3_leastKeys_9 (by decide) (fun c_1 => ?_) (fun c_1 => ?_)
        · subst he0
          exact kon H locs ls hP hD hS (lv_sub hl [0, 1, 2, 3] rfl)
        · exact absurd (nI_le (a := K) (b := i0) (by omega) (by omega)) c_1
      | succ n0 ih0 =>
        intro i0 hi0 a0 H locs ls hP hD hS hl kon
        refine lv_iload_n hx hb dX3_leastKeys_4 rfl (lv_at hl 3 rfl) ?_
        refine lv_aload_n hx hb dX3_leastKeys_5 rfl (lv_at hl 0 rfl) ?_
        refine va_get (D := D) (ci := 10) (v := .int (nI K)) (C := RX3) (T := TX3) (N := 7) hx hb hts in_X3 hown hK hP 0 rfl rfl 2 (by decide) (hts _ q_132) (fun _ h9 => h9) rfl dX3_leastKeys_6 ?_
        refine lv_icmp_ge (tgt := 61) hx hb dX3_leastKeys_9 (by decide) (fun c_2 => ?_) (fun c_2 => ?_)
        · exact absurd c_2 (nI_ge (a := i0) (b := K) (by omega) (by omega))
        · refine lv_aload_n hx hb dX3_leastKeys_12 rfl (lv_at hl 0 rfl) ?_
          refine va_get (D := D) (ci := 10) (v := .int li) (C := RX3) (T := TX3) (N := 7) hx hb hts in_X3 hown hK hP 0 rfl rfl 6 (by decide) (hts _ q_140) (fun _ h9 => h9) rfl dX3_leastKeys_13 ?_
          refine lv_iload_n hx hb dX3_leastKeys_16 rfl (lv_at hl 3 rfl) ?_
          have hPc := hP.sub (ws' := []) [] rfl
          have hDc := hD.sub (ws' := []) [] (by decide) rfl
          have hFc := va_free (wc := []) hD (va_S_up hS hA) hA [] rfl
          refine va_calli (va_runSN (As := [.int li, .int (nI i0)]) (rest := []) ⟨hx, hb, hml, hown, hts⟩ (c_X4_holds l D li (nI i0) H.size ) ⟨va_cnB 2 hts (gi_sub q_713) rfl rfl rfl (hN.1 _ n_711) (hts _ q_80) (by decide +kernel) ⟨Nat.le_of_ble_eq_true rfl, Nat.le_of_ble_eq_true rfl⟩, (hts _ q_712), trivial⟩ ⟨cPre_blind, cPre_mk hPc hK hDc hN (lwZ_for hZ (va_S_up hS hA) hFc)⟩ rfl rfl hl.1 rfl (lv_room (Nat.le_of_ble_eq_true rfl)) dX3_leastKeys_17 ⟨(Nat.le_of_ble_eq_true rfl), (Nat.le_of_ble_eq_true rfl)⟩) hS (fun q h1 h2 => absurd h2 (Nat.not_le.mpr h1)) (fun q h => Nat.le_trans hS.1 h) (fun r_17 u t H1 locs ht hvm hw hBk hz1 hk1 hS => ?_)
          have hP := va_P_ro hP hk1
          obtain ⟨hw, z_3⟩ := hw
          rw [hw] at z_3
          subst hw
          clear hBk hvm ht u hz1 hk1
          clear hPc hDc hFc; clear t
          generalize H1 = H at hP hS ⊢
          refine lv_if_eq (tgt := 32) hx hb dX3_leastKeys_20 (by decide) (fun c_4 => ?_) (fun c_4 => ?_)
          · refine lv_iconst (v := (-1)) hx hb dX3_leastKeys_32 (by decide) ?_
            refine lv_istore (lv' := [(4, .int (-1)), (0, .ref hW), (1, .int x1), (2, .int a0), (3, .int (nI i0))]) hx hb dX3_leastKeys_33 hl (by decide) rfl (fun ls hl => ?_)
            refine lv_iload hx hb dX3_leastKeys_35 (lv_at hl 0 rfl) ?_
            refine lv_iconst (v := (-1)) hx hb dX3_leastKeys_37 (by decide) ?_
            refine lv_icmp_eq (tgt := 55) hx hb dX3_leastKeys_38 (by decide) (fun c_5 => ?_) (fun c_5 => ?_)
            · refine lv_iinc (v := nI (i0 + 1)) (lv' := [(3, .int (nI (i0 + 1))), (4, .int (-1)), (0, .ref hW), (1, .int x1), (2, .int a0)]) hx hb dX3_leastKeys_55 hl (k := 4) rfl (nI_1 _) (by decide) rfl (fun ls hl => ?_)
              refine lv_goto (tgt := 4) hx hb dX3_leastKeys_58 (by decide) ?_
              have hE : S_X3_leastKeys_4 R C li x1 i0 a0 = a0 := (by unfold S_X3_leastKeys_4; rw [if_pos c_4])
              have hl : lv_has ls 5 [(0, .ref hW), (1, .int x1), (2, .int a0), (3, .int (nI (i0 + 1)))] := lv_sub hl [2, 3, 4, 0] rfl
              have hP := hP.sub (ws' := [(hW, .inr (10, [.int (nI R), .int (nI C), .int (nI K), .int fi, .int di, .int br, .int li]))]) [0] rfl
              have hD := hD.sub (ws' := [(hW, .inr (10, [.int (nI R), .int (nI C), .int (nI K), .int fi, .int di, .int br, .int li]))]) [0] (by decide) rfl
              exact ih0 (i0 + 1) (by omega) (S_X3_leastKeys_4 R C li x1 i0 a0) H locs ls (by (try rw [hE]); exact hP) (by (try rw [hE]); exact hD) hS (by (try rw [hE]); exact hl) kon
            · exact absurd (by decide) c_5
          · refine lv_aload_n hx hb dX3_leastKeys_23 rfl (lv_at hl 0 rfl) ?_
            refine lv_iload_n hx hb dX3_leastKeys_24 rfl (lv_at hl 3 rfl) ?_
            refine lv_iload_n hx hb dX3_leastKeys_25 rfl (lv_at hl 1 rfl) ?_
            have hPc := hP.sub (ws' := [(hW, .inr (10, [.int (nI R), .int (nI C), .int (nI K), .int fi, .int di, .int br, .int li]))]) [0] rfl
            have hDc := hD.sub (ws' := [(hW, .inr (10, [.int (nI R), .int (nI C), .int (nI K), .int fi, .int di, .int br, .int li]))]) [0] (by decide) rfl
            have hFc := va_free (wc := [(hW, .inr (10, [.int (nI R), .int (nI C), .int (nI K), .int fi, .int di, .int br, .int li]))]) hD (va_S_up hS hA) hA [0] rfl
            refine va_calli (va_runV (As := [.int (nI i0), .int x1]) (rest := []) ⟨hx, hb, hml, hown, hts⟩ (c_X3_wayRound l D hW R C K fi di br li (nI i0) x1 H.size (show R ≤ 5 from hR)) (cwV 2 hts (gi_V q_761 q_763 q_17 q_81 q_764) rfl rfl rfl (by decide +kernel) ⟨Nat.le_of_ble_eq_true rfl, Nat.le_of_ble_eq_true rfl⟩) ⟨cPre_blind, va_recv hK hP (ci := 10) (q0 := 0) rfl rfl, cPre_mk hPc hK hDc hN (lwZ_for hZ (va_S_up hS hA) hFc)⟩ rfl rfl hl.1 rfl (lv_room (Nat.le_of_ble_eq_true rfl)) dX3_leastKeys_26 ⟨(Nat.le_of_ble_eq_true rfl), (Nat.le_of_ble_eq_true rfl)⟩) hS (fun q h1 h2 => absurd h2 (Nat.not_le.mpr h1)) (fun q h => Nat.le_trans hS.1 h) (fun r_26 u t H1 locs ht hvm hw hBk hz1 hk1 hS => ?_)
            have hP := va_P_ro hP hk1
            subst hw
            clear hBk hvm ht u hz1 hk1
            clear hPc hDc hFc; clear t
            generalize H1 = H at hP hS ⊢
            refine lv_goto (tgt := 33) hx hb dX3_leastKeys_29 (by decide) ?_
            refine lv_istore (lv' := [(4, .int (F_X3_wayRound R C li (nI i0) x1)), (0, .ref hW), (1, .int x1), (2, .int a0), (3, .int (nI i0))]) hx hb dX3_leastKeys_33 hl (by decide) rfl (fun ls hl => ?_)
            refine lv_iload hx hb dX3_leastKeys_35 (lv_at hl 0 rfl) ?_
            refine lv_iconst (v := (-1)) hx hb dX3_leastKeys_37 (by decide) ?_
            refine lv_icmp_eq (tgt := 55) hx hb dX3_leastKeys_38 (by decide) (fun c_6 => ?_) (fun c_6 => ?_)
            · refine lv_iinc (v := nI (i0 + 1)) (lv' := [(3, .int (nI (i0 + 1))), (4, .int (F_X3_wayRound R C li (nI i0) x1)), (0, .ref hW), (1, .int x1), (2, .int a0)]) hx hb dX3_leastKeys_55 hl (k := 4) rfl (nI_1 _) (by decide) rfl (fun ls hl => ?_)
              refine lv_goto (tgt := 4) hx hb dX3_leastKeys_58 (by decide) ?_
              have hE : S_X3_leastKeys_4 R C li x1 i0 a0 = a0 := (by unfold S_X3_leastKeys_4; rw [if_neg c_4, if_pos c_6])
              have hl : lv_has ls 5 [(0, .ref hW), (1, .int x1), (2, .int a0), (3, .int (nI (i0 + 1)))] := lv_sub hl [2, 3, 4, 0] rfl
              have hP := hP.sub (ws' := [(hW, .inr (10, [.int (nI R), .int (nI C), .int (nI K), .int fi, .int di, .int br, .int li]))]) [0] rfl
              have hD := hD.sub (ws' := [(hW, .inr (10, [.int (nI R), .int (nI C), .int (nI K), .int fi, .int di, .int br, .int li]))]) [0] (by decide) rfl
              exact ih0 (i0 + 1) (by omega) (S_X3_leastKeys_4 R C li x1 i0 a0) H locs ls (by (try rw [hE]); exact hP) (by (try rw [hE]); exact hD) hS (by (try rw [hE]); exact hl) kon
            · refine lv_iload_n hx hb dX3_leastKeys_41 rfl (lv_at hl 3 rfl) ?_
              refine lv_iconst (v := (-1)) hx hb dX3_leastKeys_42 (by decide) ?_
              refine lv_icmp_eq (tgt := 52) hx hb dX3_leastKeys_43 (by decide) (fun c_7 => ?_) (fun c_7 => ?_)
              · refine lv_iload hx hb dX3_leastKeys_52 (lv_at hl 0 rfl) ?_
                refine lv_istore_n (lv' := [(2, .int (F_X3_wayRound R C li (nI i0) x1)), (4, .int (F_X3_wayRound R C li (nI i0) x1)), (0, .ref hW), (1, .int x1), (3, .int (nI i0))]) hx hb dX3_leastKeys_54 rfl hl (by decide) rfl (fun ls hl => ?_)
                refine lv_iinc (v := nI (i0 + 1)) (lv' := [(3, .int (nI (i0 + 1))), (2, .int (F_X3_wayRound R C li (nI i0) x1)), (4, .int (F_X3_wayRound R C li (nI i0) x1)), (0, .ref hW), (1, .int x1)]) hx hb dX3_leastKeys_55 hl (k := 4) rfl (nI_1 _) (by decide) rfl (fun ls hl => ?_)
                refine lv_goto (tgt := 4) hx hb dX3_leastKeys_58 (by decide) ?_
                have hE : S_X3_leastKeys_4 R C li x1 i0 a0 = F_X3_wayRound R C li (nI i0) x1 := (by unfold S_X3_leastKeys_4; rw [if_neg c_4, if_neg c_6, if_pos c_7])
                have hl : lv_has ls 5 [(0, .ref hW), (1, .int x1), (2, .int (F_X3_wayRound R C li (nI i0) x1)), (3, .int (nI (i0 + 1)))] := lv_sub hl [3, 4, 1, 0] rfl
                have hP := hP.sub (ws' := [(hW, .inr (10, [.int (nI R), .int (nI C), .int (nI K), .int fi, .int di, .int br, .int li]))]) [0] rfl
                have hD := hD.sub (ws' := [(hW, .inr (10, [.int (nI R), .int (nI C), .int (nI K), .int fi, .int di, .int br, .int li]))]) [0] (by decide) rfl
                exact ih0 (i0 + 1) (by omega) (S_X3_leastKeys_4 R C li x1 i0 a0) H locs ls (by (try rw [hE]); exact hP) (by (try rw [hE]); exact hD) hS (by (try rw [hE]); exact hl) kon
              · refine lv_iload hx hb dX3_leastKeys_46 (lv_at hl 0 rfl) ?_
                refine lv_iload_n hx hb dX3_leastKeys_48 rfl (lv_at hl 3 rfl) ?_
                refine lv_icmp_ge (tgt := 55) hx hb dX3_leastKeys_49 (by decide) (fun c_8 => ?_) (fun c_8 => ?_)
                · refine lv_iinc (v := nI (i0 + 1)) (lv' := [(3, .int (nI (i0 + 1))), (4, .int (F_X3_wayRound R C li (nI i0) x1)), (0, .ref hW), (1, .int x1), (2, .int a0)]) hx hb dX3_leastKeys_55 hl (k := 4) rfl (nI_1 _) (by decide) rfl (fun ls hl => ?_)
                  refine lv_goto (tgt := 4) hx hb dX3_leastKeys_58 (by decide) ?_
                  have hE : S_X3_leastKeys_4 R C li x1 i0 a0 = a0 := (by unfold S_X3_leastKeys_4; rw [if_neg c_4, if_neg c_6, if_neg c_7, if_pos c_8])
                  have hl : lv_has ls 5 [(0, .ref hW), (1, .int x1), (2, .int a0), (3, .int (nI (i0 + 1)))] := lv_sub hl [2, 3, 4, 0] rfl
                  have hP := hP.sub (ws' := [(hW, .inr (10, [.int (nI R), .int (nI C), .int (nI K), .int fi, .int di, .int br, .int li]))]) [0] rfl
                  have hD := hD.sub (ws' := [(hW, .inr (10, [.int (nI R), .int (nI C), .int (nI K), .int fi, .int di, .int br, .int li]))]) [0] (by decide) rfl
                  exact ih0 (i0 + 1) (by omega) (S_X3_leastKeys_4 R C li x1 i0 a0) H locs ls (by (try rw [hE]); exact hP) (by (try rw [hE]); exact hD) hS (by (try rw [hE]); exact hl) kon
                · refine lv_iload hx hb dX3_leastKeys_52 (lv_at hl 0 rfl) ?_
                  refine lv_istore_n (lv' := [(2, .int (F_X3_wayRound R C li (nI i0) x1)), (4, .int (F_X3_wayRound R C li (nI i0) x1)), (0, .ref hW), (1, .int x1), (3, .int (nI i0))]) hx hb dX3_leastKeys_54 rfl hl (by decide) rfl (fun ls hl => ?_)
                  refine lv_iinc (v := nI (i0 + 1)) (lv' := [(3, .int (nI (i0 + 1))), (2, .int (F_X3_wayRound R C li (nI i0) x1)), (4, .int (F_X3_wayRound R C li (nI i0) x1)), (0, .ref hW), (1, .int x1)]) hx hb dX3_leastKeys_55 hl (k := 4) rfl (nI_1 _) (by decide) rfl (fun ls hl => ?_)
                  refine lv_goto (tgt := 4) hx hb dX3_leastKeys_58 (by decide) ?_
                  have hE : S_X3_leastKeys_4 R C li x1 i0 a0 = F_X3_wayRound R C li (nI i0) x1 := (by unfold S_X3_leastKeys_4; rw [if_neg c_4, if_neg c_6, if_neg c_7, if_neg c_8])
                  have hl : lv_has ls 5 [(0, .ref hW), (1, .int x1), (2, .int (F_X3_wayRound R C li (nI i0) x1)), (3, .int (nI (i0 + 1)))] := lv_sub hl [3, 4, 1, 0] rfl
                  have hP := hP.sub (ws' := [(hW, .inr (10, [.int (nI R), .int (nI C), .int (nI K), .int fi, .int di, .int br, .int li]))]) [0] rfl
                  have hD := hD.sub (ws' := [(hW, .inr (10, [.int (nI R), .int (nI C), .int (nI K), .int fi, .int di, .int br, .int li]))]) [0] (by decide) rfl
                  exact ih0 (i0 + 1) (by omega) (S_X3_leastKeys_4 R C li x1 i0 a0) H locs ls (by (try rw [hE]); exact hP) (by (try rw [hE]); exact hD) hS (by (try rw [hE]); exact hl) kon
    have hl : lv_has ls 5 [(0, .ref hW), (1, .int x1), (2, .int (-1)), (3, .int (nI 0))] := lv_sub hl [2, 3, 1, 0] rfl
    refine lp_4 K 0 (by omega) (-1) H locs ls hP hD hS hl ?_
    clear lp_4 hP hD hS hl
    intro H locs ls hP hD hS hl
    refine lv_iload_n hx hb dX3_leastKeys_61 rfl (lv_at hl 2 rfl) ?_
    subst hQe
    exact W.iret (v := (itr (fun i a => S_X3_leastKeys_4 R C li x1 i a) K 0 (-1))) hx hb hr (fun t ht hW => ⟨⟨(itr (fun i a => S_X3_leastKeys_4 R C li x1 i a) K 0 (-1)), (), rfl, (by rfl), trivial⟩, hS.F ht⟩) hS.2.2 dX3_leastKeys_62
  rw [hHe, hLe] at hgoal
  exact hgoal

def L_X3_unclearSets_11 (R : Nat) (C : Nat) (K : Nat) (fi : Int32) (di : Int32) (li : Int32) : Nat → Nat → (Int32 × Int32) → Int32
  | 0, i0, a0 => a0.1
  | n0 + 1, i0, a0 => (if (F_X3_isSet K a0.2) = 0 then a0.1 else (if (a0.2 &&& (fi ^^^ (-1))) = 0 then (if (F_X3_isExact R C fi di li a0.2) = 0 then L_X3_unclearSets_11 R C K fi di li n0 (i0 + 1) (a0.1 + 1, F_X3_nextOfSameSize a0.2) else L_X3_unclearSets_11 R C K fi di li n0 (i0 + 1) (a0.1, F_X3_nextOfSameSize a0.2)) else L_X3_unclearSets_11 R C K fi di li n0 (i0 + 1) (a0.1, F_X3_nextOfSameSize a0.2)))
def F_X3_unclearSets (R : Nat) (C : Nat) (K : Nat) (fi : Int32) (di : Int32) (li : Int32) (x1 : Int32) : Int32 := L_X3_unclearSets_11 R C K fi di li 12650 0 (0, ((1 : Int32) <<< (x1 &&& 31)) - 1)
set_option maxHeartbeats 4000000 in
set_option maxRecDepth 100000 in
theorem c_X3_unclearSets (l : Launch) (D : va_G) (hW : Nat) (R : Nat) (C : Nat) (K : Nat) (fi : Int32) (di : Int32) (br : Int32) (li : Int32) (x1 : Int32) (sz : Nat) (hR : R ≤ 5) : Met l yX3_unclearSets (Cond.code yX3_unclearSets cX3_unclearSets 5 (some .int) :: lwAll) ({ frames := 4, cells := 0, slots := 0, locals := 97 } : Room) (va_Pc [.ref hW, .int x1] (cPre D (lwTY D) [(hW, .inr (10, [.int (nI R), .int (nI C), .int (nI K), .int fi, .int di, .int br, .int li]))] sz)) (va_Qi (fun (r : Int32) (_ : Unit) => r = (F_X3_unclearSets R C K fi di li x1)) (fun _ _ => True) (fun q : Nat => sz ≤ q)) 0 0 (fun q : Nat => sz ≤ q) := by
  refine Met.ofW (cc := cX3_unclearSets) (maxL := 5) (ret := (some .int)) (by decide) rfl ?_
  intro p e s m args below meth c s₁ B hml hv
  obtain ⟨rfl, hsz, hP, hK, hD0, hN, hZ⟩ := hv
  have hx := B.exec
  have hb := B.bytes
  have hr := B.returns
  have hts : ∀ wd ∈ lwAll, wd.before ([.ref hW, .int x1] : List Value).toArray s = true := fun wd h => atoms_spec (ws := (Cond.code yX3_unclearSets cX3_unclearSets 5 (some .int) :: lwAll)) B.pre wd (List.mem_cons_of_mem _ h)
  have hown : s.vm.findClass RX3 = some m.cls := findClass_of_methodNamed B.named
  have hlocks := B.notSynchronized
  subst hsz
  have hD := hD0.self (sz := s.heap.size)
  have hl := lv_entry ([.ref hW, .int x1]) (n := 5) (Nat.le_of_ble_eq_true rfl)
  rw [lg_entry_eq]
  generalize (lg_sl ([.ref hW, .int x1]) ++ List.replicate (5 - (lg_sl ([.ref hW, .int x1])).length) Slot.unset).toArray = ls at hl ⊢
  have hl : lv_has ls 5 [(0, .ref hW), (1, .int x1)] := hl
  have hS : va_S (fun q : Nat => s.heap.size ≤ q) s.heap s.heap [] := va_S.rf
  generalize hQe : MQ below (va_Qi (fun (r : Int32) (_ : Unit) => r = (F_X3_unclearSets R C K fi di li x1)) (fun _ _ => True) (fun q : Nat => s.heap.size ≤ q)) ([.ref hW, .int x1] : List Value).toArray s 0 0 (fun q : Nat => s.heap.size ≤ q) = Q
  have hP : va_P D vwCl [(hW, .inr (10, [.int (nI R), .int (nI C), .int (nI K), .int fi, .int di, .int br, .int li]))] s.heap := hP
  obtain ⟨A, hAe⟩ : ∃ A, A = va_A [(hW, .inr (10, [.int (nI R), .int (nI C), .int (nI K), .int fi, .int di, .int br, .int li]))] s.heap.size := ⟨_, rfl⟩
  rw [← hAe] at hD hZ
  have hA : ∀ q : Nat, s.heap.size ≤ q → A q := fun q h => by rw [hAe]; exact Or.inr h
  obtain ⟨H, hHe⟩ : ∃ H, H = s.heap := ⟨_, rfl⟩
  obtain ⟨locs, hLe⟩ : ∃ L : List Loc, L = [] := ⟨_, rfl⟩
  have hP : va_P D vwCl [(hW, .inr (10, [.int (nI R), .int (nI C), .int (nI K), .int fi, .int di, .int br, .int li]))] H := by rw [hHe]; exact hP
  have hS : va_S (fun q : Nat => s.heap.size ≤ q) s.heap H locs := by rw [hHe, hLe]; exact hS
  have hgoal : W p l e ({ frames := 4, cells := 0, slots := 0, locals := 97 } : Room) s m ([.ref hW, .int x1] : List Value).toArray below meth c H locs 0 0 Q (F0 m 0 ls []) := by
    clear hHe hLe
    refine lv_iconst (v := 0) hx hb dX3_unclearSets_0 (by decide) ?_
    refine lv_istore_n (lv' := [(2, .int 0), (0, .ref hW), (1, .int x1)]) hx hb dX3_unclearSets_1 rfl hl (by decide) rfl (fun ls hl => ?_)
    refine lv_iconst (v := 1) hx hb dX3_unclearSets_2 (by decide) ?_
    refine lv_iload_n hx hb dX3_unclearSets_3 rfl (lv_at hl 2 rfl) ?_
    refine lv_ishl hx hb dX3_unclearSets_4 ?_
    refine lv_iconst (v := 1) hx hb dX3_unclearSets_5 (by decide) ?_
    refine lv_isub hx hb dX3_unclearSets_6 ?_
    refine lv_istore_n (lv' := [(3, .int (((1 : Int32) <<< (x1 &&& 31)) - 1)), (2, .int 0), (0, .ref hW), (1, .int x1)]) hx hb dX3_unclearSets_7 rfl hl (by decide) rfl (fun ls hl => ?_)
    refine lv_iconst (v := 0) hx hb dX3_unclearSets_8 (by decide) ?_
    refine lv_istore (lv' := [(4, .int 0), (3, .int (((1 : Int32) <<< (x1 &&& 31)) - 1)), (2, .int 0), (0, .ref hW), (1, .int x1)]) hx hb dX3_unclearSets_9 hl (by decide) rfl (fun ls hl => ?_)
    have lp_11 : ∀ (n0 i0 : Nat), i0 + n0 = 12650 → ∀ (a0 : Int32 × Int32) (H : Heap) (locs : List Loc) (ls : Array Slot), va_P D vwCl [(hW, .inr (10, [.int (nI R), .int (nI C), .int (nI K), .int fi, .int di, .int br, .int li]))] H → va_D A [(hW, .inr (10, [.int (nI R), .int (nI C), .int (nI K), .int fi, .int di, .int br, .int li]))] → va_S (fun q : Nat => s.heap.size ≤ q) s.heap H locs → lv_has ls 5 [(0, .ref hW), (1, .int x1), (2, .int a0.1), (3, .int a0.2), (4, .int (nI i0))] → (F_X3_unclearSets R C K fi di li x1) = L_X3_unclearSets_11 R C K fi di li n0 i0 a0 → W p l e ({ frames := 4, cells := 0, slots := 0, locals := 97 } : Room) s m ([.ref hW, .int x1] : List Value).toArray below meth c H locs 0 0 Q (F0 m 11 ls []) := by
      intro n0
      induction n0 with
      | zero =>
        intro i0 hi0 a0 H locs ls hP hD hS hl hE0
        have he0 : i0 = 12650 := by omega
        refine lv_iload hx hb dX3_unclearSets_11 (lv_at hl 4 rfl) ?_
        refine lv_sipush (v := 12650) hx hb dX3_unclearSets_13 (by decide) ?_
        refine lv_icmp_ge (tgt := 60) hx hb dX3_unclearSets_16 (by decide) (fun c_1 => ?_) (fun c_1 => ?_)
        · refine lv_iload_n hx hb dX3_unclearSets_60 rfl (lv_at hl 2 rfl) ?_
          subst hQe
          exact W.iret (v := a0.1) hx hb hr (fun t ht hW => ⟨⟨a0.1, (), rfl, (by rw [hE0, L_X3_unclearSets_11]), trivial⟩, hS.F ht⟩) hS.2.2 dX3_unclearSets_61
        · exact absurd (nI_le (a := 12650) (b := i0) (by omega) (by omega)) c_1
      | succ n0 ih0 =>
        intro i0 hi0 a0 H locs ls hP hD hS hl hE0
        refine lv_iload hx hb dX3_unclearSets_11 (lv_at hl 4 rfl) ?_
        refine lv_sipush (v := 12650) hx hb dX3_unclearSets_13 (by decide) ?_
        refine lv_icmp_ge (tgt := 60) hx hb dX3_unclearSets_16 (by decide) (fun c_2 => ?_) (fun c_2 => ?_)
        · exact absurd c_2 (nI_ge (a := i0) (b := 12650) (by omega) (by omega))
        · refine lv_aload_n hx hb dX3_unclearSets_19 rfl (lv_at hl 0 rfl) ?_
          refine lv_iload_n hx hb dX3_unclearSets_20 rfl (lv_at hl 3 rfl) ?_
          have hPc := hP.sub (ws' := [(hW, .inr (10, [.int (nI R), .int (nI C), .int (nI K), .int fi, .int di, .int br, .int li]))]) [0] rfl
          have hDc := hD.sub (ws' := [(hW, .inr (10, [.int (nI R), .int (nI C), .int (nI K), .int fi, .int di, .int br, .int li]))]) [0] (by decide) rfl
          have hFc := va_free (wc := [(hW, .inr (10, [.int (nI R), .int (nI C), .int (nI K), .int fi, .int di, .int br, .int li]))]) hD (va_S_up hS hA) hA [0] rfl
          refine va_calli (va_runV (As := [.int a0.2]) (rest := []) ⟨hx, hb, hml, hown, hts⟩ (c_X3_isSet l D hW R C K fi di br li a0.2 H.size ) (cwV 1 hts (gi_V q_829 q_831 q_27 q_81 q_832) rfl rfl rfl (by decide +kernel) ⟨Nat.le_of_ble_eq_true rfl, Nat.le_of_ble_eq_true rfl⟩) ⟨cPre_blind, va_recv hK hP (ci := 10) (q0 := 0) rfl rfl, cPre_mk hPc hK hDc hN (lwZ_for hZ (va_S_up hS hA) hFc)⟩ rfl rfl hl.1 rfl (lv_room (Nat.le_of_ble_eq_true rfl)) dX3_unclearSets_21 ⟨(Nat.le_of_ble_eq_true rfl), (Nat.le_of_ble_eq_true rfl)⟩) hS (fun q h1 h2 => absurd h2 (Nat.not_le.mpr h1)) (fun q h => Nat.le_trans hS.1 h) (fun r_21 u t H1 locs ht hvm hw hBk hz1 hk1 hS => ?_)
          have hP := va_P_ro hP hk1
          obtain ⟨hw, z_3⟩ := hw
          rw [hw] at z_3
          subst hw
          clear hBk hvm ht u hz1 hk1
          clear hPc hDc hFc; clear t
          generalize H1 = H at hP hS ⊢
          refine lv_if_eq (tgt := 60) hx hb dX3_unclearSets_24 (by decide) (fun c_4 => ?_) (fun c_4 => ?_)
          · refine lv_iload_n hx hb dX3_unclearSets_60 rfl (lv_at hl 2 rfl) ?_
            subst hQe
            exact W.iret (v := a0.1) hx hb hr (fun t ht hW => ⟨⟨a0.1, (), rfl, (by rw [hE0, L_X3_unclearSets_11, if_pos c_4]), trivial⟩, hS.F ht⟩) hS.2.2 dX3_unclearSets_61
          · refine lv_iload_n hx hb dX3_unclearSets_27 rfl (lv_at hl 3 rfl) ?_
            refine lv_aload_n hx hb dX3_unclearSets_28 rfl (lv_at hl 0 rfl) ?_
            refine va_get (D := D) (ci := 10) (v := .int fi) (C := RX3) (T := TX3) (N := 7) hx hb hts in_X3 hown hK hP 0 rfl rfl 3 (by decide) (hts _ q_134) (fun _ h9 => h9) rfl dX3_unclearSets_29 ?_
            refine lv_iconst (v := (-1)) hx hb dX3_unclearSets_32 (by decide) ?_
            refine lv_ixor hx hb dX3_unclearSets_33 ?_
            refine lv_iand hx hb dX3_unclearSets_34 ?_
            refine lv_if_ne (tgt := 49) hx hb dX3_unclearSets_35 (by decide) (fun c_5 => ?_) (fun c_5 => ?_)
            · refine lv_iload_n hx hb dX3_unclearSets_49 rfl (lv_at hl 3 rfl) ?_
              have hPc := hP.sub (ws' := []) [] rfl
              have hDc := hD.sub (ws' := []) [] (by decide) rfl
              have hFc := va_free (wc := []) hD (va_S_up hS hA) hA [] rfl
              refine va_calli (va_runS (As := [.int a0.2]) (rest := []) ⟨hx, hb, hml, hown, hts⟩ (c_X3_nextOfSameSize l D a0.2 H.size ) (cwS 1 hts (gi_S q_833 q_834 q_81 q_835) rfl rfl rfl (by decide +kernel) ⟨Nat.le_of_ble_eq_true rfl, Nat.le_of_ble_eq_true rfl⟩) ⟨cPre_blind, cPre_mk hPc hK hDc hN (lwZ_for hZ (va_S_up hS hA) hFc)⟩ rfl rfl hl.1 rfl (lv_room (Nat.le_of_ble_eq_true rfl)) dX3_unclearSets_50 ⟨(Nat.le_of_ble_eq_true rfl), (Nat.le_of_ble_eq_true rfl)⟩) hS (fun q h1 h2 => absurd h2 (Nat.not_le.mpr h1)) (fun q h => Nat.le_trans hS.1 h) (fun r_50 u t H1 locs ht hvm hw hBk hz1 hk1 hS => ?_)
              have hP := va_P_ro hP hk1
              subst hw
              clear hBk hvm ht u hz1 hk1
              clear hPc hDc hFc; clear t
              generalize H1 = H at hP hS ⊢
              refine lv_istore_n (lv' := [(3, .int (F_X3_nextOfSameSize a0.2)), (0, .ref hW), (1, .int x1), (2, .int a0.1), (4, .int (nI i0))]) hx hb dX3_unclearSets_53 rfl hl (by decide) rfl (fun ls hl => ?_)
              refine lv_iinc (v := nI (i0 + 1)) (lv' := [(4, .int (nI (i0 + 1))), (3, .int (F_X3_nextOfSameSize a0.2)), (0, .ref hW), (1, .int x1), (2, .int a0.1)]) hx hb dX3_unclearSets_54 hl (k := 4) rfl (nI_1 _) (by decide) rfl (fun ls hl => ?_)
              refine lv_goto (tgt := 11) hx hb dX3_unclearSets_57 (by decide) ?_
              have hl : lv_has ls 5 [(0, .ref hW), (1, .int x1), (2, .int a0.1), (3, .int (F_X3_nextOfSameSize a0.2)), (4, .int (nI (i0 + 1)))] := lv_sub hl [2, 3, 4, 1, 0] rfl
              have hP := hP.sub (ws' := [(hW, .inr (10, [.int (nI R), .int (nI C), .int (nI K), .int fi, .int di, .int br, .int li]))]) [0] rfl
              have hD := hD.sub (ws' := [(hW, .inr (10, [.int (nI R), .int (nI C), .int (nI K), .int fi, .int di, .int br, .int li]))]) [0] (by decide) rfl
              exact ih0 (i0 + 1) (by omega) (a0.1, F_X3_nextOfSameSize a0.2) H locs ls hP hD hS hl (by rw [hE0, L_X3_unclearSets_11, if_neg c_4, if_neg c_5])
            · refine lv_aload_n hx hb dX3_unclearSets_38 rfl (lv_at hl 0 rfl) ?_
              refine lv_iload_n hx hb dX3_unclearSets_39 rfl (lv_at hl 3 rfl) ?_
              have hPc := hP.sub (ws' := [(hW, .inr (10, [.int (nI R), .int (nI C), .int (nI K), .int fi, .int di, .int br, .int li]))]) [0] rfl
              have hDc := hD.sub (ws' := [(hW, .inr (10, [.int (nI R), .int (nI C), .int (nI K), .int fi, .int di, .int br, .int li]))]) [0] (by decide) rfl
              have hFc := va_free (wc := [(hW, .inr (10, [.int (nI R), .int (nI C), .int (nI K), .int fi, .int di, .int br, .int li]))]) hD (va_S_up hS hA) hA [0] rfl
              refine va_calli (va_runV (As := [.int a0.2]) (rest := []) ⟨hx, hb, hml, hown, hts⟩ (c_X3_isExact l D hW R C K fi di br li a0.2 H.size (show R ≤ 5 from hR)) (cwV 1 hts (gi_V q_749 q_751 q_14 q_81 q_752) rfl rfl rfl (by decide +kernel) ⟨Nat.le_of_ble_eq_true rfl, Nat.le_of_ble_eq_true rfl⟩) ⟨cPre_blind, va_recv hK hP (ci := 10) (q0 := 0) rfl rfl, cPre_mk hPc hK hDc hN (lwZ_for hZ (va_S_up hS hA) hFc)⟩ rfl rfl hl.1 rfl (lv_room (Nat.le_of_ble_eq_true rfl)) dX3_unclearSets_40 ⟨(Nat.le_of_ble_eq_true rfl), (Nat.le_of_ble_eq_true rfl)⟩) hS (fun q h1 h2 => absurd h2 (Nat.not_le.mpr h1)) (fun q h => Nat.le_trans hS.1 h) (fun r_40 u t H1 locs ht hvm hw hBk hz1 hk1 hS => ?_)
              have hP := va_P_ro hP hk1
              obtain ⟨hw, z_6⟩ := hw
              rw [hw] at z_6
              subst hw
              clear hBk hvm ht u hz1 hk1
              clear hPc hDc hFc; clear t
              generalize H1 = H at hP hS ⊢
              refine lv_if_ne (tgt := 49) hx hb dX3_unclearSets_43 (by decide) (fun c_7 => ?_) (fun c_7 => ?_)
              · refine lv_iload_n hx hb dX3_unclearSets_49 rfl (lv_at hl 3 rfl) ?_
                have hPc := hP.sub (ws' := []) [] rfl
                have hDc := hD.sub (ws' := []) [] (by decide) rfl
                have hFc := va_free (wc := []) hD (va_S_up hS hA) hA [] rfl
                refine va_calli (va_runS (As := [.int a0.2]) (rest := []) ⟨hx, hb, hml, hown, hts⟩ (c_X3_nextOfSameSize l D a0.2 H.size ) (cwS 1 hts (gi_S q_833 q_834 q_81 q_835) rfl rfl rfl (by decide +kernel) ⟨Nat.le_of_ble_eq_true rfl, Nat.le_of_ble_eq_true rfl⟩) ⟨cPre_blind, cPre_mk hPc hK hDc hN (lwZ_for hZ (va_S_up hS hA) hFc)⟩ rfl rfl hl.1 rfl (lv_room (Nat.le_of_ble_eq_true rfl)) dX3_unclearSets_50 ⟨(Nat.le_of_ble_eq_true rfl), (Nat.le_of_ble_eq_true rfl)⟩) hS (fun q h1 h2 => absurd h2 (Nat.not_le.mpr h1)) (fun q h => Nat.le_trans hS.1 h) (fun r_50 u t H1 locs ht hvm hw hBk hz1 hk1 hS => ?_)
                have hP := va_P_ro hP hk1
                subst hw
                clear hBk hvm ht u hz1 hk1
                clear hPc hDc hFc; clear t
                generalize H1 = H at hP hS ⊢
                refine lv_istore_n (lv' := [(3, .int (F_X3_nextOfSameSize a0.2)), (0, .ref hW), (1, .int x1), (2, .int a0.1), (4, .int (nI i0))]) hx hb dX3_unclearSets_53 rfl hl (by decide) rfl (fun ls hl => ?_)
                refine lv_iinc (v := nI (i0 + 1)) (lv' := [(4, .int (nI (i0 + 1))), (3, .int (F_X3_nextOfSameSize a0.2)), (0, .ref hW), (1, .int x1), (2, .int a0.1)]) hx hb dX3_unclearSets_54 hl (k := 4) rfl (nI_1 _) (by decide) rfl (fun ls hl => ?_)
                refine lv_goto (tgt := 11) hx hb dX3_unclearSets_57 (by decide) ?_
                have hl : lv_has ls 5 [(0, .ref hW), (1, .int x1), (2, .int a0.1), (3, .int (F_X3_nextOfSameSize a0.2)), (4, .int (nI (i0 + 1)))] := lv_sub hl [2, 3, 4, 1, 0] rfl
                have hP := hP.sub (ws' := [(hW, .inr (10, [.int (nI R), .int (nI C), .int (nI K), .int fi, .int di, .int br, .int li]))]) [0] rfl
                have hD := hD.sub (ws' := [(hW, .inr (10, [.int (nI R), .int (nI C), .int (nI K), .int fi, .int di, .int br, .int li]))]) [0] (by decide) rfl
                exact ih0 (i0 + 1) (by omega) (a0.1, F_X3_nextOfSameSize a0.2) H locs ls hP hD hS hl (by rw [hE0, L_X3_unclearSets_11, if_neg c_4, if_pos c_5, if_neg c_7])
              · refine lv_iinc (v := a0.1 + 1) (lv' := [(2, .int (a0.1 + 1)), (0, .ref hW), (1, .int x1), (3, .int a0.2), (4, .int (nI i0))]) hx hb dX3_unclearSets_46 hl (k := 2) rfl (rfl) (by decide) rfl (fun ls hl => ?_)
                refine lv_iload_n hx hb dX3_unclearSets_49 rfl (lv_at hl 3 rfl) ?_
                have hPc := hP.sub (ws' := []) [] rfl
                have hDc := hD.sub (ws' := []) [] (by decide) rfl
                have hFc := va_free (wc := []) hD (va_S_up hS hA) hA [] rfl
                refine va_calli (va_runS (As := [.int a0.2]) (rest := []) ⟨hx, hb, hml, hown, hts⟩ (c_X3_nextOfSameSize l D a0.2 H.size ) (cwS 1 hts (gi_S q_833 q_834 q_81 q_835) rfl rfl rfl (by decide +kernel) ⟨Nat.le_of_ble_eq_true rfl, Nat.le_of_ble_eq_true rfl⟩) ⟨cPre_blind, cPre_mk hPc hK hDc hN (lwZ_for hZ (va_S_up hS hA) hFc)⟩ rfl rfl hl.1 rfl (lv_room (Nat.le_of_ble_eq_true rfl)) dX3_unclearSets_50 ⟨(Nat.le_of_ble_eq_true rfl), (Nat.le_of_ble_eq_true rfl)⟩) hS (fun q h1 h2 => absurd h2 (Nat.not_le.mpr h1)) (fun q h => Nat.le_trans hS.1 h) (fun r_50 u t H1 locs ht hvm hw hBk hz1 hk1 hS => ?_)
                have hP := va_P_ro hP hk1
                subst hw
                clear hBk hvm ht u hz1 hk1
                clear hPc hDc hFc; clear t
                generalize H1 = H at hP hS ⊢
                refine lv_istore_n (lv' := [(3, .int (F_X3_nextOfSameSize a0.2)), (2, .int (a0.1 + 1)), (0, .ref hW), (1, .int x1), (4, .int (nI i0))]) hx hb dX3_unclearSets_53 rfl hl (by decide) rfl (fun ls hl => ?_)
                refine lv_iinc (v := nI (i0 + 1)) (lv' := [(4, .int (nI (i0 + 1))), (3, .int (F_X3_nextOfSameSize a0.2)), (2, .int (a0.1 + 1)), (0, .ref hW), (1, .int x1)]) hx hb dX3_unclearSets_54 hl (k := 4) rfl (nI_1 _) (by decide) rfl (fun ls hl => ?_)
                refine lv_goto (tgt := 11) hx hb dX3_unclearSets_57 (by decide) ?_
                have hl : lv_has ls 5 [(0, .ref hW), (1, .int x1), (2, .int (a0.1 + 1)), (3, .int (F_X3_nextOfSameSize a0.2)), (4, .int (nI (i0 + 1)))] := lv_sub hl [3, 4, 2, 1, 0] rfl
                have hP := hP.sub (ws' := [(hW, .inr (10, [.int (nI R), .int (nI C), .int (nI K), .int fi, .int di, .int br, .int li]))]) [0] rfl
                have hD := hD.sub (ws' := [(hW, .inr (10, [.int (nI R), .int (nI C), .int (nI K), .int fi, .int di, .int br, .int li]))]) [0] (by decide) rfl
                exact ih0 (i0 + 1) (by omega) (a0.1 + 1, F_X3_nextOfSameSize a0.2) H locs ls hP hD hS hl (by rw [hE0, L_X3_unclearSets_11, if_neg c_4, if_pos c_5, if_pos c_7])
    have hl : lv_has ls 5 [(0, .ref hW), (1, .int x1), (2, .int 0), (3, .int (((1 : Int32) <<< (x1 &&& 31)) - 1)), (4, .int (nI 0))] := lv_sub hl [3, 4, 2, 1, 0] rfl
    exact lp_11 12650 0 (by omega) (0, ((1 : Int32) <<< (x1 &&& 31)) - 1) H locs ls hP hD hS hl (by rfl)
  rw [hHe, hLe] at hgoal
  exact hgoal

def T_X3_setsBackBy_18 (C : Nat) (x1 : Int32) : Int32 := F_X3_rowOf C x1
def T_X3_setsBackBy_27 (C : Nat) (x1 : Int32) : Int32 := x1 - ((T_X3_setsBackBy_18 C x1) * (nI C))
def T_X3_setsBackBy_43 (C : Nat) (li : Int32) (x1 : Int32) : Int32 := (F_X3_columnsOf C li (T_X3_setsBackBy_18 C x1)) &&& (((1 : Int32) <<< ((T_X3_setsBackBy_27 C x1) &&& 31)) ^^^ (-1))
def S_X3_setsBackBy_51 (C : Nat) (li : Int32) (x1 : Int32) (i0 : Nat) (a0 : Int32) : Int32 := (if (nI i0) = (T_X3_setsBackBy_18 C x1) then a0 else (if (F_X4_holds (F_X3_columnsOf C li (nI i0)) (T_X3_setsBackBy_27 C x1)) = 0 then a0 else a0 + (F_J6_bitCount_0f7a4 ((F_X3_columnsOf C li (nI i0)) &&& (T_X3_setsBackBy_43 C li x1)))))
def F_X3_setsBackBy (R : Nat) (C : Nat) (li : Int32) (x1 : Int32) : Int32 := (if (F_X4_holds li x1) = 0 then 0 else (itr (fun i a => S_X3_setsBackBy_51 C li x1 i a) R 0 0))
set_option maxHeartbeats 4000000 in
set_option maxRecDepth 100000 in
theorem c_X3_setsBackBy (l : Launch) (D : va_G) (hW : Nat) (R : Nat) (C : Nat) (K : Nat) (fi : Int32) (di : Int32) (br : Int32) (li : Int32) (x1 : Int32) (sz : Nat) (hR : R ≤ 5) : Met l yX3_setsBackBy (Cond.code yX3_setsBackBy cX3_setsBackBy 8 (some .int) :: lwAll) ({ frames := 1, cells := 0, slots := 0, locals := 22 } : Room) (va_Pc [.ref hW, .int x1] (cPre D (lwTY D) [(hW, .inr (10, [.int (nI R), .int (nI C), .int (nI K), .int fi, .int di, .int br, .int li]))] sz)) (va_Qi (fun (r : Int32) (_ : Unit) => r = (F_X3_setsBackBy R C li x1)) (fun _ _ => True) (fun q : Nat => sz ≤ q)) 0 0 (fun q : Nat => sz ≤ q) := by
  refine Met.ofW (cc := cX3_setsBackBy) (maxL := 8) (ret := (some .int)) (by decide) rfl ?_
  intro p e s m args below meth c s₁ B hml hv
  obtain ⟨rfl, hsz, hP, hK, hD0, hN, hZ⟩ := hv
  have hx := B.exec
  have hb := B.bytes
  have hr := B.returns
  have hts : ∀ wd ∈ lwAll, wd.before ([.ref hW, .int x1] : List Value).toArray s = true := fun wd h => atoms_spec (ws := (Cond.code yX3_setsBackBy cX3_setsBackBy 8 (some .int) :: lwAll)) B.pre wd (List.mem_cons_of_mem _ h)
  have hown : s.vm.findClass RX3 = some m.cls := findClass_of_methodNamed B.named
  have hlocks := B.notSynchronized
  subst hsz
  have hD := hD0.self (sz := s.heap.size)
  have hl := lv_entry ([.ref hW, .int x1]) (n := 8) (Nat.le_of_ble_eq_true rfl)
  rw [lg_entry_eq]
  generalize (lg_sl ([.ref hW, .int x1]) ++ List.replicate (8 - (lg_sl ([.ref hW, .int x1])).length) Slot.unset).toArray = ls at hl ⊢
  have hl : lv_has ls 8 [(0, .ref hW), (1, .int x1)] := hl
  have hS : va_S (fun q : Nat => s.heap.size ≤ q) s.heap s.heap [] := va_S.rf
  generalize hQe : MQ below (va_Qi (fun (r : Int32) (_ : Unit) => r = (F_X3_setsBackBy R C li x1)) (fun _ _ => True) (fun q : Nat => s.heap.size ≤ q)) ([.ref hW, .int x1] : List Value).toArray s 0 0 (fun q : Nat => s.heap.size ≤ q) = Q
  have hP : va_P D vwCl [(hW, .inr (10, [.int (nI R), .int (nI C), .int (nI K), .int fi, .int di, .int br, .int li]))] s.heap := hP
  obtain ⟨A, hAe⟩ : ∃ A, A = va_A [(hW, .inr (10, [.int (nI R), .int (nI C), .int (nI K), .int fi, .int di, .int br, .int li]))] s.heap.size := ⟨_, rfl⟩
  rw [← hAe] at hD hZ
  have hA : ∀ q : Nat, s.heap.size ≤ q → A q := fun q h => by rw [hAe]; exact Or.inr h
  obtain ⟨H, hHe⟩ : ∃ H, H = s.heap := ⟨_, rfl⟩
  obtain ⟨locs, hLe⟩ : ∃ L : List Loc, L = [] := ⟨_, rfl⟩
  have hP : va_P D vwCl [(hW, .inr (10, [.int (nI R), .int (nI C), .int (nI K), .int fi, .int di, .int br, .int li]))] H := by rw [hHe]; exact hP
  have hS : va_S (fun q : Nat => s.heap.size ≤ q) s.heap H locs := by rw [hHe, hLe]; exact hS
  have hgoal : W p l e ({ frames := 1, cells := 0, slots := 0, locals := 22 } : Room) s m ([.ref hW, .int x1] : List Value).toArray below meth c H locs 0 0 Q (F0 m 0 ls []) := by
    clear hHe hLe
    refine lv_aload_n hx hb dX3_setsBackBy_0 rfl (lv_at hl 0 rfl) ?_
    refine va_get (D := D) (ci := 10) (v := .int li) (C := RX3) (T := TX3) (N := 7) hx hb hts in_X3 hown hK hP 0 rfl rfl 6 (by decide) (hts _ q_140) (fun _ h9 => h9) rfl dX3_setsBackBy_1 ?_
    refine lv_iload_n hx hb dX3_setsBackBy_4 rfl (lv_at hl 1 rfl) ?_
    have hPc := hP.sub (ws' := []) [] rfl
    have hDc := hD.sub (ws' := []) [] (by decide) rfl
    have hFc := va_free (wc := []) hD (va_S_up hS hA) hA [] rfl
    refine va_calli (va_runSN (As := [.int li, .int x1]) (rest := []) ⟨hx, hb, hml, hown, hts⟩ (c_X4_holds l D li x1 H.size ) ⟨va_cnB 2 hts (gi_sub q_713) rfl rfl rfl (hN.1 _ n_711) (hts _ q_80) (by decide +kernel) ⟨Nat.le_of_ble_eq_true rfl, Nat.le_of_ble_eq_true rfl⟩, (hts _ q_712), trivial⟩ ⟨cPre_blind, cPre_mk hPc hK hDc hN (lwZ_for hZ (va_S_up hS hA) hFc)⟩ rfl rfl hl.1 rfl (lv_room (Nat.le_of_ble_eq_true rfl)) dX3_setsBackBy_5 ⟨(Nat.le_of_ble_eq_true rfl), (Nat.le_of_ble_eq_true rfl)⟩) hS (fun q h1 h2 => absurd h2 (Nat.not_le.mpr h1)) (fun q h => Nat.le_trans hS.1 h) (fun r_5 u t H1 locs ht hvm hw hBk hz1 hk1 hS => ?_)
    have hP := va_P_ro hP hk1
    obtain ⟨hw, z_1⟩ := hw
    rw [hw] at z_1
    subst hw
    clear hBk hvm ht u hz1 hk1
    clear hPc hDc hFc; clear t
    generalize H1 = H at hP hS ⊢
    refine lv_if_ne (tgt := 13) hx hb dX3_setsBackBy_8 (by decide) (fun c_2 => ?_) (fun c_2 => ?_)
    · refine lv_aload_n hx hb dX3_setsBackBy_13 rfl (lv_at hl 0 rfl) ?_
      refine lv_iload_n hx hb dX3_setsBackBy_14 rfl (lv_at hl 1 rfl) ?_
      have hPc := hP.sub (ws' := [(hW, .inr (10, [.int (nI R), .int (nI C), .int (nI K), .int fi, .int di, .int br, .int li]))]) [0] rfl
      have hDc := hD.sub (ws' := [(hW, .inr (10, [.int (nI R), .int (nI C), .int (nI K), .int fi, .int di, .int br, .int li]))]) [0] (by decide) rfl
      have hFc := va_free (wc := [(hW, .inr (10, [.int (nI R), .int (nI C), .int (nI K), .int fi, .int di, .int br, .int li]))]) hD (va_S_up hS hA) hA [0] rfl
      refine va_calli (va_runV (As := [.int x1]) (rest := []) ⟨hx, hb, hml, hown, hts⟩ (c_X3_rowOf l D hW R C K fi di br li x1 H.size ) (cwV 1 hts (gi_V q_718 q_720 q_9 q_81 q_721) rfl rfl rfl (by decide +kernel) ⟨Nat.le_of_ble_eq_true rfl, Nat.le_of_ble_eq_true rfl⟩) ⟨cPre_blind, va_recv hK hP (ci := 10) (q0 := 0) rfl rfl, cPre_mk hPc hK hDc hN (lwZ_for hZ (va_S_up hS hA) hFc)⟩ rfl rfl hl.1 rfl (lv_room (Nat.le_of_ble_eq_true rfl)) dX3_setsBackBy_15 ⟨(Nat.le_of_ble_eq_true rfl), (Nat.le_of_ble_eq_true rfl)⟩) hS (fun q h1 h2 => absurd h2 (Nat.not_le.mpr h1)) (fun q h => Nat.le_trans hS.1 h) (fun r_15 u t H1 locs ht hvm hw hBk hz1 hk1 hS => ?_)
      have hP := va_P_ro hP hk1
      subst hw
      clear hBk hvm ht u hz1 hk1
      clear hPc hDc hFc; clear t
      generalize H1 = H at hP hS ⊢
      refine lv_istore_n (lv' := [(2, .int (F_X3_rowOf C x1)), (0, .ref hW), (1, .int x1)]) hx hb dX3_setsBackBy_18 rfl hl (by decide) rfl (fun ls hl => ?_)
      have hl : lv_has ls 8 [(2, .int (T_X3_setsBackBy_18 C x1)), (0, .ref hW), (1, .int x1)] := hl
      refine lv_iload_n hx hb dX3_setsBackBy_19 rfl (lv_at hl 2 rfl) ?_
      refine lv_iload_n hx hb dX3_setsBackBy_20 rfl (lv_at hl 0 rfl) ?_
      refine lv_aload_n hx hb dX3_setsBackBy_21 rfl (lv_at hl 1 rfl) ?_
      refine va_get (D := D) (ci := 10) (v := .int (nI C)) (C := RX3) (T := TX3) (N := 7) hx hb hts in_X3 hown hK hP 0 rfl rfl 1 (by decide) (hts _ q_130) (fun _ h9 => h9) rfl dX3_setsBackBy_22 ?_
      refine lv_imul hx hb dX3_setsBackBy_25 ?_
      refine lv_isub hx hb dX3_setsBackBy_26 ?_
      refine lv_istore_n (lv' := [(3, .int (x1 - ((T_X3_setsBackBy_18 C x1) * (nI C)))), (2, .int (T_X3_setsBackBy_18 C x1)), (0, .ref hW), (1, .int x1)]) hx hb dX3_setsBackBy_27 rfl hl (by decide) rfl (fun ls hl => ?_)
      have hl : lv_has ls 8 [(3, .int (T_X3_setsBackBy_27 C x1)), (2, .int (T_X3_setsBackBy_18 C x1)), (0, .ref hW), (1, .int x1)] := hl
      refine lv_aload_n hx hb dX3_setsBackBy_28 rfl (lv_at hl 2 rfl) ?_
      refine lv_aload_n hx hb dX3_setsBackBy_29 rfl (lv_at hl 2 rfl) ?_
      refine va_get (D := D) (ci := 10) (v := .int li) (C := RX3) (T := TX3) (N := 7) hx hb hts in_X3 hown hK hP 0 rfl rfl 6 (by decide) (hts _ q_140) (fun _ h9 => h9) rfl dX3_setsBackBy_30 ?_
      refine lv_iload_n hx hb dX3_setsBackBy_33 rfl (lv_at hl 1 rfl) ?_
      have hPc := hP.sub (ws' := [(hW, .inr (10, [.int (nI R), .int (nI C), .int (nI K), .int fi, .int di, .int br, .int li]))]) [0] rfl
      have hDc := hD.sub (ws' := [(hW, .inr (10, [.int (nI R), .int (nI C), .int (nI K), .int fi, .int di, .int br, .int li]))]) [0] (by decide) rfl
      have hFc := va_free (wc := [(hW, .inr (10, [.int (nI R), .int (nI C), .int (nI K), .int fi, .int di, .int br, .int li]))]) hD (va_S_up hS hA) hA [0] rfl
      refine va_calli (va_runV (As := [.int li, .int (T_X3_setsBackBy_18 C x1)]) (rest := []) ⟨hx, hb, hml, hown, hts⟩ (c_X3_columnsOf l D hW R C K fi di br li li (T_X3_setsBackBy_18 C x1) H.size ) (cwV 2 hts (gi_V q_722 q_724 q_10 q_81 q_725) rfl rfl rfl (by decide +kernel) ⟨Nat.le_of_ble_eq_true rfl, Nat.le_of_ble_eq_true rfl⟩) ⟨cPre_blind, va_recv hK hP (ci := 10) (q0 := 0) rfl rfl, cPre_mk hPc hK hDc hN (lwZ_for hZ (va_S_up hS hA) hFc)⟩ rfl rfl hl.1 rfl (lv_room (Nat.le_of_ble_eq_true rfl)) dX3_setsBackBy_34 ⟨(Nat.le_of_ble_eq_true rfl), (Nat.le_of_ble_eq_true rfl)⟩) hS (fun q h1 h2 => absurd h2 (Nat.not_le.mpr h1)) (fun q h => Nat.le_trans hS.1 h) (fun r_34 u t H1 locs ht hvm hw hBk hz1 hk1 hS => ?_)
      have hP := va_P_ro hP hk1
      subst hw
      clear hBk hvm ht u hz1 hk1
      clear hPc hDc hFc; clear t
      generalize H1 = H at hP hS ⊢
      refine lv_iconst (v := 1) hx hb dX3_setsBackBy_37 (by decide) ?_
      refine lv_iload_n hx hb dX3_setsBackBy_38 rfl (lv_at hl 0 rfl) ?_
      refine lv_ishl hx hb dX3_setsBackBy_39 ?_
      refine lv_iconst (v := (-1)) hx hb dX3_setsBackBy_40 (by decide) ?_
      refine lv_ixor hx hb dX3_setsBackBy_41 ?_
      refine lv_iand hx hb dX3_setsBackBy_42 ?_
      refine lv_istore (lv' := [(4, .int ((F_X3_columnsOf C li (T_X3_setsBackBy_18 C x1)) &&& (((1 : Int32) <<< ((T_X3_setsBackBy_27 C x1) &&& 31)) ^^^ (-1)))), (3, .int (T_X3_setsBackBy_27 C x1)), (2, .int (T_X3_setsBackBy_18 C x1)), (0, .ref hW), (1, .int x1)]) hx hb dX3_setsBackBy_43 hl (by decide) rfl (fun ls hl => ?_)
      have hl : lv_has ls 8 [(4, .int (T_X3_setsBackBy_43 C li x1)), (3, .int (T_X3_setsBackBy_27 C x1)), (2, .int (T_X3_setsBackBy_18 C x1)), (0, .ref hW), (1, .int x1)] := hl
      refine lv_iconst (v := 0) hx hb dX3_setsBackBy_45 (by decide) ?_
      refine lv_istore (lv' := [(5, .int 0), (4, .int (T_X3_setsBackBy_43 C li x1)), (3, .int (T_X3_setsBackBy_27 C x1)), (2, .int (T_X3_setsBackBy_18 C x1)), (0, .ref hW), (1, .int x1)]) hx hb dX3_setsBackBy_46 hl (by decide) rfl (fun ls hl => ?_)
      refine lv_iconst (v := 0) hx hb dX3_setsBackBy_48 (by decide) ?_
      refine lv_istore (lv' := [(6, .int 0), (5, .int 0), (4, .int (T_X3_setsBackBy_43 C li x1)), (3, .int (T_X3_setsBackBy_27 C x1)), (2, .int (T_X3_setsBackBy_18 C x1)), (0, .ref hW), (1, .int x1)]) hx hb dX3_setsBackBy_49 hl (by decide) rfl (fun ls hl => ?_)
      have lp_51 : ∀ (n0 i0 : Nat), i0 + n0 = R → ∀ (a0 : Int32) (H : Heap) (locs : List Loc) (ls : Array Slot), va_P D vwCl [(hW, .inr (10, [.int (nI R), .int (nI C), .int (nI K), .int fi, .int di, .int br, .int li]))] H → va_D A [(hW, .inr (10, [.int (nI R), .int (nI C), .int (nI K), .int fi, .int di, .int br, .int li]))] → va_S (fun q : Nat => s.heap.size ≤ q) s.heap H locs → lv_has ls 8 [(0, .ref hW), (1, .int x1), (2, .int (T_X3_setsBackBy_18 C x1)), (3, .int (T_X3_setsBackBy_27 C x1)), (4, .int (T_X3_setsBackBy_43 C li x1)), (5, .int a0), (6, .int (nI i0))] → (∀ (H : Heap) (locs : List Loc) (ls : Array Slot), va_P D vwCl [(hW, .inr (10, [.int (nI R), .int (nI C), .int (nI K), .int fi, .int di, .int br, .int li]))] H → va_D A [(hW, .inr (10, [.int (nI R), .int (nI C), .int (nI K), .int fi, .int di, .int br, .int li]))] → va_S (fun q : Nat => s.heap.size ≤ q) s.heap H locs → lv_has ls 8 [(0, .ref hW), (1, .int x1), (2, .int (T_X3_setsBackBy_18 C x1)), (3, .int (T_X3_setsBackBy_27 C x1)), (4, .int (T_X3_setsBackBy_43 C li x1)), (5, .int (itr (fun i a => S_X3_setsBackBy_51 C li x1 i a) n0 i0 a0)), (6, .int (nI R))] → W p l e ({ frames := 1, cells := 0, slots := 0, locals := 22 } : Room) s m ([.ref hW, .int x1] : List Value).toArray below meth c H locs 0 0 Q (F0 m 106 ls [])) → W p l e ({ frames := 1, cells := 0, slots := 0, locals := 22 } : Room) s m ([.ref hW, .int x1] : List Value).toArray below meth c H locs 0 0 Q (F0 m 51 ls []) := by
        intro n0
        induction n0 with
        | zero =>
          intro i0 hi0 a0 H locs ls hP hD hS hl kon
          have he0 : i0 = R := by omega
          refine lv_iload hx hb dX3_setsBackBy_51 (lv_at hl 6 rfl) ?_
          refine lv_aload_n hx hb dX3_setsBackBy_53 rfl (lv_at hl 0 rfl) ?_
          refine va_get (D := D) (ci := 10) (v := .int (nI R)) (C := RX3) (T := TX3) (N := 7) hx hb hts in_X3 hown hK hP 0 rfl rfl 0 (by decide) (hts _ q_128) (fun _ h9 => h9) rfl dX3_setsBackBy_54 ?_
          refine lv_icmp_ge (tgt := 106) hx hb dX3_setsBackBy_57 (by decide) (fun c_3 => ?_) (fun c_3 => ?_)
          · subst he0
            exact kon H locs ls hP hD hS (lv_sub hl [0, 1, 2, 3, 4, 5, 6] rfl)
          · exact absurd (nI_le (a := R) (b := i0) (by omega) (by omega)) c_3
        | succ n0 ih0 =>
          intro i0 hi0 a0 H locs ls hP hD hS hl kon
          refine lv_iload hx hb dX3_setsBackBy_51 (lv_at hl 6 rfl) ?_
          refine lv_aload_n hx hb dX3_setsBackBy_53 rfl (lv_at hl 0 rfl) ?_
          refine va_get (D := D) (ci := 10) (v := .int (nI R)) (C := RX3) (T := TX3) (N := 7) hx hb hts in_X3 hown hK hP 0 rfl rfl 0 (by decide) (hts _ q_128) (fun _ h9 => h9) rfl dX3_setsBackBy_54 ?_
          refine lv_icmp_ge (tgt := 106) hx hb dX3_setsBackBy_57 (by decide) (fun c_4 => ?_) (fun c_4 => ?_)
          · exact absurd c_4 (nI_ge (a := i0) (b := R) (by omega) (by omega))
          · refine lv_aload_n hx hb dX3_setsBackBy_60 rfl (lv_at hl 0 rfl) ?_
            refine lv_aload_n hx hb dX3_setsBackBy_61 rfl (lv_at hl 0 rfl) ?_
            refine va_get (D := D) (ci := 10) (v := .int li) (C := RX3) (T := TX3) (N := 7) hx hb hts in_X3 hown hK hP 0 rfl rfl 6 (by decide) (hts _ q_140) (fun _ h9 => h9) rfl dX3_setsBackBy_62 ?_
            refine lv_iload hx hb dX3_setsBackBy_65 (lv_at hl 6 rfl) ?_
            have hPc := hP.sub (ws' := [(hW, .inr (10, [.int (nI R), .int (nI C), .int (nI K), .int fi, .int di, .int br, .int li]))]) [0] rfl
            have hDc := hD.sub (ws' := [(hW, .inr (10, [.int (nI R), .int (nI C), .int (nI K), .int fi, .int di, .int br, .int li]))]) [0] (by decide) rfl
            have hFc := va_free (wc := [(hW, .inr (10, [.int (nI R), .int (nI C), .int (nI K), .int fi, .int di, .int br, .int li]))]) hD (va_S_up hS hA) hA [0] rfl
            refine va_calli (va_runV (As := [.int li, .int (nI i0)]) (rest := []) ⟨hx, hb, hml, hown, hts⟩ (c_X3_columnsOf l D hW R C K fi di br li li (nI i0) H.size ) (cwV 2 hts (gi_V q_722 q_724 q_10 q_81 q_725) rfl rfl rfl (by decide +kernel) ⟨Nat.le_of_ble_eq_true rfl, Nat.le_of_ble_eq_true rfl⟩) ⟨cPre_blind, va_recv hK hP (ci := 10) (q0 := 0) rfl rfl, cPre_mk hPc hK hDc hN (lwZ_for hZ (va_S_up hS hA) hFc)⟩ rfl rfl hl.1 rfl (lv_room (Nat.le_of_ble_eq_true rfl)) dX3_setsBackBy_67 ⟨(Nat.le_of_ble_eq_true rfl), (Nat.le_of_ble_eq_true rfl)⟩) hS (fun q h1 h2 => absurd h2 (Nat.not_le.mpr h1)) (fun q h => Nat.le_trans hS.1 h) (fun r_67 u t H1 locs ht hvm hw hBk hz1 hk1 hS => ?_)
            have hP := va_P_ro hP hk1
            subst hw
            clear hBk hvm ht u hz1 hk1
            clear hPc hDc hFc; clear t
            generalize H1 = H at hP hS ⊢
            refine lv_istore (lv' := [(7, .int (F_X3_columnsOf C li (nI i0))), (0, .ref hW), (1, .int x1), (2, .int (T_X3_setsBackBy_18 C x1)), (3, .int (T_X3_setsBackBy_27 C x1)), (4, .int (T_X3_setsBackBy_43 C li x1)), (5, .int a0), (6, .int (nI i0))]) hx hb dX3_setsBackBy_70 hl (by decide) rfl (fun ls hl => ?_)
            refine lv_iload hx hb dX3_setsBackBy_72 (lv_at hl 7 rfl) ?_
            refine lv_iload_n hx hb dX3_setsBackBy_74 rfl (lv_at hl 3 rfl) ?_
            refine lv_icmp_eq (tgt := 100) hx hb dX3_setsBackBy_75 (by decide) (fun c_5 => ?_) (fun c_5 => ?_)
            · refine lv_iinc (v := nI (i0 + 1)) (lv' := [(6, .int (nI (i0 + 1))), (7, .int (F_X3_columnsOf C li (nI i0))), (0, .ref hW), (1, .int x1), (2, .int (T_X3_setsBackBy_18 C x1)), (3, .int (T_X3_setsBackBy_27 C x1)), (4, .int (T_X3_setsBackBy_43 C li x1)), (5, .int a0)]) hx hb dX3_setsBackBy_100 hl (k := 7) rfl (nI_1 _) (by decide) rfl (fun ls hl => ?_)
              refine lv_goto (tgt := 51) hx hb dX3_setsBackBy_103 (by decide) ?_
              have hE : S_X3_setsBackBy_51 C li x1 i0 a0 = a0 := (by unfold S_X3_setsBackBy_51; rw [if_pos c_5])
              have hl : lv_has ls 8 [(0, .ref hW), (1, .int x1), (2, .int (T_X3_setsBackBy_18 C x1)), (3, .int (T_X3_setsBackBy_27 C x1)), (4, .int (T_X3_setsBackBy_43 C li x1)), (5, .int a0), (6, .int (nI (i0 + 1)))] := lv_sub hl [2, 3, 4, 5, 6, 7, 0] rfl
              have hP := hP.sub (ws' := [(hW, .inr (10, [.int (nI R), .int (nI C), .int (nI K), .int fi, .int di, .int br, .int li]))]) [0] rfl
              have hD := hD.sub (ws' := [(hW, .inr (10, [.int (nI R), .int (nI C), .int (nI K), .int fi, .int di, .int br, .int li]))]) [0] (by decide) rfl
              exact ih0 (i0 + 1) (by omega) (S_X3_setsBackBy_51 C li x1 i0 a0) H locs ls (by (try rw [hE]); exact hP) (by (try rw [hE]); exact hD) hS (by (try rw [hE]); exact hl) kon
            · refine lv_iload hx hb dX3_setsBackBy_78 (lv_at hl 0 rfl) ?_
              refine lv_iload_n hx hb dX3_setsBackBy_80 rfl (lv_at hl 4 rfl) ?_
              have hPc := hP.sub (ws' := []) [] rfl
              have hDc := hD.sub (ws' := []) [] (by decide) rfl
              have hFc := va_free (wc := []) hD (va_S_up hS hA) hA [] rfl
              refine va_calli (va_runSN (As := [.int (F_X3_columnsOf C li (nI i0)), .int (T_X3_setsBackBy_27 C x1)]) (rest := []) ⟨hx, hb, hml, hown, hts⟩ (c_X4_holds l D (F_X3_columnsOf C li (nI i0)) (T_X3_setsBackBy_27 C x1) H.size ) ⟨va_cnB 2 hts (gi_sub q_713) rfl rfl rfl (hN.1 _ n_711) (hts _ q_80) (by decide +kernel) ⟨Nat.le_of_ble_eq_true rfl, Nat.le_of_ble_eq_true rfl⟩, (hts _ q_712), trivial⟩ ⟨cPre_blind, cPre_mk hPc hK hDc hN (lwZ_for hZ (va_S_up hS hA) hFc)⟩ rfl rfl hl.1 rfl (lv_room (Nat.le_of_ble_eq_true rfl)) dX3_setsBackBy_81 ⟨(Nat.le_of_ble_eq_true rfl), (Nat.le_of_ble_eq_true rfl)⟩) hS (fun q h1 h2 => absurd h2 (Nat.not_le.mpr h1)) (fun q h => Nat.le_trans hS.1 h) (fun r_81 u t H1 locs ht hvm hw hBk hz1 hk1 hS => ?_)
              have hP := va_P_ro hP hk1
              obtain ⟨hw, z_6⟩ := hw
              rw [hw] at z_6
              subst hw
              clear hBk hvm ht u hz1 hk1
              clear hPc hDc hFc; clear t
              generalize H1 = H at hP hS ⊢
              refine lv_if_eq (tgt := 100) hx hb dX3_setsBackBy_84 (by decide) (fun c_7 => ?_) (fun c_7 => ?_)
              · refine lv_iinc (v := nI (i0 + 1)) (lv' := [(6, .int (nI (i0 + 1))), (7, .int (F_X3_columnsOf C li (nI i0))), (0, .ref hW), (1, .int x1), (2, .int (T_X3_setsBackBy_18 C x1)), (3, .int (T_X3_setsBackBy_27 C x1)), (4, .int (T_X3_setsBackBy_43 C li x1)), (5, .int a0)]) hx hb dX3_setsBackBy_100 hl (k := 7) rfl (nI_1 _) (by decide) rfl (fun ls hl => ?_)
                refine lv_goto (tgt := 51) hx hb dX3_setsBackBy_103 (by decide) ?_
                have hE : S_X3_setsBackBy_51 C li x1 i0 a0 = a0 := (by unfold S_X3_setsBackBy_51; rw [if_neg c_5, if_pos c_7])
                have hl : lv_has ls 8 [(0, .ref hW), (1, .int x1), (2, .int (T_X3_setsBackBy_18 C x1)), (3, .int (T_X3_setsBackBy_27 C x1)), (4, .int (T_X3_setsBackBy_43 C li x1)), (5, .int a0), (6, .int (nI (i0 + 1)))] := lv_sub hl [2, 3, 4, 5, 6, 7, 0] rfl
                have hP := hP.sub (ws' := [(hW, .inr (10, [.int (nI R), .int (nI C), .int (nI K), .int fi, .int di, .int br, .int li]))]) [0] rfl
                have hD := hD.sub (ws' := [(hW, .inr (10, [.int (nI R), .int (nI C), .int (nI K), .int fi, .int di, .int br, .int li]))]) [0] (by decide) rfl
                exact ih0 (i0 + 1) (by omega) (S_X3_setsBackBy_51 C li x1 i0 a0) H locs ls (by (try rw [hE]); exact hP) (by (try rw [hE]); exact hD) hS (by (try rw [hE]); exact hl) kon
              · refine lv_iload hx hb dX3_setsBackBy_87 (lv_at hl 6 rfl) ?_
                refine lv_iload hx hb dX3_setsBackBy_89 (lv_at hl 0 rfl) ?_
                refine lv_iload hx hb dX3_setsBackBy_91 (lv_at hl 5 rfl) ?_
                refine lv_iand hx hb dX3_setsBackBy_93 ?_
                have hPc := hP.sub (ws' := []) [] rfl
                have hDc := hD.sub (ws' := []) [] (by decide) rfl
                have hFc := va_free (wc := []) hD (va_S_up hS hA) hA [] rfl
                refine va_calli (va_runS (As := [.int ((F_X3_columnsOf C li (nI i0)) &&& (T_X3_setsBackBy_43 C li x1))]) (rest := [.int a0]) ⟨hx, hb, hml, hown, hts⟩ (c_J6_bitCount_0f7a4 l D ((F_X3_columnsOf C li (nI i0)) &&& (T_X3_setsBackBy_43 C li x1)) H.size ) ⟨callB_of 1 hts (gi_sub q_728) rfl rfl rfl (hts _ q_101) (hts _ q_726) (by decide +kernel) ⟨Nat.le_of_ble_eq_true rfl, Nat.le_of_ble_eq_true rfl⟩, (hts _ q_727)⟩ ⟨cPre_blind, cPre_mk hPc hK hDc hN (lwZ_for hZ (va_S_up hS hA) hFc)⟩ rfl rfl hl.1 rfl (lv_room (Nat.le_of_ble_eq_true rfl)) dX3_setsBackBy_94 ⟨(Nat.le_of_ble_eq_true rfl), (Nat.le_of_ble_eq_true rfl)⟩) hS (fun q h1 h2 => absurd h2 (Nat.not_le.mpr h1)) (fun q h => Nat.le_trans hS.1 h) (fun r_94 u t H1 locs ht hvm hw hBk hz1 hk1 hS => ?_)
                have hP := va_P_ro hP hk1
                subst hw
                clear hBk hvm ht u hz1 hk1
                clear hPc hDc hFc; clear t
                generalize H1 = H at hP hS ⊢
                refine lv_iadd hx hb dX3_setsBackBy_97 ?_
                refine lv_istore (lv' := [(5, .int (a0 + (F_J6_bitCount_0f7a4 ((F_X3_columnsOf C li (nI i0)) &&& (T_X3_setsBackBy_43 C li x1))))), (7, .int (F_X3_columnsOf C li (nI i0))), (0, .ref hW), (1, .int x1), (2, .int (T_X3_setsBackBy_18 C x1)), (3, .int (T_X3_setsBackBy_27 C x1)), (4, .int (T_X3_setsBackBy_43 C li x1)), (6, .int (nI i0))]) hx hb dX3_setsBackBy_98 hl (by decide) rfl (fun ls hl => ?_)
                refine lv_iinc (v := nI (i0 + 1)) (lv' := [(6, .int (nI (i0 + 1))), (5, .int (a0 + (F_J6_bitCount_0f7a4 ((F_X3_columnsOf C li (nI i0)) &&& (T_X3_setsBackBy_43 C li x1))))), (7, .int (F_X3_columnsOf C li (nI i0))), (0, .ref hW), (1, .int x1), (2, .int (T_X3_setsBackBy_18 C x1)), (3, .int (T_X3_setsBackBy_27 C x1)), (4, .int (T_X3_setsBackBy_43 C li x1))]) hx hb dX3_setsBackBy_100 hl (k := 7) rfl (nI_1 _) (by decide) rfl (fun ls hl => ?_)
                refine lv_goto (tgt := 51) hx hb dX3_setsBackBy_103 (by decide) ?_
                have hE : S_X3_setsBackBy_51 C li x1 i0 a0 = a0 + (F_J6_bitCount_0f7a4 ((F_X3_columnsOf C li (nI i0)) &&& (T_X3_setsBackBy_43 C li x1))) := (by unfold S_X3_setsBackBy_51; rw [if_neg c_5, if_neg c_7])
                have hl : lv_has ls 8 [(0, .ref hW), (1, .int x1), (2, .int (T_X3_setsBackBy_18 C x1)), (3, .int (T_X3_setsBackBy_27 C x1)), (4, .int (T_X3_setsBackBy_43 C li x1)), (5, .int (a0 + (F_J6_bitCount_0f7a4 ((F_X3_columnsOf C li (nI i0)) &&& (T_X3_setsBackBy_43 C li x1))))), (6, .int (nI (i0 + 1)))] := lv_sub hl [3, 4, 5, 6, 7, 1, 0] rfl
                have hP := hP.sub (ws' := [(hW, .inr (10, [.int (nI R), .int (nI C), .int (nI K), .int fi, .int di, .int br, .int li]))]) [0] rfl
                have hD := hD.sub (ws' := [(hW, .inr (10, [.int (nI R), .int (nI C), .int (nI K), .int fi, .int di, .int br, .int li]))]) [0] (by decide) rfl
                exact ih0 (i0 + 1) (by omega) (S_X3_setsBackBy_51 C li x1 i0 a0) H locs ls (by (try rw [hE]); exact hP) (by (try rw [hE]); exact hD) hS (by (try rw [hE]); exact hl) kon
      have hl : lv_has ls 8 [(0, .ref hW), (1, .int x1), (2, .int (T_X3_setsBackBy_18 C x1)), (3, .int (T_X3_setsBackBy_27 C x1)), (4, .int (T_X3_setsBackBy_43 C li x1)), (5, .int 0), (6, .int (nI 0))] := lv_sub hl [5, 6, 4, 3, 2, 1, 0] rfl
      refine lp_51 R 0 (by omega) 0 H locs ls hP hD hS hl ?_
      clear lp_51 hP hD hS hl
      intro H locs ls hP hD hS hl
      refine lv_iload hx hb dX3_setsBackBy_106 (lv_at hl 5 rfl) ?_
      subst hQe
      exact W.iret (v := (itr (fun i a => S_X3_setsBackBy_51 C li x1 i a) R 0 0)) hx hb hr (fun t ht hW => ⟨⟨(itr (fun i a => S_X3_setsBackBy_51 C li x1 i a) R 0 0), (), rfl, (by unfold F_X3_setsBackBy; rw [if_neg c_2]), trivial⟩, hS.F ht⟩) hS.2.2 dX3_setsBackBy_108
    · refine lv_iconst (v := 0) hx hb dX3_setsBackBy_11 (by decide) ?_
      subst hQe
      exact W.iret (v := 0) hx hb hr (fun t ht hW => ⟨⟨0, (), rfl, (by unfold F_X3_setsBackBy; rw [if_pos c_2]), trivial⟩, hS.F ht⟩) hS.2.2 dX3_setsBackBy_12
  rw [hHe, hLe] at hgoal
  exact hgoal

def S_X3_diodeToAdd_6 (R : Nat) (C : Nat) (fi : Int32) (di : Int32) (li : Int32) (i0 : Nat) (a0 : Int32 × Int32) : Int32 × Int32 := (if (F_X4_holds (fi &&& (di ^^^ (-1))) (nI i0)) = 0 then (a0.1, a0.2) else (if (F_X3_setsBackBy R C li (nI i0)) ≤ a0.2 then (a0.1, a0.2) else (nI i0, F_X3_setsBackBy R C li (nI i0))))
def F_X3_diodeToAdd (R : Nat) (C : Nat) (K : Nat) (fi : Int32) (di : Int32) (li : Int32) : Int32 := (itr (fun i a => S_X3_diodeToAdd_6 R C fi di li i a) K 0 ((-1), (-1))).1
set_option maxHeartbeats 4000000 in
set_option maxRecDepth 100000 in
theorem c_X3_diodeToAdd (l : Launch) (D : va_G) (hW : Nat) (R : Nat) (C : Nat) (K : Nat) (fi : Int32) (di : Int32) (br : Int32) (li : Int32) (sz : Nat) (hR : R ≤ 5) (hKb : K ≤ 25) : Met l yX3_diodeToAdd (Cond.code yX3_diodeToAdd cX3_diodeToAdd 5 (some .int) :: lwAll) ({ frames := 2, cells := 0, slots := 0, locals := 49 } : Room) (va_Pc [.ref hW] (cPre D (lwTY D) [(hW, .inr (10, [.int (nI R), .int (nI C), .int (nI K), .int fi, .int di, .int br, .int li]))] sz)) (va_Qi (fun (r : Int32) (_ : Unit) => r = (F_X3_diodeToAdd R C K fi di li)) (fun _ _ => True) (fun q : Nat => sz ≤ q)) 0 0 (fun q : Nat => sz ≤ q) := by
  refine Met.ofW (cc := cX3_diodeToAdd) (maxL := 5) (ret := (some .int)) (by decide) rfl ?_
  intro p e s m args below meth c s₁ B hml hv
  obtain ⟨rfl, hsz, hP, hK, hD0, hN, hZ⟩ := hv
  have hx := B.exec
  have hb := B.bytes
  have hr := B.returns
  have hts : ∀ wd ∈ lwAll, wd.before ([.ref hW] : List Value).toArray s = true := fun wd h => atoms_spec (ws := (Cond.code yX3_diodeToAdd cX3_diodeToAdd 5 (some .int) :: lwAll)) B.pre wd (List.mem_cons_of_mem _ h)
  have hown : s.vm.findClass RX3 = some m.cls := findClass_of_methodNamed B.named
  have hlocks := B.notSynchronized
  subst hsz
  have hD := hD0.self (sz := s.heap.size)
  have hl := lv_entry ([.ref hW]) (n := 5) (Nat.le_of_ble_eq_true rfl)
  rw [lg_entry_eq]
  generalize (lg_sl ([.ref hW]) ++ List.replicate (5 - (lg_sl ([.ref hW])).length) Slot.unset).toArray = ls at hl ⊢
  have hl : lv_has ls 5 [(0, .ref hW)] := hl
  have hS : va_S (fun q : Nat => s.heap.size ≤ q) s.heap s.heap [] := va_S.rf
  generalize hQe : MQ below (va_Qi (fun (r : Int32) (_ : Unit) => r = (F_X3_diodeToAdd R C K fi di li)) (fun _ _ => True) (fun q : Nat => s.heap.size ≤ q)) ([.ref hW] : List Value).toArray s 0 0 (fun q : Nat => s.heap.size ≤ q) = Q
  have hP : va_P D vwCl [(hW, .inr (10, [.int (nI R), .int (nI C), .int (nI K), .int fi, .int di, .int br, .int li]))] s.heap := hP
  obtain ⟨A, hAe⟩ : ∃ A, A = va_A [(hW, .inr (10, [.int (nI R), .int (nI C), .int (nI K), .int fi, .int di, .int br, .int li]))] s.heap.size := ⟨_, rfl⟩
  rw [← hAe] at hD hZ
  have hA : ∀ q : Nat, s.heap.size ≤ q → A q := fun q h => by rw [hAe]; exact Or.inr h
  obtain ⟨H, hHe⟩ : ∃ H, H = s.heap := ⟨_, rfl⟩
  obtain ⟨locs, hLe⟩ : ∃ L : List Loc, L = [] := ⟨_, rfl⟩
  have hP : va_P D vwCl [(hW, .inr (10, [.int (nI R), .int (nI C), .int (nI K), .int fi, .int di, .int br, .int li]))] H := by rw [hHe]; exact hP
  have hS : va_S (fun q : Nat => s.heap.size ≤ q) s.heap H locs := by rw [hHe, hLe]; exact hS
  have hgoal : W p l e ({ frames := 2, cells := 0, slots := 0, locals := 49 } : Room) s m ([.ref hW] : List Value).toArray below meth c H locs 0 0 Q (F0 m 0 ls []) := by
    clear hHe hLe
    refine lv_iconst (v := (-1)) hx hb dX3_diodeToAdd_0 (by decide) ?_
    refine lv_istore_n (lv' := [(1, .int (-1)), (0, .ref hW)]) hx hb dX3_diodeToAdd_1 rfl hl (by decide) rfl (fun ls hl => ?_)
    refine lv_iconst (v := (-1)) hx hb dX3_diodeToAdd_2 (by decide) ?_
    refine lv_istore_n (lv' := [(2, .int (-1)), (1, .int (-1)), (0, .ref hW)]) hx hb dX3_diodeToAdd_3 rfl hl (by decide) rfl (fun ls hl => ?_)
    refine lv_iconst (v := 0) hx hb dX3_diodeToAdd_4 (by decide) ?_
    refine lv_istore_n (lv' := [(3, .int 0), (2, .int (-1)), (1, .int (-1)), (0, .ref hW)]) hx hb dX3_diodeToAdd_5 rfl hl (by decide) rfl (fun ls hl => ?_)
    have lp_6 : ∀ (n0 i0 : Nat), i0 + n0 = K → ∀ (a0 : Int32 × Int32) (H : Heap) (locs : List Loc) (ls : Array Slot), va_P D vwCl [(hW, .inr (10, [.int (nI R), .int (nI C), .int (nI K), .int fi, .int di, .int br, .int li]))] H → va_D A [(hW, .inr (10, [.int (nI R), .int (nI C), .int (nI K), .int fi, .int di, .int br, .int li]))] → va_S (fun q : Nat => s.heap.size ≤ q) s.heap H locs → lv_has ls 5 [(0, .ref hW), (1, .int a0.1), (2, .int a0.2), (3, .int (nI i0))] → (∀ (H : Heap) (locs : List Loc) (ls : Array Slot), va_P D vwCl [(hW, .inr (10, [.int (nI R), .int (nI C), .int (nI K), .int fi, .int di, .int br, .int li]))] H → va_D A [(hW, .inr (10, [.int (nI R), .int (nI C), .int (nI K), .int fi, .int di, .int br, .int li]))] → va_S (fun q : Nat => s.heap.size ≤ q) s.heap H locs → lv_has ls 5 [(0, .ref hW), (1, .int ((itr (fun i a => S_X3_diodeToAdd_6 R C fi di li i a) n0 i0 a0).1)), (2, .int ((itr (fun i a => S_X3_diodeToAdd_6 R C fi di li i a) n0 i0 a0).2)), (3, .int (nI K))] → W p l e ({ frames := 2, cells := 0, slots := 0, locals := 49 } : Room) s m ([.ref hW] : List Value).toArray below meth c H locs 0 0 Q (F0 m 56 ls [])) → W p l e ({ frames := 2, cells := 0, slots := 0, locals := 49 } : Room) s m ([.ref hW] : List Value).toArray below meth c H locs 0 0 Q (F0 m 6 ls []) := by
      intro n0
      induction n0 with
      | zero =>
        intro i0 hi0 a0 H locs ls hP hD hS hl kon
        have he0 : i0 = K := by omega
        refine lv_iload_n hx hb dX3_diodeToAdd_6 rfl (lv_at hl 3 rfl) ?_
        refine lv_aload_n hx hb dX3_diodeToAdd_7 rfl (lv_at hl 0 rfl) ?_
        refine va_get (D := D) (ci := 10) (v := .int (nI K)) (C := RX3) (T := TX3) (N := 7) hx hb hts in_X3 hown hK hP 0 rfl rfl 2 (by decide) (hts _ q_132) (fun _ h9 => h9) rfl dX3_diodeToAdd_8 ?_
        refine lv_icmp_ge (tgt := 56) hx hb dX3_diodeToAdd_11 (by decide) (fun c_1 => ?_) (fun c_1 => ?_)
        · subst he0
          exact kon H locs ls hP hD hS (lv_sub hl [0, 1, 2, 3] rfl)
        · exact absurd (nI_le (a := K) (b := i0) (by omega) (by omega)) c_1
      | succ n0 ih0 =>
        intro i0 hi0 a0 H locs ls hP hD hS hl kon
        refine lv_iload_n hx hb dX3_diodeToAdd_6 rfl (lv_at hl 3 rfl) ?_
        refine lv_aload_n hx hb dX3_diodeToAdd_7 rfl (lv_at hl 0 rfl) ?_
        refine va_get (D := D) (ci := 10) (v := .int (nI K)) (C := RX3) (T := TX3) (N := 7) hx hb hts in_X3 hown hK hP 0 rfl rfl 2 (by decide) (hts _ q_132) (fun _ h9 => h9) rfl dX3_diodeToAdd_8 ?_
        refine lv_icmp_ge (tgt := 56) hx hb dX3_diodeToAdd_11 (by decide) (fun c_2 => ?_) (fun c_2 => ?_)
        · exact absurd c_2 (nI_ge (a := i0) (b := K) (by omega) (by omega))
        · refine lv_aload_n hx hb dX3_diodeToAdd_14 rfl (lv_at hl 0 rfl) ?_
          refine va_get (D := D) (ci := 10) (v := .int fi) (C := RX3) (T := TX3) (N := 7) hx hb hts in_X3 hown hK hP 0 rfl rfl 3 (by decide) (hts _ q_134) (fun _ h9 => h9) rfl dX3_diodeToAdd_15 ?_
          refine lv_aload_n hx hb dX3_diodeToAdd_18 rfl (lv_at hl 0 rfl) ?_
          refine va_get (D := D) (ci := 10) (v := .int di) (C := RX3) (T := TX3) (N := 7) hx hb hts in_X3 hown hK hP 0 rfl rfl 4 (by decide) (hts _ q_136) (fun _ h9 => h9) rfl dX3_diodeToAdd_19 ?_
          refine lv_iconst (v := (-1)) hx hb dX3_diodeToAdd_22 (by decide) ?_
          refine lv_ixor hx hb dX3_diodeToAdd_23 ?_
          refine lv_iand hx hb dX3_diodeToAdd_24 ?_
          refine lv_iload_n hx hb dX3_diodeToAdd_25 rfl (lv_at hl 3 rfl) ?_
          have hPc := hP.sub (ws' := []) [] rfl
          have hDc := hD.sub (ws' := []) [] (by decide) rfl
          have hFc := va_free (wc := []) hD (va_S_up hS hA) hA [] rfl
          refine va_calli (va_runSN (As := [.int (fi &&& (di ^^^ (-1))), .int (nI i0)]) (rest := []) ⟨hx, hb, hml, hown, hts⟩ (c_X4_holds l D (fi &&& (di ^^^ (-1))) (nI i0) H.size ) ⟨va_cnB 2 hts (gi_sub q_713) rfl rfl rfl (hN.1 _ n_711) (hts _ q_80) (by decide +kernel) ⟨Nat.le_of_ble_eq_true rfl, Nat.le_of_ble_eq_true rfl⟩, (hts _ q_712), trivial⟩ ⟨cPre_blind, cPre_mk hPc hK hDc hN (lwZ_for hZ (va_S_up hS hA) hFc)⟩ rfl rfl hl.1 rfl (lv_room (Nat.le_of_ble_eq_true rfl)) dX3_diodeToAdd_26 ⟨(Nat.le_of_ble_eq_true rfl), (Nat.le_of_ble_eq_true rfl)⟩) hS (fun q h1 h2 => absurd h2 (Nat.not_le.mpr h1)) (fun q h => Nat.le_trans hS.1 h) (fun r_26 u t H1 locs ht hvm hw hBk hz1 hk1 hS => ?_)
          have hP := va_P_ro hP hk1
          obtain ⟨hw, z_3⟩ := hw
          rw [hw] at z_3
          subst hw
          clear hBk hvm ht u hz1 hk1
          clear hPc hDc hFc; clear t
          generalize H1 = H at hP hS ⊢
          refine lv_if_eq (tgt := 50) hx hb dX3_diodeToAdd_29 (by decide) (fun c_4 => ?_) (fun c_4 => ?_)
          · refine lv_iinc (v := nI (i0 + 1)) (lv' := [(3, .int (nI (i0 + 1))), (0, .ref hW), (1, .int a0.1), (2, .int a0.2)]) hx hb dX3_diodeToAdd_50 hl (k := 3) rfl (nI_1 _) (by decide) rfl (fun ls hl => ?_)
            refine lv_goto (tgt := 6) hx hb dX3_diodeToAdd_53 (by decide) ?_
            have hE : S_X3_diodeToAdd_6 R C fi di li i0 a0 = (a0.1, a0.2) := (by unfold S_X3_diodeToAdd_6; rw [if_pos c_4])
            have hl : lv_has ls 5 [(0, .ref hW), (1, .int a0.1), (2, .int a0.2), (3, .int (nI (i0 + 1)))] := lv_sub hl [1, 2, 3, 0] rfl
            have hP := hP.sub (ws' := [(hW, .inr (10, [.int (nI R), .int (nI C), .int (nI K), .int fi, .int di, .int br, .int li]))]) [0] rfl
            have hD := hD.sub (ws' := [(hW, .inr (10, [.int (nI R), .int (nI C), .int (nI K), .int fi, .int di, .int br, .int li]))]) [0] (by decide) rfl
            exact ih0 (i0 + 1) (by omega) (S_X3_diodeToAdd_6 R C fi di li i0 a0) H locs ls (by (try rw [hE]); exact hP) (by (try rw [hE]); exact hD) hS (by (try rw [hE]); exact hl) kon
          · refine lv_aload_n hx hb dX3_diodeToAdd_32 rfl (lv_at hl 0 rfl) ?_
            refine lv_iload_n hx hb dX3_diodeToAdd_33 rfl (lv_at hl 3 rfl) ?_
            have hPc := hP.sub (ws' := [(hW, .inr (10, [.int (nI R), .int (nI C), .int (nI K), .int fi, .int di, .int br, .int li]))]) [0] rfl
            have hDc := hD.sub (ws' := [(hW, .inr (10, [.int (nI R), .int (nI C), .int (nI K), .int fi, .int di, .int br, .int li]))]) [0] (by decide) rfl
            have hFc := va_free (wc := [(hW, .inr (10, [.int (nI R), .int (nI C), .int (nI K), .int fi, .int di, .int br, .int li]))]) hD (va_S_up hS hA) hA [0] rfl
            refine va_calli (va_runV (As := [.int (nI i0)]) (rest := []) ⟨hx, hb, hml, hown, hts⟩ (c_X3_setsBackBy l D hW R C K fi di br li (nI i0) H.size (show R ≤ 5 from hR)) (cwV 1 hts (gi_V q_714 q_716 q_8 q_81 q_717) rfl rfl rfl (by decide +kernel) ⟨Nat.le_of_ble_eq_true rfl, Nat.le_of_ble_eq_true rfl⟩) ⟨cPre_blind, va_recv hK hP (ci := 10) (q0 := 0) rfl rfl, cPre_mk hPc hK hDc hN (lwZ_for hZ (va_S_up hS hA) hFc)⟩ rfl rfl hl.1 rfl (lv_room (Nat.le_of_ble_eq_true rfl)) dX3_diodeToAdd_34 ⟨(Nat.le_of_ble_eq_true rfl), (Nat.le_of_ble_eq_true rfl)⟩) hS (fun q h1 h2 => absurd h2 (Nat.not_le.mpr h1)) (fun q h => Nat.le_trans hS.1 h) (fun r_34 u t H1 locs ht hvm hw hBk hz1 hk1 hS => ?_)
            have hP := va_P_ro hP hk1
            subst hw
            clear hBk hvm ht u hz1 hk1
            clear hPc hDc hFc; clear t
            generalize H1 = H at hP hS ⊢
            refine lv_istore (lv' := [(4, .int (F_X3_setsBackBy R C li (nI i0))), (0, .ref hW), (1, .int a0.1), (2, .int a0.2), (3, .int (nI i0))]) hx hb dX3_diodeToAdd_37 hl (by decide) rfl (fun ls hl => ?_)
            refine lv_iload hx hb dX3_diodeToAdd_39 (lv_at hl 0 rfl) ?_
            refine lv_iload_n hx hb dX3_diodeToAdd_41 rfl (lv_at hl 3 rfl) ?_
            refine lv_icmp_le (tgt := 50) hx hb dX3_diodeToAdd_42 (by decide) (fun c_5 => ?_) (fun c_5 => ?_)
            · refine lv_iinc (v := nI (i0 + 1)) (lv' := [(3, .int (nI (i0 + 1))), (4, .int (F_X3_setsBackBy R C li (nI i0))), (0, .ref hW), (1, .int a0.1), (2, .int a0.2)]) hx hb dX3_diodeToAdd_50 hl (k := 4) rfl (nI_1 _) (by decide) rfl (fun ls hl => ?_)
              refine lv_goto (tgt := 6) hx hb dX3_diodeToAdd_53 (by decide) ?_
              have hE : S_X3_diodeToAdd_6 R C fi di li i0 a0 = (a0.1, a0.2) := (by unfold S_X3_diodeToAdd_6; rw [if_neg c_4, if_pos c_5])
              have hl : lv_has ls 5 [(0, .ref hW), (1, .int a0.1), (2, .int a0.2), (3, .int (nI (i0 + 1)))] := lv_sub hl [2, 3, 4, 0] rfl
              have hP := hP.sub (ws' := [(hW, .inr (10, [.int (nI R), .int (nI C), .int (nI K), .int fi, .int di, .int br, .int li]))]) [0] rfl
              have hD := hD.sub (ws' := [(hW, .inr (10, [.int (nI R), .int (nI C), .int (nI K), .int fi, .int di, .int br, .int li]))]) [0] (by decide) rfl
              exact ih0 (i0 + 1) (by omega) (S_X3_diodeToAdd_6 R C fi di li i0 a0) H locs ls (by (try rw [hE]); exact hP) (by (try rw [hE]); exact hD) hS (by (try rw [hE]); exact hl) kon
            · refine lv_iload hx hb dX3_diodeToAdd_45 (lv_at hl 0 rfl) ?_
              refine lv_istore_n (lv' := [(2, .int (F_X3_setsBackBy R C li (nI i0))), (4, .int (F_X3_setsBackBy R C li (nI i0))), (0, .ref hW), (1, .int a0.1), (3, .int (nI i0))]) hx hb dX3_diodeToAdd_47 rfl hl (by decide) rfl (fun ls hl => ?_)
              refine lv_iload_n hx hb dX3_diodeToAdd_48 rfl (lv_at hl 4 rfl) ?_
              refine lv_istore_n (lv' := [(1, .int (nI i0)), (2, .int (F_X3_setsBackBy R C li (nI i0))), (4, .int (F_X3_setsBackBy R C li (nI i0))), (0, .ref hW), (3, .int (nI i0))]) hx hb dX3_diodeToAdd_49 rfl hl (by decide) rfl (fun ls hl => ?_)
              refine lv_iinc (v := nI (i0 + 1)) (lv' := [(3, .int (nI (i0 + 1))), (1, .int (nI i0)), (2, .int (F_X3_setsBackBy R C li (nI i0))), (4, .int (F_X3_setsBackBy R C li (nI i0))), (0, .ref hW)]) hx hb dX3_diodeToAdd_50 hl (k := 4) rfl (nI_1 _) (by decide) rfl (fun ls hl => ?_)
              refine lv_goto (tgt := 6) hx hb dX3_diodeToAdd_53 (by decide) ?_
              have hE : S_X3_diodeToAdd_6 R C fi di li i0 a0 = (nI i0, F_X3_setsBackBy R C li (nI i0)) := (by unfold S_X3_diodeToAdd_6; rw [if_neg c_4, if_neg c_5])
              have hl : lv_has ls 5 [(0, .ref hW), (1, .int (nI i0)), (2, .int (F_X3_setsBackBy R C li (nI i0))), (3, .int (nI (i0 + 1)))] := lv_sub hl [4, 1, 2, 0] rfl
              have hP := hP.sub (ws' := [(hW, .inr (10, [.int (nI R), .int (nI C), .int (nI K), .int fi, .int di, .int br, .int li]))]) [0] rfl
              have hD := hD.sub (ws' := [(hW, .inr (10, [.int (nI R), .int (nI C), .int (nI K), .int fi, .int di, .int br, .int li]))]) [0] (by decide) rfl
              exact ih0 (i0 + 1) (by omega) (S_X3_diodeToAdd_6 R C fi di li i0 a0) H locs ls (by (try rw [hE]); exact hP) (by (try rw [hE]); exact hD) hS (by (try rw [hE]); exact hl) kon
    have hl : lv_has ls 5 [(0, .ref hW), (1, .int (-1)), (2, .int (-1)), (3, .int (nI 0))] := lv_sub hl [3, 2, 1, 0] rfl
    refine lp_6 K 0 (by omega) ((-1), (-1)) H locs ls hP hD hS hl ?_
    clear lp_6 hP hD hS hl
    intro H locs ls hP hD hS hl
    refine lv_iload_n hx hb dX3_diodeToAdd_56 rfl (lv_at hl 1 rfl) ?_
    subst hQe
    exact W.iret (v := (itr (fun i a => S_X3_diodeToAdd_6 R C fi di li i a) K 0 ((-1), (-1))).1) hx hb hr (fun t ht hW => ⟨⟨(itr (fun i a => S_X3_diodeToAdd_6 R C fi di li i a) K 0 ((-1), (-1))).1, (), rfl, (by rfl), trivial⟩, hS.F ht⟩) hS.2.2 dX3_diodeToAdd_57
  rw [hHe, hLe] at hgoal
  exact hgoal

def L_X3_keysAloneAreSound_2 (R : Nat) (C : Nat) (fi : Int32) (di : Int32) (li : Int32) : Nat → Nat → (Unit) → Int32
  | 0, i0, a0 => 1
  | n0 + 1, i0, a0 => (if (F_X3_seenIf R C fi di li ((1 : Int32) <<< ((nI i0) &&& 31))) = ((1 : Int32) <<< ((nI i0) &&& 31)) then (if (F_X4_holds fi (nI i0)) = 0 then L_X3_keysAloneAreSound_2 R C fi di li n0 (i0 + 1) () else (if (F_X3_isExact R C fi di li ((1 : Int32) <<< ((nI i0) &&& 31))) = 0 then 0 else (if (F_X4_holds li (nI i0)) = 0 then L_X3_keysAloneAreSound_2 R C fi di li n0 (i0 + 1) () else L_X3_keysAloneAreSound_2 R C fi di li n0 (i0 + 1) ()))) else (if (F_X4_holds fi (nI i0)) = 0 then L_X3_keysAloneAreSound_2 R C fi di li n0 (i0 + 1) () else (if (F_X3_isExact R C fi di li ((1 : Int32) <<< ((nI i0) &&& 31))) = 0 then 0 else (if (F_X4_holds li (nI i0)) = 0 then L_X3_keysAloneAreSound_2 R C fi di li n0 (i0 + 1) () else 0))))
def F_X3_keysAloneAreSound (R : Nat) (C : Nat) (K : Nat) (fi : Int32) (di : Int32) (li : Int32) : Int32 := L_X3_keysAloneAreSound_2 R C fi di li K 0 ()
set_option maxHeartbeats 4000000 in
set_option maxRecDepth 100000 in
theorem c_X3_keysAloneAreSound (l : Launch) (D : va_G) (hW : Nat) (R : Nat) (C : Nat) (K : Nat) (fi : Int32) (di : Int32) (br : Int32) (li : Int32) (sz : Nat) (hR : R ≤ 5) (hKb : K ≤ 25) : Met l yX3_keysAloneAreSound (Cond.code yX3_keysAloneAreSound cX3_keysAloneAreSound 4 (some .boolean) :: lwAll) ({ frames := 4, cells := 0, slots := 0, locals := 97 } : Room) (va_Pc [.ref hW] (cPre D (lwTY D) [(hW, .inr (10, [.int (nI R), .int (nI C), .int (nI K), .int fi, .int di, .int br, .int li]))] sz)) (va_Qi (fun (r : Int32) (_ : Unit) => r = (F_X3_keysAloneAreSound R C K fi di li) ∧ (r = 0 ∨ r = 1)) (fun _ _ => True) (fun q : Nat => sz ≤ q)) 0 0 (fun q : Nat => sz ≤ q) := by
  refine Met.ofW (cc := cX3_keysAloneAreSound) (maxL := 4) (ret := (some .boolean)) (by decide) rfl ?_
  intro p e s m args below meth c s₁ B hml hv
  obtain ⟨rfl, hsz, hP, hK, hD0, hN, hZ⟩ := hv
  have hx := B.exec
  have hb := B.bytes
  have hr := B.returns
  have hts : ∀ wd ∈ lwAll, wd.before ([.ref hW] : List Value).toArray s = true := fun wd h => atoms_spec (ws := (Cond.code yX3_keysAloneAreSound cX3_keysAloneAreSound 4 (some .boolean) :: lwAll)) B.pre wd (List.mem_cons_of_mem _ h)
  have hown : s.vm.findClass RX3 = some m.cls := findClass_of_methodNamed B.named
  have hlocks := B.notSynchronized
  subst hsz
  have hD := hD0.self (sz := s.heap.size)
  have hl := lv_entry ([.ref hW]) (n := 4) (Nat.le_of_ble_eq_true rfl)
  rw [lg_entry_eq]
  generalize (lg_sl ([.ref hW]) ++ List.replicate (4 - (lg_sl ([.ref hW])).length) Slot.unset).toArray = ls at hl ⊢
  have hl : lv_has ls 4 [(0, .ref hW)] := hl
  have hS : va_S (fun q : Nat => s.heap.size ≤ q) s.heap s.heap [] := va_S.rf
  generalize hQe : MQ below (va_Qi (fun (r : Int32) (_ : Unit) => r = (F_X3_keysAloneAreSound R C K fi di li) ∧ (r = 0 ∨ r = 1)) (fun _ _ => True) (fun q : Nat => s.heap.size ≤ q)) ([.ref hW] : List Value).toArray s 0 0 (fun q : Nat => s.heap.size ≤ q) = Q
  have hP : va_P D vwCl [(hW, .inr (10, [.int (nI R), .int (nI C), .int (nI K), .int fi, .int di, .int br, .int li]))] s.heap := hP
  obtain ⟨A, hAe⟩ : ∃ A, A = va_A [(hW, .inr (10, [.int (nI R), .int (nI C), .int (nI K), .int fi, .int di, .int br, .int li]))] s.heap.size := ⟨_, rfl⟩
  rw [← hAe] at hD hZ
  have hA : ∀ q : Nat, s.heap.size ≤ q → A q := fun q h => by rw [hAe]; exact Or.inr h
  obtain ⟨H, hHe⟩ : ∃ H, H = s.heap := ⟨_, rfl⟩
  obtain ⟨locs, hLe⟩ : ∃ L : List Loc, L = [] := ⟨_, rfl⟩
  have hP : va_P D vwCl [(hW, .inr (10, [.int (nI R), .int (nI C), .int (nI K), .int fi, .int di, .int br, .int li]))] H := by rw [hHe]; exact hP
  have hS : va_S (fun q : Nat => s.heap.size ≤ q) s.heap H locs := by rw [hHe, hLe]; exact hS
  have hgoal : W p l e ({ frames := 4, cells := 0, slots := 0, locals := 97 } : Room) s m ([.ref hW] : List Value).toArray below meth c H locs 0 0 Q (F0 m 0 ls []) := by
    clear hHe hLe
    refine lv_iconst (v := 0) hx hb dX3_keysAloneAreSound_0 (by decide) ?_
    refine lv_istore_n (lv' := [(1, .int 0), (0, .ref hW)]) hx hb dX3_keysAloneAreSound_1 rfl hl (by decide) rfl (fun ls hl => ?_)
    have lp_2 : ∀ (n0 i0 : Nat), i0 + n0 = K → ∀ (a0 : Unit) (H : Heap) (locs : List Loc) (ls : Array Slot), va_P D vwCl [(hW, .inr (10, [.int (nI R), .int (nI C), .int (nI K), .int fi, .int di, .int br, .int li]))] H → va_D A [(hW, .inr (10, [.int (nI R), .int (nI C), .int (nI K), .int fi, .int di, .int br, .int li]))] → va_S (fun q : Nat => s.heap.size ≤ q) s.heap H locs → lv_has ls 4 [(0, .ref hW), (1, .int (nI i0))] → (F_X3_keysAloneAreSound R C K fi di li) = L_X3_keysAloneAreSound_2 R C fi di li n0 i0 a0 → W p l e ({ frames := 4, cells := 0, slots := 0, locals := 97 } : Room) s m ([.ref hW] : List Value).toArray below meth c H locs 0 0 Q (F0 m 2 ls []) := by
      intro n0
      induction n0 with
      | zero =>
        intro i0 hi0 a0 H locs ls hP hD hS hl hE0
        have he0 : i0 = K := by omega
        refine lv_iload_n hx hb dX3_keysAloneAreSound_2 rfl (lv_at hl 1 rfl) ?_
        refine lv_aload_n hx hb dX3_keysAloneAreSound_3 rfl (lv_at hl 0 rfl) ?_
        refine va_get (D := D) (ci := 10) (v := .int (nI K)) (C := RX3) (T := TX3) (N := 7) hx hb hts in_X3 hown hK hP 0 rfl rfl 2 (by decide) (hts _ q_132) (fun _ h9 => h9) rfl dX3_keysAloneAreSound_4 ?_
        refine lv_icmp_ge (tgt := 71) hx hb dX3_keysAloneAreSound_7 (by decide) (fun c_1 => ?_) (fun c_1 => ?_)
        · refine lv_iconst (v := 1) hx hb dX3_keysAloneAreSound_71 (by decide) ?_
          subst hQe
          exact W.zret (ty := .boolean) (v := 1) hx hb hr (zb_narrow zb_1) (fun t ht hW => ⟨⟨1, (), rfl, ⟨(by rw [hE0, L_X3_keysAloneAreSound_2]), zb_1⟩, trivial⟩, hS.F ht⟩) hS.2.2 dX3_keysAloneAreSound_72
        · exact absurd (nI_le (a := K) (b := i0) (by omega) (by omega)) c_1
      | succ n0 ih0 =>
        intro i0 hi0 a0 H locs ls hP hD hS hl hE0
        refine lv_iload_n hx hb dX3_keysAloneAreSound_2 rfl (lv_at hl 1 rfl) ?_
        refine lv_aload_n hx hb dX3_keysAloneAreSound_3 rfl (lv_at hl 0 rfl) ?_
        refine va_get (D := D) (ci := 10) (v := .int (nI K)) (C := RX3) (T := TX3) (N := 7) hx hb hts in_X3 hown hK hP 0 rfl rfl 2 (by decide) (hts _ q_132) (fun _ h9 => h9) rfl dX3_keysAloneAreSound_4 ?_
        refine lv_icmp_ge (tgt := 71) hx hb dX3_keysAloneAreSound_7 (by decide) (fun c_2 => ?_) (fun c_2 => ?_)
        · exact absurd c_2 (nI_ge (a := i0) (b := K) (by omega) (by omega))
        · refine lv_iconst (v := 1) hx hb dX3_keysAloneAreSound_10 (by decide) ?_
          refine lv_iload_n hx hb dX3_keysAloneAreSound_11 rfl (lv_at hl 1 rfl) ?_
          refine lv_ishl hx hb dX3_keysAloneAreSound_12 ?_
          refine lv_istore_n (lv' := [(2, .int ((1 : Int32) <<< ((nI i0) &&& 31))), (0, .ref hW), (1, .int (nI i0))]) hx hb dX3_keysAloneAreSound_13 rfl hl (by decide) rfl (fun ls hl => ?_)
          refine lv_aload_n hx hb dX3_keysAloneAreSound_14 rfl (lv_at hl 1 rfl) ?_
          refine lv_iload_n hx hb dX3_keysAloneAreSound_15 rfl (lv_at hl 0 rfl) ?_
          have hPc := hP.sub (ws' := [(hW, .inr (10, [.int (nI R), .int (nI C), .int (nI K), .int fi, .int di, .int br, .int li]))]) [0] rfl
          have hDc := hD.sub (ws' := [(hW, .inr (10, [.int (nI R), .int (nI C), .int (nI K), .int fi, .int di, .int br, .int li]))]) [0] (by decide) rfl
          have hFc := va_free (wc := [(hW, .inr (10, [.int (nI R), .int (nI C), .int (nI K), .int fi, .int di, .int br, .int li]))]) hD (va_S_up hS hA) hA [0] rfl
          refine va_calli (va_runV (As := [.int ((1 : Int32) <<< ((nI i0) &&& 31))]) (rest := []) ⟨hx, hb, hml, hown, hts⟩ (c_X3_seenIf l D hW R C K fi di br li ((1 : Int32) <<< ((nI i0) &&& 31)) H.size (show R ≤ 5 from hR)) (cwV 1 hts (gi_V q_741 q_743 q_12 q_81 q_744) rfl rfl rfl (by decide +kernel) ⟨Nat.le_of_ble_eq_true rfl, Nat.le_of_ble_eq_true rfl⟩) ⟨cPre_blind, va_recv hK hP (ci := 10) (q0 := 0) rfl rfl, cPre_mk hPc hK hDc hN (lwZ_for hZ (va_S_up hS hA) hFc)⟩ rfl rfl hl.1 rfl (lv_room (Nat.le_of_ble_eq_true rfl)) dX3_keysAloneAreSound_16 ⟨(Nat.le_of_ble_eq_true rfl), (Nat.le_of_ble_eq_true rfl)⟩) hS (fun q h1 h2 => absurd h2 (Nat.not_le.mpr h1)) (fun q h => Nat.le_trans hS.1 h) (fun r_16 u t H1 locs ht hvm hw hBk hz1 hk1 hS => ?_)
          have hP := va_P_ro hP hk1
          subst hw
          clear hBk hvm ht u hz1 hk1
          clear hPc hDc hFc; clear t
          generalize H1 = H at hP hS ⊢
          refine lv_iload_n hx hb dX3_keysAloneAreSound_19 rfl (lv_at hl 0 rfl) ?_
          refine lv_icmp_ne (tgt := 27) hx hb dX3_keysAloneAreSound_20 (by decide) (fun c_3 => ?_) (fun c_3 => ?_)
          · refine lv_iconst (v := 0) hx hb dX3_keysAloneAreSound_27 (by decide) ?_
            refine lv_istore_n (lv' := [(3, .int 0), (2, .int ((1 : Int32) <<< ((nI i0) &&& 31))), (0, .ref hW), (1, .int (nI i0))]) hx hb dX3_keysAloneAreSound_28 rfl hl (by decide) rfl (fun ls hl => ?_)
            refine lv_aload_n hx hb dX3_keysAloneAreSound_29 rfl (lv_at hl 2 rfl) ?_
            refine va_get (D := D) (ci := 10) (v := .int fi) (C := RX3) (T := TX3) (N := 7) hx hb hts in_X3 hown hK hP 0 rfl rfl 3 (by decide) (hts _ q_134) (fun _ h9 => h9) rfl dX3_keysAloneAreSound_30 ?_
            refine lv_iload_n hx hb dX3_keysAloneAreSound_33 rfl (lv_at hl 3 rfl) ?_
            have hPc := hP.sub (ws' := []) [] rfl
            have hDc := hD.sub (ws' := []) [] (by decide) rfl
            have hFc := va_free (wc := []) hD (va_S_up hS hA) hA [] rfl
            refine va_calli (va_runSN (As := [.int fi, .int (nI i0)]) (rest := []) ⟨hx, hb, hml, hown, hts⟩ (c_X4_holds l D fi (nI i0) H.size ) ⟨va_cnB 2 hts (gi_sub q_713) rfl rfl rfl (hN.1 _ n_711) (hts _ q_80) (by decide +kernel) ⟨Nat.le_of_ble_eq_true rfl, Nat.le_of_ble_eq_true rfl⟩, (hts _ q_712), trivial⟩ ⟨cPre_blind, cPre_mk hPc hK hDc hN (lwZ_for hZ (va_S_up hS hA) hFc)⟩ rfl rfl hl.1 rfl (lv_room (Nat.le_of_ble_eq_true rfl)) dX3_keysAloneAreSound_34 ⟨(Nat.le_of_ble_eq_true rfl), (Nat.le_of_ble_eq_true rfl)⟩) hS (fun q h1 h2 => absurd h2 (Nat.not_le.mpr h1)) (fun q h => Nat.le_trans hS.1 h) (fun r_34 u t H1 locs ht hvm hw hBk hz1 hk1 hS => ?_)
            have hP := va_P_ro hP hk1
            obtain ⟨hw, z_4⟩ := hw
            rw [hw] at z_4
            subst hw
            clear hBk hvm ht u hz1 hk1
            clear hPc hDc hFc; clear t
            generalize H1 = H at hP hS ⊢
            refine lv_if_eq (tgt := 65) hx hb dX3_keysAloneAreSound_37 (by decide) (fun c_5 => ?_) (fun c_5 => ?_)
            · refine lv_iinc (v := nI (i0 + 1)) (lv' := [(1, .int (nI (i0 + 1))), (3, .int 0), (2, .int ((1 : Int32) <<< ((nI i0) &&& 31))), (0, .ref hW)]) hx hb dX3_keysAloneAreSound_65 hl (k := 3) rfl (nI_1 _) (by decide) rfl (fun ls hl => ?_)
              refine lv_goto (tgt := 2) hx hb dX3_keysAloneAreSound_68 (by decide) ?_
              have hl : lv_has ls 4 [(0, .ref hW), (1, .int (nI (i0 + 1)))] := lv_sub hl [3, 0] rfl
              have hP := hP.sub (ws' := [(hW, .inr (10, [.int (nI R), .int (nI C), .int (nI K), .int fi, .int di, .int br, .int li]))]) [0] rfl
              have hD := hD.sub (ws' := [(hW, .inr (10, [.int (nI R), .int (nI C), .int (nI K), .int fi, .int di, .int br, .int li]))]) [0] (by decide) rfl
              exact ih0 (i0 + 1) (by omega) () H locs ls hP hD hS hl (by rw [hE0, L_X3_keysAloneAreSound_2, if_neg c_3, if_pos c_5])
            · refine lv_aload_n hx hb dX3_keysAloneAreSound_40 rfl (lv_at hl 2 rfl) ?_
              refine lv_iload_n hx hb dX3_keysAloneAreSound_41 rfl (lv_at hl 1 rfl) ?_
              have hPc := hP.sub (ws' := [(hW, .inr (10, [.int (nI R), .int (nI C), .int (nI K), .int fi, .int di, .int br, .int li]))]) [0] rfl
              have hDc := hD.sub (ws' := [(hW, .inr (10, [.int (nI R), .int (nI C), .int (nI K), .int fi, .int di, .int br, .int li]))]) [0] (by decide) rfl
              have hFc := va_free (wc := [(hW, .inr (10, [.int (nI R), .int (nI C), .int (nI K), .int fi, .int di, .int br, .int li]))]) hD (va_S_up hS hA) hA [0] rfl
              refine va_calli (va_runV (As := [.int ((1 : Int32) <<< ((nI i0) &&& 31))]) (rest := []) ⟨hx, hb, hml, hown, hts⟩ (c_X3_isExact l D hW R C K fi di br li ((1 : Int32) <<< ((nI i0) &&& 31)) H.size (show R ≤ 5 from hR)) (cwV 1 hts (gi_V q_749 q_751 q_14 q_81 q_752) rfl rfl rfl (by decide +kernel) ⟨Nat.le_of_ble_eq_true rfl, Nat.le_of_ble_eq_true rfl⟩) ⟨cPre_blind, va_recv hK hP (ci := 10) (q0 := 0) rfl rfl, cPre_mk hPc hK hDc hN (lwZ_for hZ (va_S_up hS hA) hFc)⟩ rfl rfl hl.1 rfl (lv_room (Nat.le_of_ble_eq_true rfl)) dX3_keysAloneAreSound_42 ⟨(Nat.le_of_ble_eq_true rfl), (Nat.le_of_ble_eq_true rfl)⟩) hS (fun q h1 h2 => absurd h2 (Nat.not_le.mpr h1)) (fun q h => Nat.le_trans hS.1 h) (fun r_42 u t H1 locs ht hvm hw hBk hz1 hk1 hS => ?_)
              have hP := va_P_ro hP hk1
              obtain ⟨hw, z_6⟩ := hw
              rw [hw] at z_6
              subst hw
              clear hBk hvm ht u hz1 hk1
              clear hPc hDc hFc; clear t
              generalize H1 = H at hP hS ⊢
              refine lv_if_eq (tgt := 63) hx hb dX3_keysAloneAreSound_45 (by decide) (fun c_7 => ?_) (fun c_7 => ?_)
              · refine lv_iconst (v := 0) hx hb dX3_keysAloneAreSound_63 (by decide) ?_
                subst hQe
                exact W.zret (ty := .boolean) (v := 0) hx hb hr (zb_narrow zb_0) (fun t ht hW => ⟨⟨0, (), rfl, ⟨(by rw [hE0, L_X3_keysAloneAreSound_2, if_neg c_3, if_neg c_5, if_pos c_7]), zb_0⟩, trivial⟩, hS.F ht⟩) hS.2.2 dX3_keysAloneAreSound_64
              · refine lv_aload_n hx hb dX3_keysAloneAreSound_48 rfl (lv_at hl 2 rfl) ?_
                refine va_get (D := D) (ci := 10) (v := .int li) (C := RX3) (T := TX3) (N := 7) hx hb hts in_X3 hown hK hP 0 rfl rfl 6 (by decide) (hts _ q_140) (fun _ h9 => h9) rfl dX3_keysAloneAreSound_49 ?_
                refine lv_iload_n hx hb dX3_keysAloneAreSound_52 rfl (lv_at hl 3 rfl) ?_
                have hPc := hP.sub (ws' := []) [] rfl
                have hDc := hD.sub (ws' := []) [] (by decide) rfl
                have hFc := va_free (wc := []) hD (va_S_up hS hA) hA [] rfl
                refine va_calli (va_runSN (As := [.int li, .int (nI i0)]) (rest := []) ⟨hx, hb, hml, hown, hts⟩ (c_X4_holds l D li (nI i0) H.size ) ⟨va_cnB 2 hts (gi_sub q_713) rfl rfl rfl (hN.1 _ n_711) (hts _ q_80) (by decide +kernel) ⟨Nat.le_of_ble_eq_true rfl, Nat.le_of_ble_eq_true rfl⟩, (hts _ q_712), trivial⟩ ⟨cPre_blind, cPre_mk hPc hK hDc hN (lwZ_for hZ (va_S_up hS hA) hFc)⟩ rfl rfl hl.1 rfl (lv_room (Nat.le_of_ble_eq_true rfl)) dX3_keysAloneAreSound_53 ⟨(Nat.le_of_ble_eq_true rfl), (Nat.le_of_ble_eq_true rfl)⟩) hS (fun q h1 h2 => absurd h2 (Nat.not_le.mpr h1)) (fun q h => Nat.le_trans hS.1 h) (fun r_53 u t H1 locs ht hvm hw hBk hz1 hk1 hS => ?_)
                have hP := va_P_ro hP hk1
                obtain ⟨hw, z_8⟩ := hw
                rw [hw] at z_8
                subst hw
                clear hBk hvm ht u hz1 hk1
                clear hPc hDc hFc; clear t
                generalize H1 = H at hP hS ⊢
                refine lv_if_eq (tgt := 65) hx hb dX3_keysAloneAreSound_56 (by decide) (fun c_9 => ?_) (fun c_9 => ?_)
                · refine lv_iinc (v := nI (i0 + 1)) (lv' := [(1, .int (nI (i0 + 1))), (3, .int 0), (2, .int ((1 : Int32) <<< ((nI i0) &&& 31))), (0, .ref hW)]) hx hb dX3_keysAloneAreSound_65 hl (k := 3) rfl (nI_1 _) (by decide) rfl (fun ls hl => ?_)
                  refine lv_goto (tgt := 2) hx hb dX3_keysAloneAreSound_68 (by decide) ?_
                  have hl : lv_has ls 4 [(0, .ref hW), (1, .int (nI (i0 + 1)))] := lv_sub hl [3, 0] rfl
                  have hP := hP.sub (ws' := [(hW, .inr (10, [.int (nI R), .int (nI C), .int (nI K), .int fi, .int di, .int br, .int li]))]) [0] rfl
                  have hD := hD.sub (ws' := [(hW, .inr (10, [.int (nI R), .int (nI C), .int (nI K), .int fi, .int di, .int br, .int li]))]) [0] (by decide) rfl
                  exact ih0 (i0 + 1) (by omega) () H locs ls hP hD hS hl (by rw [hE0, L_X3_keysAloneAreSound_2, if_neg c_3, if_neg c_5, if_neg c_7, if_pos c_9])
                · refine lv_iload_n hx hb dX3_keysAloneAreSound_59 rfl (lv_at hl 0 rfl) ?_
                  refine lv_if_ne (tgt := 65) hx hb dX3_keysAloneAreSound_60 (by decide) (fun c_10 => ?_) (fun c_10 => ?_)
                  · exact absurd (by decide) c_10
                  · refine lv_iconst (v := 0) hx hb dX3_keysAloneAreSound_63 (by decide) ?_
                    subst hQe
                    exact W.zret (ty := .boolean) (v := 0) hx hb hr (zb_narrow zb_0) (fun t ht hW => ⟨⟨0, (), rfl, ⟨(by rw [hE0, L_X3_keysAloneAreSound_2, if_neg c_3, if_neg c_5, if_neg c_7, if_neg c_9]), zb_0⟩, trivial⟩, hS.F ht⟩) hS.2.2 dX3_keysAloneAreSound_64
          · refine lv_iconst (v := 1) hx hb dX3_keysAloneAreSound_23 (by decide) ?_
            refine lv_goto (tgt := 28) hx hb dX3_keysAloneAreSound_24 (by decide) ?_
            refine lv_istore_n (lv' := [(3, .int 1), (2, .int ((1 : Int32) <<< ((nI i0) &&& 31))), (0, .ref hW), (1, .int (nI i0))]) hx hb dX3_keysAloneAreSound_28 rfl hl (by decide) rfl (fun ls hl => ?_)
            refine lv_aload_n hx hb dX3_keysAloneAreSound_29 rfl (lv_at hl 2 rfl) ?_
            refine va_get (D := D) (ci := 10) (v := .int fi) (C := RX3) (T := TX3) (N := 7) hx hb hts in_X3 hown hK hP 0 rfl rfl 3 (by decide) (hts _ q_134) (fun _ h9 => h9) rfl dX3_keysAloneAreSound_30 ?_
            refine lv_iload_n hx hb dX3_keysAloneAreSound_33 rfl (lv_at hl 3 rfl) ?_
            have hPc := hP.sub (ws' := []) [] rfl
            have hDc := hD.sub (ws' := []) [] (by decide) rfl
            have hFc := va_free (wc := []) hD (va_S_up hS hA) hA [] rfl
            refine va_calli (va_runSN (As := [.int fi, .int (nI i0)]) (rest := []) ⟨hx, hb, hml, hown, hts⟩ (c_X4_holds l D fi (nI i0) H.size ) ⟨va_cnB 2 hts (gi_sub q_713) rfl rfl rfl (hN.1 _ n_711) (hts _ q_80) (by decide +kernel) ⟨Nat.le_of_ble_eq_true rfl, Nat.le_of_ble_eq_true rfl⟩, (hts _ q_712), trivial⟩ ⟨cPre_blind, cPre_mk hPc hK hDc hN (lwZ_for hZ (va_S_up hS hA) hFc)⟩ rfl rfl hl.1 rfl (lv_room (Nat.le_of_ble_eq_true rfl)) dX3_keysAloneAreSound_34 ⟨(Nat.le_of_ble_eq_true rfl), (Nat.le_of_ble_eq_true rfl)⟩) hS (fun q h1 h2 => absurd h2 (Nat.not_le.mpr h1)) (fun q h => Nat.le_trans hS.1 h) (fun r_34 u t H1 locs ht hvm hw hBk hz1 hk1 hS => ?_)
            have hP := va_P_ro hP hk1
            obtain ⟨hw, z_11⟩ := hw
            rw [hw] at z_11
            subst hw
            clear hBk hvm ht u hz1 hk1
            clear hPc hDc hFc; clear t
            generalize H1 = H at hP hS ⊢
            refine lv_if_eq (tgt := 65) hx hb dX3_keysAloneAreSound_37 (by decide) (fun c_12 => ?_) (fun c_12 => ?_)
            · refine lv_iinc (v := nI (i0 + 1)) (lv' := [(1, .int (nI (i0 + 1))), (3, .int 1), (2, .int ((1 : Int32) <<< ((nI i0) &&& 31))), (0, .ref hW)]) hx hb dX3_keysAloneAreSound_65 hl (k := 3) rfl (nI_1 _) (by decide) rfl (fun ls hl => ?_)
              refine lv_goto (tgt := 2) hx hb dX3_keysAloneAreSound_68 (by decide) ?_
              have hl : lv_has ls 4 [(0, .ref hW), (1, .int (nI (i0 + 1)))] := lv_sub hl [3, 0] rfl
              have hP := hP.sub (ws' := [(hW, .inr (10, [.int (nI R), .int (nI C), .int (nI K), .int fi, .int di, .int br, .int li]))]) [0] rfl
              have hD := hD.sub (ws' := [(hW, .inr (10, [.int (nI R), .int (nI C), .int (nI K), .int fi, .int di, .int br, .int li]))]) [0] (by decide) rfl
              exact ih0 (i0 + 1) (by omega) () H locs ls hP hD hS hl (by rw [hE0, L_X3_keysAloneAreSound_2, if_pos c_3, if_pos c_12])
            · refine lv_aload_n hx hb dX3_keysAloneAreSound_40 rfl (lv_at hl 2 rfl) ?_
              refine lv_iload_n hx hb dX3_keysAloneAreSound_41 rfl (lv_at hl 1 rfl) ?_
              have hPc := hP.sub (ws' := [(hW, .inr (10, [.int (nI R), .int (nI C), .int (nI K), .int fi, .int di, .int br, .int li]))]) [0] rfl
              have hDc := hD.sub (ws' := [(hW, .inr (10, [.int (nI R), .int (nI C), .int (nI K), .int fi, .int di, .int br, .int li]))]) [0] (by decide) rfl
              have hFc := va_free (wc := [(hW, .inr (10, [.int (nI R), .int (nI C), .int (nI K), .int fi, .int di, .int br, .int li]))]) hD (va_S_up hS hA) hA [0] rfl
              refine va_calli (va_runV (As := [.int ((1 : Int32) <<< ((nI i0) &&& 31))]) (rest := []) ⟨hx, hb, hml, hown, hts⟩ (c_X3_isExact l D hW R C K fi di br li ((1 : Int32) <<< ((nI i0) &&& 31)) H.size (show R ≤ 5 from hR)) (cwV 1 hts (gi_V q_749 q_751 q_14 q_81 q_752) rfl rfl rfl (by decide +kernel) ⟨Nat.le_of_ble_eq_true rfl, Nat.le_of_ble_eq_true rfl⟩) ⟨cPre_blind, va_recv hK hP (ci := 10) (q0 := 0) rfl rfl, cPre_mk hPc hK hDc hN (lwZ_for hZ (va_S_up hS hA) hFc)⟩ rfl rfl hl.1 rfl (lv_room (Nat.le_of_ble_eq_true rfl)) dX3_keysAloneAreSound_42 ⟨(Nat.le_of_ble_eq_true rfl), (Nat.le_of_ble_eq_true rfl)⟩) hS (fun q h1 h2 => absurd h2 (Nat.not_le.mpr h1)) (fun q h => Nat.le_trans hS.1 h) (fun r_42 u t H1 locs ht hvm hw hBk hz1 hk1 hS => ?_)
              have hP := va_P_ro hP hk1
              obtain ⟨hw, z_13⟩ := hw
              rw [hw] at z_13
              subst hw
              clear hBk hvm ht u hz1 hk1
              clear hPc hDc hFc; clear t
              generalize H1 = H at hP hS ⊢
              refine lv_if_eq (tgt := 63) hx hb dX3_keysAloneAreSound_45 (by decide) (fun c_14 => ?_) (fun c_14 => ?_)
              · refine lv_iconst (v := 0) hx hb dX3_keysAloneAreSound_63 (by decide) ?_
                subst hQe
                exact W.zret (ty := .boolean) (v := 0) hx hb hr (zb_narrow zb_0) (fun t ht hW => ⟨⟨0, (), rfl, ⟨(by rw [hE0, L_X3_keysAloneAreSound_2, if_pos c_3, if_neg c_12, if_pos c_14]), zb_0⟩, trivial⟩, hS.F ht⟩) hS.2.2 dX3_keysAloneAreSound_64
              · refine lv_aload_n hx hb dX3_keysAloneAreSound_48 rfl (lv_at hl 2 rfl) ?_
                refine va_get (D := D) (ci := 10) (v := .int li) (C := RX3) (T := TX3) (N := 7) hx hb hts in_X3 hown hK hP 0 rfl rfl 6 (by decide) (hts _ q_140) (fun _ h9 => h9) rfl dX3_keysAloneAreSound_49 ?_
                refine lv_iload_n hx hb dX3_keysAloneAreSound_52 rfl (lv_at hl 3 rfl) ?_
                have hPc := hP.sub (ws' := []) [] rfl
                have hDc := hD.sub (ws' := []) [] (by decide) rfl
                have hFc := va_free (wc := []) hD (va_S_up hS hA) hA [] rfl
                refine va_calli (va_runSN (As := [.int li, .int (nI i0)]) (rest := []) ⟨hx, hb, hml, hown, hts⟩ (c_X4_holds l D li (nI i0) H.size ) ⟨va_cnB 2 hts (gi_sub q_713) rfl rfl rfl (hN.1 _ n_711) (hts _ q_80) (by decide +kernel) ⟨Nat.le_of_ble_eq_true rfl, Nat.le_of_ble_eq_true rfl⟩, (hts _ q_712), trivial⟩ ⟨cPre_blind, cPre_mk hPc hK hDc hN (lwZ_for hZ (va_S_up hS hA) hFc)⟩ rfl rfl hl.1 rfl (lv_room (Nat.le_of_ble_eq_true rfl)) dX3_keysAloneAreSound_53 ⟨(Nat.le_of_ble_eq_true rfl), (Nat.le_of_ble_eq_true rfl)⟩) hS (fun q h1 h2 => absurd h2 (Nat.not_le.mpr h1)) (fun q h => Nat.le_trans hS.1 h) (fun r_53 u t H1 locs ht hvm hw hBk hz1 hk1 hS => ?_)
                have hP := va_P_ro hP hk1
                obtain ⟨hw, z_15⟩ := hw
                rw [hw] at z_15
                subst hw
                clear hBk hvm ht u hz1 hk1
                clear hPc hDc hFc; clear t
                generalize H1 = H at hP hS ⊢
                refine lv_if_eq (tgt := 65) hx hb dX3_keysAloneAreSound_56 (by decide) (fun c_16 => ?_) (fun c_16 => ?_)
                · refine lv_iinc (v := nI (i0 + 1)) (lv' := [(1, .int (nI (i0 + 1))), (3, .int 1), (2, .int ((1 : Int32) <<< ((nI i0) &&& 31))), (0, .ref hW)]) hx hb dX3_keysAloneAreSound_65 hl (k := 3) rfl (nI_1 _) (by decide) rfl (fun ls hl => ?_)
                  refine lv_goto (tgt := 2) hx hb dX3_keysAloneAreSound_68 (by decide) ?_
                  have hl : lv_has ls 4 [(0, .ref hW), (1, .int (nI (i0 + 1)))] := lv_sub hl [3, 0] rfl
                  have hP := hP.sub (ws' := [(hW, .inr (10, [.int (nI R), .int (nI C), .int (nI K), .int fi, .int di, .int br, .int li]))]) [0] rfl
                  have hD := hD.sub (ws' := [(hW, .inr (10, [.int (nI R), .int (nI C), .int (nI K), .int fi, .int di, .int br, .int li]))]) [0] (by decide) rfl
                  exact ih0 (i0 + 1) (by omega) () H locs ls hP hD hS hl (by rw [hE0, L_X3_keysAloneAreSound_2, if_pos c_3, if_neg c_12, if_neg c_14, if_pos c_16])
                · refine lv_iload_n hx hb dX3_keysAloneAreSound_59 rfl (lv_at hl 0 rfl) ?_
                  refine lv_if_ne (tgt := 65) hx hb dX3_keysAloneAreSound_60 (by decide) (fun c_17 => ?_) (fun c_17 => ?_)
                  · refine lv_iinc (v := nI (i0 + 1)) (lv' := [(1, .int (nI (i0 + 1))), (3, .int 1), (2, .int ((1 : Int32) <<< ((nI i0) &&& 31))), (0, .ref hW)]) hx hb dX3_keysAloneAreSound_65 hl (k := 3) rfl (nI_1 _) (by decide) rfl (fun ls hl => ?_)
                    refine lv_goto (tgt := 2) hx hb dX3_keysAloneAreSound_68 (by decide) ?_
                    have hl : lv_has ls 4 [(0, .ref hW), (1, .int (nI (i0 + 1)))] := lv_sub hl [3, 0] rfl
                    have hP := hP.sub (ws' := [(hW, .inr (10, [.int (nI R), .int (nI C), .int (nI K), .int fi, .int di, .int br, .int li]))]) [0] rfl
                    have hD := hD.sub (ws' := [(hW, .inr (10, [.int (nI R), .int (nI C), .int (nI K), .int fi, .int di, .int br, .int li]))]) [0] (by decide) rfl
                    exact ih0 (i0 + 1) (by omega) () H locs ls hP hD hS hl (by rw [hE0, L_X3_keysAloneAreSound_2, if_pos c_3, if_neg c_12, if_neg c_14, if_neg c_16])
                  · exact absurd c_17 (by decide)
    have hl : lv_has ls 4 [(0, .ref hW), (1, .int (nI 0))] := lv_sub hl [1, 0] rfl
    exact lp_2 K 0 (by omega) () H locs ls hP hD hS hl (by rfl)
  rw [hHe, hLe] at hgoal
  exact hgoal

def F_X3_leastIsSound (R : Nat) (C : Nat) (K : Nat) (fi : Int32) (di : Int32) (li : Int32) : Int32 := (if (F_X3_isClear R C K fi di li) = 0 then (if (F_X3_leastKeys R C K li di) < 3 then 0 else (if ((F_X3_leastKeys R C K li di) - (F_X3_leastKeys R C K li di) / 2 * 2) = 1 then 1 else 0)) else (if (F_X3_leastKeys R C K li di) = (-1) then (if (F_X3_isExact R C fi di li fi) = 0 then 0 else 1) else 0))
set_option maxHeartbeats 4000000 in
set_option maxRecDepth 100000 in
theorem c_X3_leastIsSound (l : Launch) (D : va_G) (hW : Nat) (R : Nat) (C : Nat) (K : Nat) (fi : Int32) (di : Int32) (br : Int32) (li : Int32) (sz : Nat) (hR : R ≤ 5) (hKb : K ≤ 25) : Met l yX3_leastIsSound (Cond.code yX3_leastIsSound cX3_leastIsSound 2 (some .boolean) :: lwAll) ({ frames := 4, cells := 0, slots := 0, locals := 102 } : Room) (va_Pc [.ref hW] (cPre D (lwTY D) [(hW, .inr (10, [.int (nI R), .int (nI C), .int (nI K), .int fi, .int di, .int br, .int li]))] sz)) (va_Qi (fun (r : Int32) (_ : Unit) => r = (F_X3_leastIsSound R C K fi di li) ∧ (r = 0 ∨ r = 1)) (fun _ _ => True) (fun q : Nat => sz ≤ q)) 0 0 (fun q : Nat => sz ≤ q) := by
  refine Met.ofW (cc := cX3_leastIsSound) (maxL := 2) (ret := (some .boolean)) (by decide) rfl ?_
  intro p e s m args below meth c s₁ B hml hv
  obtain ⟨rfl, hsz, hP, hK, hD0, hN, hZ⟩ := hv
  have hx := B.exec
  have hb := B.bytes
  have hr := B.returns
  have hts : ∀ wd ∈ lwAll, wd.before ([.ref hW] : List Value).toArray s = true := fun wd h => atoms_spec (ws := (Cond.code yX3_leastIsSound cX3_leastIsSound 2 (some .boolean) :: lwAll)) B.pre wd (List.mem_cons_of_mem _ h)
  have hown : s.vm.findClass RX3 = some m.cls := findClass_of_methodNamed B.named
  have hlocks := B.notSynchronized
  subst hsz
  have hD := hD0.self (sz := s.heap.size)
  have hl := lv_entry ([.ref hW]) (n := 2) (Nat.le_of_ble_eq_true rfl)
  rw [lg_entry_eq]
  generalize (lg_sl ([.ref hW]) ++ List.replicate (2 - (lg_sl ([.ref hW])).length) Slot.unset).toArray = ls at hl ⊢
  have hl : lv_has ls 2 [(0, .ref hW)] := hl
  have hS : va_S (fun q : Nat => s.heap.size ≤ q) s.heap s.heap [] := va_S.rf
  generalize hQe : MQ below (va_Qi (fun (r : Int32) (_ : Unit) => r = (F_X3_leastIsSound R C K fi di li) ∧ (r = 0 ∨ r = 1)) (fun _ _ => True) (fun q : Nat => s.heap.size ≤ q)) ([.ref hW] : List Value).toArray s 0 0 (fun q : Nat => s.heap.size ≤ q) = Q
  have hP : va_P D vwCl [(hW, .inr (10, [.int (nI R), .int (nI C), .int (nI K), .int fi, .int di, .int br, .int li]))] s.heap := hP
  obtain ⟨A, hAe⟩ : ∃ A, A = va_A [(hW, .inr (10, [.int (nI R), .int (nI C), .int (nI K), .int fi, .int di, .int br, .int li]))] s.heap.size := ⟨_, rfl⟩
  rw [← hAe] at hD hZ
  have hA : ∀ q : Nat, s.heap.size ≤ q → A q := fun q h => by rw [hAe]; exact Or.inr h
  obtain ⟨H, hHe⟩ : ∃ H, H = s.heap := ⟨_, rfl⟩
  obtain ⟨locs, hLe⟩ : ∃ L : List Loc, L = [] := ⟨_, rfl⟩
  have hP : va_P D vwCl [(hW, .inr (10, [.int (nI R), .int (nI C), .int (nI K), .int fi, .int di, .int br, .int li]))] H := by rw [hHe]; exact hP
  have hS : va_S (fun q : Nat => s.heap.size ≤ q) s.heap H locs := by rw [hHe, hLe]; exact hS
  have hgoal : W p l e ({ frames := 4, cells := 0, slots := 0, locals := 102 } : Room) s m ([.ref hW] : List Value).toArray below meth c H locs 0 0 Q (F0 m 0 ls []) := by
    clear hHe hLe
    refine lv_aload_n hx hb dX3_leastIsSound_0 rfl (lv_at hl 0 rfl) ?_
    refine lv_aload_n hx hb dX3_leastIsSound_1 rfl (lv_at hl 0 rfl) ?_
    refine va_get (D := D) (ci := 10) (v := .int di) (C := RX3) (T := TX3) (N := 7) hx hb hts in_X3 hown hK hP 0 rfl rfl 4 (by decide) (hts _ q_136) (fun _ h9 => h9) rfl dX3_leastIsSound_2 ?_
    have hPc := hP.sub (ws' := [(hW, .inr (10, [.int (nI R), .int (nI C), .int (nI K), .int fi, .int di, .int br, .int li]))]) [0] rfl
    have hDc := hD.sub (ws' := [(hW, .inr (10, [.int (nI R), .int (nI C), .int (nI K), .int fi, .int di, .int br, .int li]))]) [0] (by decide) rfl
    have hFc := va_free (wc := [(hW, .inr (10, [.int (nI R), .int (nI C), .int (nI K), .int fi, .int di, .int br, .int li]))]) hD (va_S_up hS hA) hA [0] rfl
    refine va_calli (va_runV (As := [.int di]) (rest := []) ⟨hx, hb, hml, hown, hts⟩ (c_X3_leastKeys l D hW R C K fi di br li di H.size (show R ≤ 5 from hR) (show K ≤ 25 from hKb)) (cwV 1 hts (gi_V q_757 q_759 q_16 q_81 q_760) rfl rfl rfl (by decide +kernel) ⟨Nat.le_of_ble_eq_true rfl, Nat.le_of_ble_eq_true rfl⟩) ⟨cPre_blind, va_recv hK hP (ci := 10) (q0 := 0) rfl rfl, cPre_mk hPc hK hDc hN (lwZ_for hZ (va_S_up hS hA) hFc)⟩ rfl rfl hl.1 rfl (lv_room (Nat.le_of_ble_eq_true rfl)) dX3_leastIsSound_5 ⟨(Nat.le_of_ble_eq_true rfl), (Nat.le_of_ble_eq_true rfl)⟩) hS (fun q h1 h2 => absurd h2 (Nat.not_le.mpr h1)) (fun q h => Nat.le_trans hS.1 h) (fun r_5 u t H1 locs ht hvm hw hBk hz1 hk1 hS => ?_)
    have hP := va_P_ro hP hk1
    subst hw
    clear hBk hvm ht u hz1 hk1
    clear hPc hDc hFc; clear t
    generalize H1 = H at hP hS ⊢
    refine lv_istore_n (lv' := [(1, .int (F_X3_leastKeys R C K li di)), (0, .ref hW)]) hx hb dX3_leastIsSound_8 rfl hl (by decide) rfl (fun ls hl => ?_)
    refine lv_aload_n hx hb dX3_leastIsSound_9 rfl (lv_at hl 1 rfl) ?_
    have hPc := hP.sub (ws' := [(hW, .inr (10, [.int (nI R), .int (nI C), .int (nI K), .int fi, .int di, .int br, .int li]))]) [0] rfl
    have hDc := hD.sub (ws' := [(hW, .inr (10, [.int (nI R), .int (nI C), .int (nI K), .int fi, .int di, .int br, .int li]))]) [0] (by decide) rfl
    have hFc := va_free (wc := [(hW, .inr (10, [.int (nI R), .int (nI C), .int (nI K), .int fi, .int di, .int br, .int li]))]) hD (va_S_up hS hA) hA [0] rfl
    refine va_calli (va_runV (As := []) (rest := []) ⟨hx, hb, hml, hown, hts⟩ (c_X3_isClear l D hW R C K fi di br li H.size (show R ≤ 5 from hR) (show K ≤ 25 from hKb)) (cwV 0 hts (gi_V q_765 q_767 q_18 q_81 q_768) rfl rfl rfl (by decide +kernel) ⟨Nat.le_of_ble_eq_true rfl, Nat.le_of_ble_eq_true rfl⟩) ⟨cPre_blind, va_recv hK hP (ci := 10) (q0 := 0) rfl rfl, cPre_mk hPc hK hDc hN (lwZ_for hZ (va_S_up hS hA) hFc)⟩ rfl rfl hl.1 rfl (lv_room (Nat.le_of_ble_eq_true rfl)) dX3_leastIsSound_10 ⟨(Nat.le_of_ble_eq_true rfl), (Nat.le_of_ble_eq_true rfl)⟩) hS (fun q h1 h2 => absurd h2 (Nat.not_le.mpr h1)) (fun q h => Nat.le_trans hS.1 h) (fun r_10 u t H1 locs ht hvm hw hBk hz1 hk1 hS => ?_)
    have hP := va_P_ro hP hk1
    obtain ⟨hw, z_1⟩ := hw
    rw [hw] at z_1
    subst hw
    clear hBk hvm ht u hz1 hk1
    clear hPc hDc hFc; clear t
    generalize H1 = H at hP hS ⊢
    refine lv_if_eq (tgt := 38) hx hb dX3_leastIsSound_13 (by decide) (fun c_2 => ?_) (fun c_2 => ?_)
    · refine lv_iload_n hx hb dX3_leastIsSound_38 rfl (lv_at hl 0 rfl) ?_
      refine lv_iconst (v := 3) hx hb dX3_leastIsSound_39 (by decide) ?_
      refine lv_icmp_lt (tgt := 54) hx hb dX3_leastIsSound_40 (by decide) (fun c_3 => ?_) (fun c_3 => ?_)
      · refine lv_iconst (v := 0) hx hb dX3_leastIsSound_54 (by decide) ?_
        subst hQe
        exact W.zret (ty := .boolean) (v := 0) hx hb hr (zb_narrow zb_0) (fun t ht hW => ⟨⟨0, (), rfl, ⟨(by unfold F_X3_leastIsSound; rw [if_pos c_2, if_pos c_3]), zb_0⟩, trivial⟩, hS.F ht⟩) hS.2.2 dX3_leastIsSound_55
      · refine lv_iload_n hx hb dX3_leastIsSound_43 rfl (lv_at hl 0 rfl) ?_
        refine lv_iconst (v := 2) hx hb dX3_leastIsSound_44 (by decide) ?_
        refine lv_irem hx hb dX3_leastIsSound_45 (by decide) ?_
        refine lv_iconst (v := 1) hx hb dX3_leastIsSound_46 (by decide) ?_
        refine lv_icmp_ne (tgt := 54) hx hb dX3_leastIsSound_47 (by decide) (fun c_4 => ?_) (fun c_4 => ?_)
        · refine lv_iconst (v := 0) hx hb dX3_leastIsSound_54 (by decide) ?_
          subst hQe
          exact W.zret (ty := .boolean) (v := 0) hx hb hr (zb_narrow zb_0) (fun t ht hW => ⟨⟨0, (), rfl, ⟨(by unfold F_X3_leastIsSound; rw [if_pos c_2, if_neg c_3, if_neg c_4]), zb_0⟩, trivial⟩, hS.F ht⟩) hS.2.2 dX3_leastIsSound_55
        · refine lv_iconst (v := 1) hx hb dX3_leastIsSound_50 (by decide) ?_
          refine lv_goto (tgt := 55) hx hb dX3_leastIsSound_51 (by decide) ?_
          subst hQe
          exact W.zret (ty := .boolean) (v := 1) hx hb hr (zb_narrow zb_1) (fun t ht hW => ⟨⟨1, (), rfl, ⟨(by unfold F_X3_leastIsSound; rw [if_pos c_2, if_neg c_3, if_pos c_4]), zb_1⟩, trivial⟩, hS.F ht⟩) hS.2.2 dX3_leastIsSound_55
    · refine lv_iload_n hx hb dX3_leastIsSound_16 rfl (lv_at hl 0 rfl) ?_
      refine lv_iconst (v := (-1)) hx hb dX3_leastIsSound_17 (by decide) ?_
      refine lv_icmp_ne (tgt := 36) hx hb dX3_leastIsSound_18 (by decide) (fun c_5 => ?_) (fun c_5 => ?_)
      · refine lv_iconst (v := 0) hx hb dX3_leastIsSound_36 (by decide) ?_
        subst hQe
        exact W.zret (ty := .boolean) (v := 0) hx hb hr (zb_narrow zb_0) (fun t ht hW => ⟨⟨0, (), rfl, ⟨(by unfold F_X3_leastIsSound; rw [if_neg c_2, if_neg c_5]), zb_0⟩, trivial⟩, hS.F ht⟩) hS.2.2 dX3_leastIsSound_37
      · refine lv_aload_n hx hb dX3_leastIsSound_21 rfl (lv_at hl 1 rfl) ?_
        refine lv_aload_n hx hb dX3_leastIsSound_22 rfl (lv_at hl 1 rfl) ?_
        refine va_get (D := D) (ci := 10) (v := .int fi) (C := RX3) (T := TX3) (N := 7) hx hb hts in_X3 hown hK hP 0 rfl rfl 3 (by decide) (hts _ q_134) (fun _ h9 => h9) rfl dX3_leastIsSound_23 ?_
        have hPc := hP.sub (ws' := [(hW, .inr (10, [.int (nI R), .int (nI C), .int (nI K), .int fi, .int di, .int br, .int li]))]) [0] rfl
        have hDc := hD.sub (ws' := [(hW, .inr (10, [.int (nI R), .int (nI C), .int (nI K), .int fi, .int di, .int br, .int li]))]) [0] (by decide) rfl
        have hFc := va_free (wc := [(hW, .inr (10, [.int (nI R), .int (nI C), .int (nI K), .int fi, .int di, .int br, .int li]))]) hD (va_S_up hS hA) hA [0] rfl
        refine va_calli (va_runV (As := [.int fi]) (rest := []) ⟨hx, hb, hml, hown, hts⟩ (c_X3_isExact l D hW R C K fi di br li fi H.size (show R ≤ 5 from hR)) (cwV 1 hts (gi_V q_749 q_751 q_14 q_81 q_752) rfl rfl rfl (by decide +kernel) ⟨Nat.le_of_ble_eq_true rfl, Nat.le_of_ble_eq_true rfl⟩) ⟨cPre_blind, va_recv hK hP (ci := 10) (q0 := 0) rfl rfl, cPre_mk hPc hK hDc hN (lwZ_for hZ (va_S_up hS hA) hFc)⟩ rfl rfl hl.1 rfl (lv_room (Nat.le_of_ble_eq_true rfl)) dX3_leastIsSound_26 ⟨(Nat.le_of_ble_eq_true rfl), (Nat.le_of_ble_eq_true rfl)⟩) hS (fun q h1 h2 => absurd h2 (Nat.not_le.mpr h1)) (fun q h => Nat.le_trans hS.1 h) (fun r_26 u t H1 locs ht hvm hw hBk hz1 hk1 hS => ?_)
        have hP := va_P_ro hP hk1
        obtain ⟨hw, z_6⟩ := hw
        rw [hw] at z_6
        subst hw
        clear hBk hvm ht u hz1 hk1
        clear hPc hDc hFc; clear t
        generalize H1 = H at hP hS ⊢
        refine lv_if_eq (tgt := 36) hx hb dX3_leastIsSound_29 (by decide) (fun c_7 => ?_) (fun c_7 => ?_)
        · refine lv_iconst (v := 0) hx hb dX3_leastIsSound_36 (by decide) ?_
          subst hQe
          exact W.zret (ty := .boolean) (v := 0) hx hb hr (zb_narrow zb_0) (fun t ht hW => ⟨⟨0, (), rfl, ⟨(by unfold F_X3_leastIsSound; rw [if_neg c_2, if_pos c_5, if_pos c_7]), zb_0⟩, trivial⟩, hS.F ht⟩) hS.2.2 dX3_leastIsSound_37
        · refine lv_iconst (v := 1) hx hb dX3_leastIsSound_32 (by decide) ?_
          refine lv_goto (tgt := 37) hx hb dX3_leastIsSound_33 (by decide) ?_
          subst hQe
          exact W.zret (ty := .boolean) (v := 1) hx hb hr (zb_narrow zb_1) (fun t ht hW => ⟨⟨1, (), rfl, ⟨(by unfold F_X3_leastIsSound; rw [if_neg c_2, if_pos c_5, if_neg c_7]), zb_1⟩, trivial⟩, hS.F ht⟩) hS.2.2 dX3_leastIsSound_37
  rw [hHe, hLe] at hgoal
  exact hgoal

def S_X3_findLive_17 (R : Nat) (C : Nat) (fi : Int32) (br : Int32) (i0 : Nat) (i1 : Nat) (a1 : Int32) : Int32 := (if (F_X4_holds br (nI i0)) = 0 then (if (F_X4_holds br ((nI R) + (nI i1))) = 0 then (if (F_X4_holds fi (((nI i0) * (nI C)) + (nI i1))) = 0 then a1 else a1 ||| ((1 : Int32) <<< ((((nI i0) * (nI C)) + (nI i1)) &&& 31))) else (if (F_X4_holds fi (((nI i0) * (nI C)) + (nI i1))) = 0 then a1 else a1)) else (if (F_X4_holds fi (((nI i0) * (nI C)) + (nI i1))) = 0 then a1 else a1))
def S_X3_findLive_7 (R : Nat) (C : Nat) (fi : Int32) (br : Int32) (i0 : Nat) (a0 : Int32) : Int32 := (itr (fun i a => S_X3_findLive_17 R C fi br i0 i a) C 0 a0)
def F_X3_findLive (R : Nat) (C : Nat) (fi : Int32) (br : Int32) : Int32 := (itr (fun i a => S_X3_findLive_7 R C fi br i a) R 0 0)
set_option maxHeartbeats 4000000 in
set_option maxRecDepth 100000 in
theorem c_X3_findLive (l : Launch) (D : va_G) (hW : Nat) (R : Nat) (C : Nat) (K : Nat) (fi : Int32) (di : Int32) (br : Int32) (li : Int32) (sz : Nat) (hR : R ≤ 5) (hC : C ≤ 5) : Met l yX3_findLive (Cond.code yX3_findLive cX3_findLive 5 none :: lwAll) ({ frames := 1, cells := 0, slots := 0, locals := 21 } : Room) (va_Pc [.ref hW] (cPre D (lwTY D) [(hW, .inr (10, [.int (nI R), .int (nI C), .int (nI K), .int fi, .int di, .int br, .int li]))] sz)) (va_Qv (fun (_ : Unit) => True) (fun (_ : Unit) t => va_P D vwCl [(hW, .inr (10, [.int (nI R), .int (nI C), .int (nI K), .int fi, .int di, .int br, .int (F_X3_findLive R C fi br)]))] t.heap ∧ va_D (va_A [(hW, .inr (10, [.int (nI R), .int (nI C), .int (nI K), .int fi, .int di, .int br, .int li]))] sz) [(hW, .inr (10, [.int (nI R), .int (nI C), .int (nI K), .int fi, .int di, .int br, .int (F_X3_findLive R C fi br)]))]) (va_A [(hW, .inr (10, [.int (nI R), .int (nI C), .int (nI K), .int fi, .int di, .int br, .int li]))] sz)) 0 0 (va_A [(hW, .inr (10, [.int (nI R), .int (nI C), .int (nI K), .int fi, .int di, .int br, .int li]))] sz) := by
  refine Met.ofW (cc := cX3_findLive) (maxL := 5) (ret := none) (by decide) rfl ?_
  intro p e s m args below meth c s₁ B hml hv
  obtain ⟨rfl, hsz, hP, hK, hD0, hN, hZ⟩ := hv
  have hx := B.exec
  have hb := B.bytes
  have hr := B.returns
  have hts : ∀ wd ∈ lwAll, wd.before ([.ref hW] : List Value).toArray s = true := fun wd h => atoms_spec (ws := (Cond.code yX3_findLive cX3_findLive 5 none :: lwAll)) B.pre wd (List.mem_cons_of_mem _ h)
  have hown : s.vm.findClass RX3 = some m.cls := findClass_of_methodNamed B.named
  have hlocks := B.notSynchronized
  subst hsz
  have hD := hD0.self (sz := s.heap.size)
  have hl := lv_entry ([.ref hW]) (n := 5) (Nat.le_of_ble_eq_true rfl)
  rw [lg_entry_eq]
  generalize (lg_sl ([.ref hW]) ++ List.replicate (5 - (lg_sl ([.ref hW])).length) Slot.unset).toArray = ls at hl ⊢
  have hl : lv_has ls 5 [(0, .ref hW)] := hl
  have hS : va_S (va_A [(hW, .inr (10, [.int (nI R), .int (nI C), .int (nI K), .int fi, .int di, .int br, .int li]))] s.heap.size) s.heap s.heap [] := va_S.rf
  generalize hQe : MQ below (va_Qv (fun (_ : Unit) => True) (fun (_ : Unit) t => va_P D vwCl [(hW, .inr (10, [.int (nI R), .int (nI C), .int (nI K), .int fi, .int di, .int br, .int (F_X3_findLive R C fi br)]))] t.heap ∧ va_D (va_A [(hW, .inr (10, [.int (nI R), .int (nI C), .int (nI K), .int fi, .int di, .int br, .int li]))] s.heap.size) [(hW, .inr (10, [.int (nI R), .int (nI C), .int (nI K), .int fi, .int di, .int br, .int (F_X3_findLive R C fi br)]))]) (va_A [(hW, .inr (10, [.int (nI R), .int (nI C), .int (nI K), .int fi, .int di, .int br, .int li]))] s.heap.size)) ([.ref hW] : List Value).toArray s 0 0 (va_A [(hW, .inr (10, [.int (nI R), .int (nI C), .int (nI K), .int fi, .int di, .int br, .int li]))] s.heap.size) = Q
  have hP : va_P D vwCl [(hW, .inr (10, [.int (nI R), .int (nI C), .int (nI K), .int fi, .int di, .int br, .int li]))] s.heap := hP
  obtain ⟨A, hAe⟩ : ∃ A, A = va_A [(hW, .inr (10, [.int (nI R), .int (nI C), .int (nI K), .int fi, .int di, .int br, .int li]))] s.heap.size := ⟨_, rfl⟩
  rw [← hAe] at hD hZ hS
  have hA : ∀ q : Nat, s.heap.size ≤ q → A q := fun q h => by rw [hAe]; exact Or.inr h
  obtain ⟨H, hHe⟩ : ∃ H, H = s.heap := ⟨_, rfl⟩
  obtain ⟨locs, hLe⟩ : ∃ L : List Loc, L = [] := ⟨_, rfl⟩
  have hP : va_P D vwCl [(hW, .inr (10, [.int (nI R), .int (nI C), .int (nI K), .int fi, .int di, .int br, .int li]))] H := by rw [hHe]; exact hP
  have hS : va_S A s.heap H locs := by rw [hHe, hLe]; exact hS
  have hgoal : W p l e ({ frames := 1, cells := 0, slots := 0, locals := 21 } : Room) s m ([.ref hW] : List Value).toArray below meth c H locs 0 0 Q (F0 m 0 ls []) := by
    clear hHe hLe
    refine lv_aload_n hx hb dX3_findLive_0 rfl (lv_at hl 0 rfl) ?_
    refine lv_iconst (v := 0) hx hb dX3_findLive_1 (by decide) ?_
    refine va_put (D := D) (ci := 10) (v := .int 0) (ty := .int) (C := RX3) (T := TX3) (N := 7) hx hb hts in_X3 tyX3 tyX3_ok nmX3 hown hK hP hD hS 0 rfl rfl 6 (by decide) (hts _ q_140) (fun _ h9 => h9) rfl (by decide +kernel) rfl rfl (Nat.le_of_ble_eq_true rfl) dX3_findLive_2 (fun H locs hP hD hS => ?_)
    have hP : va_P D vwCl [(hW, .inr (10, [.int (nI R), .int (nI C), .int (nI K), .int fi, .int di, .int br, .int 0]))] H := hP
    have hD : va_D A [(hW, .inr (10, [.int (nI R), .int (nI C), .int (nI K), .int fi, .int di, .int br, .int 0]))] := hD
    refine lv_iconst (v := 0) hx hb dX3_findLive_5 (by decide) ?_
    refine lv_istore_n (lv' := [(1, .int 0), (0, .ref hW)]) hx hb dX3_findLive_6 rfl hl (by decide) rfl (fun ls hl => ?_)
    have lp_7 : ∀ (n0 i0 : Nat), i0 + n0 = R → ∀ (a0 : Int32) (H : Heap) (locs : List Loc) (ls : Array Slot), va_P D vwCl [(hW, .inr (10, [.int (nI R), .int (nI C), .int (nI K), .int fi, .int di, .int br, .int a0]))] H → va_D A [(hW, .inr (10, [.int (nI R), .int (nI C), .int (nI K), .int fi, .int di, .int br, .int a0]))] → va_S A s.heap H locs → lv_has ls 5 [(0, .ref hW), (1, .int (nI i0))] → (∀ (H : Heap) (locs : List Loc) (ls : Array Slot), va_P D vwCl [(hW, .inr (10, [.int (nI R), .int (nI C), .int (nI K), .int fi, .int di, .int br, .int (itr (fun i a => S_X3_findLive_7 R C fi br i a) n0 i0 a0)]))] H → va_D A [(hW, .inr (10, [.int (nI R), .int (nI C), .int (nI K), .int fi, .int di, .int br, .int (itr (fun i a => S_X3_findLive_7 R C fi br i a) n0 i0 a0)]))] → va_S A s.heap H locs → lv_has ls 5 [(0, .ref hW), (1, .int (nI R))] → W p l e ({ frames := 1, cells := 0, slots := 0, locals := 21 } : Room) s m ([.ref hW] : List Value).toArray below meth c H locs 0 0 Q (F0 m 108 ls [])) → W p l e ({ frames := 1, cells := 0, slots := 0, locals := 21 } : Room) s m ([.ref hW] : List Value).toArray below meth c H locs 0 0 Q (F0 m 7 ls []) := by
      intro n0
      induction n0 with
      | zero =>
        intro i0 hi0 a0 H locs ls hP hD hS hl kon
        have he0 : i0 = R := by omega
        refine lv_iload_n hx hb dX3_findLive_7 rfl (lv_at hl 1 rfl) ?_
        refine lv_aload_n hx hb dX3_findLive_8 rfl (lv_at hl 0 rfl) ?_
        refine va_get (D := D) (ci := 10) (v := .int (nI R)) (C := RX3) (T := TX3) (N := 7) hx hb hts in_X3 hown hK hP 0 rfl rfl 0 (by decide) (hts _ q_128) (fun _ h9 => h9) rfl dX3_findLive_9 ?_
        refine lv_icmp_ge (tgt := 108) hx hb dX3_findLive_12 (by decide) (fun c_1 => ?_) (fun c_1 => ?_)
        · subst he0
          exact kon H locs ls hP hD hS (lv_sub hl [0, 1] rfl)
        · exact absurd (nI_le (a := R) (b := i0) (by omega) (by omega)) c_1
      | succ n0 ih0 =>
        intro i0 hi0 a0 H locs ls hP hD hS hl kon
        refine lv_iload_n hx hb dX3_findLive_7 rfl (lv_at hl 1 rfl) ?_
        refine lv_aload_n hx hb dX3_findLive_8 rfl (lv_at hl 0 rfl) ?_
        refine va_get (D := D) (ci := 10) (v := .int (nI R)) (C := RX3) (T := TX3) (N := 7) hx hb hts in_X3 hown hK hP 0 rfl rfl 0 (by decide) (hts _ q_128) (fun _ h9 => h9) rfl dX3_findLive_9 ?_
        refine lv_icmp_ge (tgt := 108) hx hb dX3_findLive_12 (by decide) (fun c_2 => ?_) (fun c_2 => ?_)
        · exact absurd c_2 (nI_ge (a := i0) (b := R) (by omega) (by omega))
        · refine lv_iconst (v := 0) hx hb dX3_findLive_15 (by decide) ?_
          refine lv_istore_n (lv' := [(2, .int 0), (0, .ref hW), (1, .int (nI i0))]) hx hb dX3_findLive_16 rfl hl (by decide) rfl (fun ls hl => ?_)
          have lp_17 : ∀ (n1 i1 : Nat), i1 + n1 = C → ∀ (a1 : Int32) (H : Heap) (locs : List Loc) (ls : Array Slot), va_P D vwCl [(hW, .inr (10, [.int (nI R), .int (nI C), .int (nI K), .int fi, .int di, .int br, .int a1]))] H → va_D A [(hW, .inr (10, [.int (nI R), .int (nI C), .int (nI K), .int fi, .int di, .int br, .int a1]))] → va_S A s.heap H locs → lv_has ls 5 [(0, .ref hW), (1, .int (nI i0)), (2, .int (nI i1))] → (∀ (H : Heap) (locs : List Loc) (ls : Array Slot), va_P D vwCl [(hW, .inr (10, [.int (nI R), .int (nI C), .int (nI K), .int fi, .int di, .int br, .int (itr (fun i a => S_X3_findLive_17 R C fi br i0 i a) n1 i1 a1)]))] H → va_D A [(hW, .inr (10, [.int (nI R), .int (nI C), .int (nI K), .int fi, .int di, .int br, .int (itr (fun i a => S_X3_findLive_17 R C fi br i0 i a) n1 i1 a1)]))] → va_S A s.heap H locs → lv_has ls 5 [(0, .ref hW), (1, .int (nI i0)), (2, .int (nI C))] → W p l e ({ frames := 1, cells := 0, slots := 0, locals := 21 } : Room) s m ([.ref hW] : List Value).toArray below meth c H locs 0 0 Q (F0 m 102 ls [])) → W p l e ({ frames := 1, cells := 0, slots := 0, locals := 21 } : Room) s m ([.ref hW] : List Value).toArray below meth c H locs 0 0 Q (F0 m 17 ls []) := by
            intro n1
            induction n1 with
            | zero =>
              intro i1 hi1 a1 H locs ls hP hD hS hl kon
              have he1 : i1 = C := by omega
              refine lv_iload_n hx hb dX3_findLive_17 rfl (lv_at hl 2 rfl) ?_
              refine lv_aload_n hx hb dX3_findLive_18 rfl (lv_at hl 0 rfl) ?_
              refine va_get (D := D) (ci := 10) (v := .int (nI C)) (C := RX3) (T := TX3) (N := 7) hx hb hts in_X3 hown hK hP 0 rfl rfl 1 (by decide) (hts _ q_130) (fun _ h9 => h9) rfl dX3_findLive_19 ?_
              refine lv_icmp_ge (tgt := 102) hx hb dX3_findLive_22 (by decide) (fun c_3 => ?_) (fun c_3 => ?_)
              · subst he1
                exact kon H locs ls hP hD hS (lv_sub hl [0, 1, 2] rfl)
              · exact absurd (nI_le (a := C) (b := i1) (by omega) (by omega)) c_3
            | succ n1 ih1 =>
              intro i1 hi1 a1 H locs ls hP hD hS hl kon
              refine lv_iload_n hx hb dX3_findLive_17 rfl (lv_at hl 2 rfl) ?_
              refine lv_aload_n hx hb dX3_findLive_18 rfl (lv_at hl 0 rfl) ?_
              refine va_get (D := D) (ci := 10) (v := .int (nI C)) (C := RX3) (T := TX3) (N := 7) hx hb hts in_X3 hown hK hP 0 rfl rfl 1 (by decide) (hts _ q_130) (fun _ h9 => h9) rfl dX3_findLive_19 ?_
              refine lv_icmp_ge (tgt := 102) hx hb dX3_findLive_22 (by decide) (fun c_4 => ?_) (fun c_4 => ?_)
              · exact absurd c_4 (nI_ge (a := i1) (b := C) (by omega) (by omega))
              · refine lv_iload_n hx hb dX3_findLive_25 rfl (lv_at hl 1 rfl) ?_
                refine lv_aload_n hx hb dX3_findLive_26 rfl (lv_at hl 0 rfl) ?_
                refine va_get (D := D) (ci := 10) (v := .int (nI C)) (C := RX3) (T := TX3) (N := 7) hx hb hts in_X3 hown hK hP 0 rfl rfl 1 (by decide) (hts _ q_130) (fun _ h9 => h9) rfl dX3_findLive_27 ?_
                refine lv_imul hx hb dX3_findLive_30 ?_
                refine lv_iload_n hx hb dX3_findLive_31 rfl (lv_at hl 2 rfl) ?_
                refine lv_iadd hx hb dX3_findLive_32 ?_
                refine lv_istore_n (lv' := [(3, .int (((nI i0) * (nI C)) + (nI i1))), (0, .ref hW), (1, .int (nI i0)), (2, .int (nI i1))]) hx hb dX3_findLive_33 rfl hl (by decide) rfl (fun ls hl => ?_)
                refine lv_aload_n hx hb dX3_findLive_34 rfl (lv_at hl 1 rfl) ?_
                refine va_get (D := D) (ci := 10) (v := .int br) (C := RX3) (T := TX3) (N := 7) hx hb hts in_X3 hown hK hP 0 rfl rfl 5 (by decide) (hts _ q_138) (fun _ h9 => h9) rfl dX3_findLive_35 ?_
                refine lv_iload_n hx hb dX3_findLive_38 rfl (lv_at hl 2 rfl) ?_
                have hPc := hP.sub (ws' := []) [] rfl
                have hDc := hD.sub (ws' := []) [] (by decide) rfl
                have hFc := va_free (wc := []) hD hS hA [] rfl
                refine va_calli (va_runSN (As := [.int br, .int (nI i0)]) (rest := []) ⟨hx, hb, hml, hown, hts⟩ (c_X4_holds l D br (nI i0) H.size ) ⟨va_cnB 2 hts (gi_sub q_713) rfl rfl rfl (hN.1 _ n_711) (hts _ q_80) (by decide +kernel) ⟨Nat.le_of_ble_eq_true rfl, Nat.le_of_ble_eq_true rfl⟩, (hts _ q_712), trivial⟩ ⟨cPre_blind, cPre_mk hPc hK hDc hN (lwZ_for hZ hS hFc)⟩ rfl rfl hl.1 rfl (lv_room (Nat.le_of_ble_eq_true rfl)) dX3_findLive_39 ⟨(Nat.le_of_ble_eq_true rfl), (Nat.le_of_ble_eq_true rfl)⟩) hS (fun q h1 h2 => absurd h2 (Nat.not_le.mpr h1)) (fun q h => hA q (Nat.le_trans hS.1 h)) (fun r_39 u t H1 locs ht hvm hw hBk hz1 hk1 hS => ?_)
                have hP := va_P_ro hP hk1
                obtain ⟨hw, z_5⟩ := hw
                rw [hw] at z_5
                subst hw
                clear hBk hvm ht u hz1 hk1
                clear hPc hDc hFc; clear t
                generalize H1 = H at hP hS ⊢
                refine lv_if_ne (tgt := 61) hx hb dX3_findLive_42 (by decide) (fun c_6 => ?_) (fun c_6 => ?_)
                · refine lv_iconst (v := 1) hx hb dX3_findLive_61 (by decide) ?_
                  refine lv_goto (tgt := 66) hx hb dX3_findLive_62 (by decide) ?_
                  refine lv_istore (lv' := [(4, .int 1), (3, .int (((nI i0) * (nI C)) + (nI i1))), (0, .ref hW), (1, .int (nI i0)), (2, .int (nI i1))]) hx hb dX3_findLive_66 hl (by decide) rfl (fun ls hl => ?_)
                  refine lv_aload_n hx hb dX3_findLive_68 rfl (lv_at hl 2 rfl) ?_
                  refine va_get (D := D) (ci := 10) (v := .int fi) (C := RX3) (T := TX3) (N := 7) hx hb hts in_X3 hown hK hP 0 rfl rfl 3 (by decide) (hts _ q_134) (fun _ h9 => h9) rfl dX3_findLive_69 ?_
                  refine lv_iload_n hx hb dX3_findLive_72 rfl (lv_at hl 1 rfl) ?_
                  have hPc := hP.sub (ws' := []) [] rfl
                  have hDc := hD.sub (ws' := []) [] (by decide) rfl
                  have hFc := va_free (wc := []) hD hS hA [] rfl
                  refine va_calli (va_runSN (As := [.int fi, .int (((nI i0) * (nI C)) + (nI i1))]) (rest := []) ⟨hx, hb, hml, hown, hts⟩ (c_X4_holds l D fi (((nI i0) * (nI C)) + (nI i1)) H.size ) ⟨va_cnB 2 hts (gi_sub q_713) rfl rfl rfl (hN.1 _ n_711) (hts _ q_80) (by decide +kernel) ⟨Nat.le_of_ble_eq_true rfl, Nat.le_of_ble_eq_true rfl⟩, (hts _ q_712), trivial⟩ ⟨cPre_blind, cPre_mk hPc hK hDc hN (lwZ_for hZ hS hFc)⟩ rfl rfl hl.1 rfl (lv_room (Nat.le_of_ble_eq_true rfl)) dX3_findLive_73 ⟨(Nat.le_of_ble_eq_true rfl), (Nat.le_of_ble_eq_true rfl)⟩) hS (fun q h1 h2 => absurd h2 (Nat.not_le.mpr h1)) (fun q h => hA q (Nat.le_trans hS.1 h)) (fun r_73 u t H1 locs ht hvm hw hBk hz1 hk1 hS => ?_)
                  have hP := va_P_ro hP hk1
                  obtain ⟨hw, z_7⟩ := hw
                  rw [hw] at z_7
                  subst hw
                  clear hBk hvm ht u hz1 hk1
                  clear hPc hDc hFc; clear t
                  generalize H1 = H at hP hS ⊢
                  refine lv_if_eq (tgt := 96) hx hb dX3_findLive_76 (by decide) (fun c_8 => ?_) (fun c_8 => ?_)
                  · refine lv_iinc (v := nI (i1 + 1)) (lv' := [(2, .int (nI (i1 + 1))), (4, .int 1), (3, .int (((nI i0) * (nI C)) + (nI i1))), (0, .ref hW), (1, .int (nI i0))]) hx hb dX3_findLive_96 hl (k := 4) rfl (nI_1 _) (by decide) rfl (fun ls hl => ?_)
                    refine lv_goto (tgt := 17) hx hb dX3_findLive_99 (by decide) ?_
                    have hE : S_X3_findLive_17 R C fi br i0 i1 a1 = a1 := (by unfold S_X3_findLive_17; rw [if_neg c_6, if_pos c_8])
                    have hl : lv_has ls 5 [(0, .ref hW), (1, .int (nI i0)), (2, .int (nI (i1 + 1)))] := lv_sub hl [3, 4, 0] rfl
                    have hP := hP.sub (ws' := [(hW, .inr (10, [.int (nI R), .int (nI C), .int (nI K), .int fi, .int di, .int br, .int a1]))]) [0] rfl
                    have hD := hD.sub (ws' := [(hW, .inr (10, [.int (nI R), .int (nI C), .int (nI K), .int fi, .int di, .int br, .int a1]))]) [0] (by decide) rfl
                    exact ih1 (i1 + 1) (by omega) (S_X3_findLive_17 R C fi br i0 i1 a1) H locs ls (by (try rw [hE]); exact hP) (by (try rw [hE]); exact hD) hS (by (try rw [hE]); exact hl) kon
                  · refine lv_iload hx hb dX3_findLive_79 (lv_at hl 0 rfl) ?_
                    refine lv_if_ne (tgt := 96) hx hb dX3_findLive_81 (by decide) (fun c_9 => ?_) (fun c_9 => ?_)
                    · refine lv_iinc (v := nI (i1 + 1)) (lv' := [(2, .int (nI (i1 + 1))), (4, .int 1), (3, .int (((nI i0) * (nI C)) + (nI i1))), (0, .ref hW), (1, .int (nI i0))]) hx hb dX3_findLive_96 hl (k := 4) rfl (nI_1 _) (by decide) rfl (fun ls hl => ?_)
                      refine lv_goto (tgt := 17) hx hb dX3_findLive_99 (by decide) ?_
                      have hE : S_X3_findLive_17 R C fi br i0 i1 a1 = a1 := (by unfold S_X3_findLive_17; rw [if_neg c_6, if_neg c_8])
                      have hl : lv_has ls 5 [(0, .ref hW), (1, .int (nI i0)), (2, .int (nI (i1 + 1)))] := lv_sub hl [3, 4, 0] rfl
                      have hP := hP.sub (ws' := [(hW, .inr (10, [.int (nI R), .int (nI C), .int (nI K), .int fi, .int di, .int br, .int a1]))]) [0] rfl
                      have hD := hD.sub (ws' := [(hW, .inr (10, [.int (nI R), .int (nI C), .int (nI K), .int fi, .int di, .int br, .int a1]))]) [0] (by decide) rfl
                      exact ih1 (i1 + 1) (by omega) (S_X3_findLive_17 R C fi br i0 i1 a1) H locs ls (by (try rw [hE]); exact hP) (by (try rw [hE]); exact hD) hS (by (try rw [hE]); exact hl) kon
                    · exact absurd c_9 (by decide)
                · refine lv_aload_n hx hb dX3_findLive_45 rfl (lv_at hl 1 rfl) ?_
                  refine va_get (D := D) (ci := 10) (v := .int br) (C := RX3) (T := TX3) (N := 7) hx hb hts in_X3 hown hK hP 0 rfl rfl 5 (by decide) (hts _ q_138) (fun _ h9 => h9) rfl dX3_findLive_46 ?_
                  refine lv_aload_n hx hb dX3_findLive_49 rfl (lv_at hl 1 rfl) ?_
                  refine va_get (D := D) (ci := 10) (v := .int (nI R)) (C := RX3) (T := TX3) (N := 7) hx hb hts in_X3 hown hK hP 0 rfl rfl 0 (by decide) (hts _ q_128) (fun _ h9 => h9) rfl dX3_findLive_50 ?_
                  refine lv_iload_n hx hb dX3_findLive_53 rfl (lv_at hl 3 rfl) ?_
                  refine lv_iadd hx hb dX3_findLive_54 ?_
                  have hPc := hP.sub (ws' := []) [] rfl
                  have hDc := hD.sub (ws' := []) [] (by decide) rfl
                  have hFc := va_free (wc := []) hD hS hA [] rfl
                  refine va_calli (va_runSN (As := [.int br, .int ((nI R) + (nI i1))]) (rest := []) ⟨hx, hb, hml, hown, hts⟩ (c_X4_holds l D br ((nI R) + (nI i1)) H.size ) ⟨va_cnB 2 hts (gi_sub q_713) rfl rfl rfl (hN.1 _ n_711) (hts _ q_80) (by decide +kernel) ⟨Nat.le_of_ble_eq_true rfl, Nat.le_of_ble_eq_true rfl⟩, (hts _ q_712), trivial⟩ ⟨cPre_blind, cPre_mk hPc hK hDc hN (lwZ_for hZ hS hFc)⟩ rfl rfl hl.1 rfl (lv_room (Nat.le_of_ble_eq_true rfl)) dX3_findLive_55 ⟨(Nat.le_of_ble_eq_true rfl), (Nat.le_of_ble_eq_true rfl)⟩) hS (fun q h1 h2 => absurd h2 (Nat.not_le.mpr h1)) (fun q h => hA q (Nat.le_trans hS.1 h)) (fun r_55 u t H1 locs ht hvm hw hBk hz1 hk1 hS => ?_)
                  have hP := va_P_ro hP hk1
                  obtain ⟨hw, z_10⟩ := hw
                  rw [hw] at z_10
                  subst hw
                  clear hBk hvm ht u hz1 hk1
                  clear hPc hDc hFc; clear t
                  generalize H1 = H at hP hS ⊢
                  refine lv_if_eq (tgt := 65) hx hb dX3_findLive_58 (by decide) (fun c_11 => ?_) (fun c_11 => ?_)
                  · refine lv_iconst (v := 0) hx hb dX3_findLive_65 (by decide) ?_
                    refine lv_istore (lv' := [(4, .int 0), (3, .int (((nI i0) * (nI C)) + (nI i1))), (0, .ref hW), (1, .int (nI i0)), (2, .int (nI i1))]) hx hb dX3_findLive_66 hl (by decide) rfl (fun ls hl => ?_)
                    refine lv_aload_n hx hb dX3_findLive_68 rfl (lv_at hl 2 rfl) ?_
                    refine va_get (D := D) (ci := 10) (v := .int fi) (C := RX3) (T := TX3) (N := 7) hx hb hts in_X3 hown hK hP 0 rfl rfl 3 (by decide) (hts _ q_134) (fun _ h9 => h9) rfl dX3_findLive_69 ?_
                    refine lv_iload_n hx hb dX3_findLive_72 rfl (lv_at hl 1 rfl) ?_
                    have hPc := hP.sub (ws' := []) [] rfl
                    have hDc := hD.sub (ws' := []) [] (by decide) rfl
                    have hFc := va_free (wc := []) hD hS hA [] rfl
                    refine va_calli (va_runSN (As := [.int fi, .int (((nI i0) * (nI C)) + (nI i1))]) (rest := []) ⟨hx, hb, hml, hown, hts⟩ (c_X4_holds l D fi (((nI i0) * (nI C)) + (nI i1)) H.size ) ⟨va_cnB 2 hts (gi_sub q_713) rfl rfl rfl (hN.1 _ n_711) (hts _ q_80) (by decide +kernel) ⟨Nat.le_of_ble_eq_true rfl, Nat.le_of_ble_eq_true rfl⟩, (hts _ q_712), trivial⟩ ⟨cPre_blind, cPre_mk hPc hK hDc hN (lwZ_for hZ hS hFc)⟩ rfl rfl hl.1 rfl (lv_room (Nat.le_of_ble_eq_true rfl)) dX3_findLive_73 ⟨(Nat.le_of_ble_eq_true rfl), (Nat.le_of_ble_eq_true rfl)⟩) hS (fun q h1 h2 => absurd h2 (Nat.not_le.mpr h1)) (fun q h => hA q (Nat.le_trans hS.1 h)) (fun r_73 u t H1 locs ht hvm hw hBk hz1 hk1 hS => ?_)
                    have hP := va_P_ro hP hk1
                    obtain ⟨hw, z_12⟩ := hw
                    rw [hw] at z_12
                    subst hw
                    clear hBk hvm ht u hz1 hk1
                    clear hPc hDc hFc; clear t
                    generalize H1 = H at hP hS ⊢
                    refine lv_if_eq (tgt := 96) hx hb dX3_findLive_76 (by decide) (fun c_13 => ?_) (fun c_13 => ?_)
                    · refine lv_iinc (v := nI (i1 + 1)) (lv' := [(2, .int (nI (i1 + 1))), (4, .int 0), (3, .int (((nI i0) * (nI C)) + (nI i1))), (0, .ref hW), (1, .int (nI i0))]) hx hb dX3_findLive_96 hl (k := 4) rfl (nI_1 _) (by decide) rfl (fun ls hl => ?_)
                      refine lv_goto (tgt := 17) hx hb dX3_findLive_99 (by decide) ?_
                      have hE : S_X3_findLive_17 R C fi br i0 i1 a1 = a1 := (by unfold S_X3_findLive_17; rw [if_pos c_6, if_pos c_11, if_pos c_13])
                      have hl : lv_has ls 5 [(0, .ref hW), (1, .int (nI i0)), (2, .int (nI (i1 + 1)))] := lv_sub hl [3, 4, 0] rfl
                      have hP := hP.sub (ws' := [(hW, .inr (10, [.int (nI R), .int (nI C), .int (nI K), .int fi, .int di, .int br, .int a1]))]) [0] rfl
                      have hD := hD.sub (ws' := [(hW, .inr (10, [.int (nI R), .int (nI C), .int (nI K), .int fi, .int di, .int br, .int a1]))]) [0] (by decide) rfl
                      exact ih1 (i1 + 1) (by omega) (S_X3_findLive_17 R C fi br i0 i1 a1) H locs ls (by (try rw [hE]); exact hP) (by (try rw [hE]); exact hD) hS (by (try rw [hE]); exact hl) kon
                    · refine lv_iload hx hb dX3_findLive_79 (lv_at hl 0 rfl) ?_
                      refine lv_if_ne (tgt := 96) hx hb dX3_findLive_81 (by decide) (fun c_14 => ?_) (fun c_14 => ?_)
                      · exact absurd (by decide) c_14
                      · refine lv_aload_n hx hb dX3_findLive_84 rfl (lv_at hl 2 rfl) ?_
                        refine lv_dup hx hb dX3_findLive_85 rfl ?_
                        refine va_get (D := D) (ci := 10) (v := .int a1) (C := RX3) (T := TX3) (N := 7) hx hb hts in_X3 hown hK hP 0 rfl rfl 6 (by decide) (hts _ q_140) (fun _ h9 => h9) rfl dX3_findLive_86 ?_
                        refine lv_iconst (v := 1) hx hb dX3_findLive_89 (by decide) ?_
                        refine lv_iload_n hx hb dX3_findLive_90 rfl (lv_at hl 1 rfl) ?_
                        refine lv_ishl hx hb dX3_findLive_91 ?_
                        refine lv_ior hx hb dX3_findLive_92 ?_
                        refine va_put (D := D) (ci := 10) (v := .int (a1 ||| ((1 : Int32) <<< ((((nI i0) * (nI C)) + (nI i1)) &&& 31)))) (ty := .int) (C := RX3) (T := TX3) (N := 7) hx hb hts in_X3 tyX3 tyX3_ok nmX3 hown hK hP hD hS 0 rfl rfl 6 (by decide) (hts _ q_140) (fun _ h9 => h9) rfl (by decide +kernel) rfl rfl (Nat.le_of_ble_eq_true rfl) dX3_findLive_93 (fun H locs hP hD hS => ?_)
                        have hP : va_P D vwCl [(hW, .inr (10, [.int (nI R), .int (nI C), .int (nI K), .int fi, .int di, .int br, .int (a1 ||| ((1 : Int32) <<< ((((nI i0) * (nI C)) + (nI i1)) &&& 31)))]))] H := hP
                        have hD : va_D A [(hW, .inr (10, [.int (nI R), .int (nI C), .int (nI K), .int fi, .int di, .int br, .int (a1 ||| ((1 : Int32) <<< ((((nI i0) * (nI C)) + (nI i1)) &&& 31)))]))] := hD
                        refine lv_iinc (v := nI (i1 + 1)) (lv' := [(2, .int (nI (i1 + 1))), (4, .int 0), (3, .int (((nI i0) * (nI C)) + (nI i1))), (0, .ref hW), (1, .int (nI i0))]) hx hb dX3_findLive_96 hl (k := 4) rfl (nI_1 _) (by decide) rfl (fun ls hl => ?_)
                        refine lv_goto (tgt := 17) hx hb dX3_findLive_99 (by decide) ?_
                        have hE : S_X3_findLive_17 R C fi br i0 i1 a1 = a1 ||| ((1 : Int32) <<< ((((nI i0) * (nI C)) + (nI i1)) &&& 31)) := (by unfold S_X3_findLive_17; rw [if_pos c_6, if_pos c_11, if_neg c_13])
                        have hl : lv_has ls 5 [(0, .ref hW), (1, .int (nI i0)), (2, .int (nI (i1 + 1)))] := lv_sub hl [3, 4, 0] rfl
                        have hP := hP.sub (ws' := [(hW, .inr (10, [.int (nI R), .int (nI C), .int (nI K), .int fi, .int di, .int br, .int (a1 ||| ((1 : Int32) <<< ((((nI i0) * (nI C)) + (nI i1)) &&& 31)))]))]) [0] rfl
                        have hD := hD.sub (ws' := [(hW, .inr (10, [.int (nI R), .int (nI C), .int (nI K), .int fi, .int di, .int br, .int (a1 ||| ((1 : Int32) <<< ((((nI i0) * (nI C)) + (nI i1)) &&& 31)))]))]) [0] (by decide) rfl
                        exact ih1 (i1 + 1) (by omega) (S_X3_findLive_17 R C fi br i0 i1 a1) H locs ls (by (try rw [hE]); exact hP) (by (try rw [hE]); exact hD) hS (by (try rw [hE]); exact hl) kon
                  · refine lv_iconst (v := 1) hx hb dX3_findLive_61 (by decide) ?_
                    refine lv_goto (tgt := 66) hx hb dX3_findLive_62 (by decide) ?_
                    refine lv_istore (lv' := [(4, .int 1), (3, .int (((nI i0) * (nI C)) + (nI i1))), (0, .ref hW), (1, .int (nI i0)), (2, .int (nI i1))]) hx hb dX3_findLive_66 hl (by decide) rfl (fun ls hl => ?_)
                    refine lv_aload_n hx hb dX3_findLive_68 rfl (lv_at hl 2 rfl) ?_
                    refine va_get (D := D) (ci := 10) (v := .int fi) (C := RX3) (T := TX3) (N := 7) hx hb hts in_X3 hown hK hP 0 rfl rfl 3 (by decide) (hts _ q_134) (fun _ h9 => h9) rfl dX3_findLive_69 ?_
                    refine lv_iload_n hx hb dX3_findLive_72 rfl (lv_at hl 1 rfl) ?_
                    have hPc := hP.sub (ws' := []) [] rfl
                    have hDc := hD.sub (ws' := []) [] (by decide) rfl
                    have hFc := va_free (wc := []) hD hS hA [] rfl
                    refine va_calli (va_runSN (As := [.int fi, .int (((nI i0) * (nI C)) + (nI i1))]) (rest := []) ⟨hx, hb, hml, hown, hts⟩ (c_X4_holds l D fi (((nI i0) * (nI C)) + (nI i1)) H.size ) ⟨va_cnB 2 hts (gi_sub q_713) rfl rfl rfl (hN.1 _ n_711) (hts _ q_80) (by decide +kernel) ⟨Nat.le_of_ble_eq_true rfl, Nat.le_of_ble_eq_true rfl⟩, (hts _ q_712), trivial⟩ ⟨cPre_blind, cPre_mk hPc hK hDc hN (lwZ_for hZ hS hFc)⟩ rfl rfl hl.1 rfl (lv_room (Nat.le_of_ble_eq_true rfl)) dX3_findLive_73 ⟨(Nat.le_of_ble_eq_true rfl), (Nat.le_of_ble_eq_true rfl)⟩) hS (fun q h1 h2 => absurd h2 (Nat.not_le.mpr h1)) (fun q h => hA q (Nat.le_trans hS.1 h)) (fun r_73 u t H1 locs ht hvm hw hBk hz1 hk1 hS => ?_)
                    have hP := va_P_ro hP hk1
                    obtain ⟨hw, z_15⟩ := hw
                    rw [hw] at z_15
                    subst hw
                    clear hBk hvm ht u hz1 hk1
                    clear hPc hDc hFc; clear t
                    generalize H1 = H at hP hS ⊢
                    refine lv_if_eq (tgt := 96) hx hb dX3_findLive_76 (by decide) (fun c_16 => ?_) (fun c_16 => ?_)
                    · refine lv_iinc (v := nI (i1 + 1)) (lv' := [(2, .int (nI (i1 + 1))), (4, .int 1), (3, .int (((nI i0) * (nI C)) + (nI i1))), (0, .ref hW), (1, .int (nI i0))]) hx hb dX3_findLive_96 hl (k := 4) rfl (nI_1 _) (by decide) rfl (fun ls hl => ?_)
                      refine lv_goto (tgt := 17) hx hb dX3_findLive_99 (by decide) ?_
                      have hE : S_X3_findLive_17 R C fi br i0 i1 a1 = a1 := (by unfold S_X3_findLive_17; rw [if_pos c_6, if_neg c_11, if_pos c_16])
                      have hl : lv_has ls 5 [(0, .ref hW), (1, .int (nI i0)), (2, .int (nI (i1 + 1)))] := lv_sub hl [3, 4, 0] rfl
                      have hP := hP.sub (ws' := [(hW, .inr (10, [.int (nI R), .int (nI C), .int (nI K), .int fi, .int di, .int br, .int a1]))]) [0] rfl
                      have hD := hD.sub (ws' := [(hW, .inr (10, [.int (nI R), .int (nI C), .int (nI K), .int fi, .int di, .int br, .int a1]))]) [0] (by decide) rfl
                      exact ih1 (i1 + 1) (by omega) (S_X3_findLive_17 R C fi br i0 i1 a1) H locs ls (by (try rw [hE]); exact hP) (by (try rw [hE]); exact hD) hS (by (try rw [hE]); exact hl) kon
                    · refine lv_iload hx hb dX3_findLive_79 (lv_at hl 0 rfl) ?_
                      refine lv_if_ne (tgt := 96) hx hb dX3_findLive_81 (by decide) (fun c_17 => ?_) (fun c_17 => ?_)
                      · refine lv_iinc (v := nI (i1 + 1)) (lv' := [(2, .int (nI (i1 + 1))), (4, .int 1), (3, .int (((nI i0) * (nI C)) + (nI i1))), (0, .ref hW), (1, .int (nI i0))]) hx hb dX3_findLive_96 hl (k := 4) rfl (nI_1 _) (by decide) rfl (fun ls hl => ?_)
                        refine lv_goto (tgt := 17) hx hb dX3_findLive_99 (by decide) ?_
                        have hE : S_X3_findLive_17 R C fi br i0 i1 a1 = a1 := (by unfold S_X3_findLive_17; rw [if_pos c_6, if_neg c_11, if_neg c_16])
                        have hl : lv_has ls 5 [(0, .ref hW), (1, .int (nI i0)), (2, .int (nI (i1 + 1)))] := lv_sub hl [3, 4, 0] rfl
                        have hP := hP.sub (ws' := [(hW, .inr (10, [.int (nI R), .int (nI C), .int (nI K), .int fi, .int di, .int br, .int a1]))]) [0] rfl
                        have hD := hD.sub (ws' := [(hW, .inr (10, [.int (nI R), .int (nI C), .int (nI K), .int fi, .int di, .int br, .int a1]))]) [0] (by decide) rfl
                        exact ih1 (i1 + 1) (by omega) (S_X3_findLive_17 R C fi br i0 i1 a1) H locs ls (by (try rw [hE]); exact hP) (by (try rw [hE]); exact hD) hS (by (try rw [hE]); exact hl) kon
                      · exact absurd c_17 (by decide)
          have hl : lv_has ls 5 [(0, .ref hW), (1, .int (nI i0)), (2, .int (nI 0))] := lv_sub hl [1, 2, 0] rfl
          refine lp_17 C 0 (by omega) a0 H locs ls hP hD hS hl ?_
          clear lp_17 hP hD hS hl
          intro H locs ls hP hD hS hl
          refine lv_iinc (v := nI (i0 + 1)) (lv' := [(1, .int (nI (i0 + 1))), (0, .ref hW), (2, .int (nI C))]) hx hb dX3_findLive_102 hl (k := 1) rfl (nI_1 _) (by decide) rfl (fun ls hl => ?_)
          refine lv_goto (tgt := 7) hx hb dX3_findLive_105 (by decide) ?_
          have hE : S_X3_findLive_7 R C fi br i0 a0 = (itr (fun i a => S_X3_findLive_17 R C fi br i0 i a) C 0 a0) := (by rfl)
          have hl : lv_has ls 5 [(0, .ref hW), (1, .int (nI (i0 + 1)))] := lv_sub hl [1, 0] rfl
          have hP := hP.sub (ws' := [(hW, .inr (10, [.int (nI R), .int (nI C), .int (nI K), .int fi, .int di, .int br, .int (itr (fun i a => S_X3_findLive_17 R C fi br i0 i a) C 0 a0)]))]) [0] rfl
          have hD := hD.sub (ws' := [(hW, .inr (10, [.int (nI R), .int (nI C), .int (nI K), .int fi, .int di, .int br, .int (itr (fun i a => S_X3_findLive_17 R C fi br i0 i a) C 0 a0)]))]) [0] (by decide) rfl
          exact ih0 (i0 + 1) (by omega) (S_X3_findLive_7 R C fi br i0 a0) H locs ls (by (try rw [hE]); exact hP) (by (try rw [hE]); exact hD) hS (by (try rw [hE]); exact hl) kon
    have hl : lv_has ls 5 [(0, .ref hW), (1, .int (nI 0))] := lv_sub hl [1, 0] rfl
    refine lp_7 R 0 (by omega) 0 H locs ls hP hD hS hl ?_
    clear lp_7 hP hD hS hl
    intro H locs ls hP hD hS hl
    subst hQe
    subst hAe
    have hE : (F_X3_findLive R C fi br) = (itr (fun i a => S_X3_findLive_7 R C fi br i a) R 0 0) := (by rfl)
    have hP9 := hP.sub (ws' := [(hW, .inr (10, [.int (nI R), .int (nI C), .int (nI K), .int fi, .int di, .int br, .int (itr (fun i a => S_X3_findLive_7 R C fi br i a) R 0 0)]))]) [0] rfl
    have hD9 := hD.sub (ws' := [(hW, .inr (10, [.int (nI R), .int (nI C), .int (nI K), .int fi, .int di, .int br, .int (itr (fun i a => S_X3_findLive_7 R C fi br i a) R 0 0)]))]) [0] (by decide) rfl
    exact W.vret hx hb hr (fun t ht hW => ⟨⟨(), rfl, trivial, (by (try rw [hE]); rw [ht]; exact hP9), (by (try rw [hE]); exact hD9)⟩, hS.F ht⟩) hS.2.2 dX3_findLive_108
  rw [hHe, hLe] at hgoal
  exact hgoal

def T_X3_fit_3 (x1 : Int32) : Int32 := (1 : Int32) <<< (x1 &&& 31)
def F_X3_fit (R : Nat) (C : Nat) (fi : Int32) (di : Int32) (br : Int32) (x1 : Int32) (x2 : Int32) (x3 : Int32) : Int32 × Int32 × Int32 := (if x2 = 0 then (if x3 = 0 then (fi &&& ((T_X3_fit_3 x1) ^^^ (-1)), di &&& ((T_X3_fit_3 x1) ^^^ (-1)), F_X3_findLive R C (fi &&& ((T_X3_fit_3 x1) ^^^ (-1))) br) else (fi &&& ((T_X3_fit_3 x1) ^^^ (-1)), di ||| (T_X3_fit_3 x1), F_X3_findLive R C (fi &&& ((T_X3_fit_3 x1) ^^^ (-1))) br)) else (if x3 = 0 then (fi ||| (T_X3_fit_3 x1), di &&& ((T_X3_fit_3 x1) ^^^ (-1)), F_X3_findLive R C (fi ||| (T_X3_fit_3 x1)) br) else (fi ||| (T_X3_fit_3 x1), di ||| (T_X3_fit_3 x1), F_X3_findLive R C (fi ||| (T_X3_fit_3 x1)) br)))
set_option maxHeartbeats 4000000 in
set_option maxRecDepth 100000 in
theorem c_X3_fit (l : Launch) (D : va_G) (hW : Nat) (R : Nat) (C : Nat) (K : Nat) (fi : Int32) (di : Int32) (br : Int32) (li : Int32) (x1 : Int32) (x2 : Int32) (x3 : Int32) (sz : Nat) (hR : R ≤ 5) (hC : C ≤ 5) : Met l yX3_fit (Cond.code yX3_fit cX3_fit 5 none :: lwAll) ({ frames := 2, cells := 0, slots := 0, locals := 45 } : Room) (va_Pc [.ref hW, .int x1, .int x2, .int x3] (cPre D (lwTY D) [(hW, .inr (10, [.int (nI R), .int (nI C), .int (nI K), .int fi, .int di, .int br, .int li]))] sz)) (va_Qv (fun (_ : Unit) => True) (fun (_ : Unit) t => va_P D vwCl [(hW, .inr (10, [.int (nI R), .int (nI C), .int (nI K), .int ((F_X3_fit R C fi di br x1 x2 x3).1), .int ((F_X3_fit R C fi di br x1 x2 x3).2.1), .int br, .int ((F_X3_fit R C fi di br x1 x2 x3).2.2)]))] t.heap ∧ va_D (va_A [(hW, .inr (10, [.int (nI R), .int (nI C), .int (nI K), .int fi, .int di, .int br, .int li]))] sz) [(hW, .inr (10, [.int (nI R), .int (nI C), .int (nI K), .int ((F_X3_fit R C fi di br x1 x2 x3).1), .int ((F_X3_fit R C fi di br x1 x2 x3).2.1), .int br, .int ((F_X3_fit R C fi di br x1 x2 x3).2.2)]))]) (va_A [(hW, .inr (10, [.int (nI R), .int (nI C), .int (nI K), .int fi, .int di, .int br, .int li]))] sz)) 0 0 (va_A [(hW, .inr (10, [.int (nI R), .int (nI C), .int (nI K), .int fi, .int di, .int br, .int li]))] sz) := by
  refine Met.ofW (cc := cX3_fit) (maxL := 5) (ret := none) (by decide) rfl ?_
  intro p e s m args below meth c s₁ B hml hv
  obtain ⟨rfl, hsz, hP, hK, hD0, hN, hZ⟩ := hv
  have hx := B.exec
  have hb := B.bytes
  have hr := B.returns
  have hts : ∀ wd ∈ lwAll, wd.before ([.ref hW, .int x1, .int x2, .int x3] : List Value).toArray s = true := fun wd h => atoms_spec (ws := (Cond.code yX3_fit cX3_fit 5 none :: lwAll)) B.pre wd (List.mem_cons_of_mem _ h)
  have hown : s.vm.findClass RX3 = some m.cls := findClass_of_methodNamed B.named
  have hlocks := B.notSynchronized
  subst hsz
  have hD := hD0.self (sz := s.heap.size)
  have hl := lv_entry ([.ref hW, .int x1, .int x2, .int x3]) (n := 5) (Nat.le_of_ble_eq_true rfl)
  rw [lg_entry_eq]
  generalize (lg_sl ([.ref hW, .int x1, .int x2, .int x3]) ++ List.replicate (5 - (lg_sl ([.ref hW, .int x1, .int x2, .int x3])).length) Slot.unset).toArray = ls at hl ⊢
  have hl : lv_has ls 5 [(0, .ref hW), (1, .int x1), (2, .int x2), (3, .int x3)] := hl
  have hS : va_S (va_A [(hW, .inr (10, [.int (nI R), .int (nI C), .int (nI K), .int fi, .int di, .int br, .int li]))] s.heap.size) s.heap s.heap [] := va_S.rf
  generalize hQe : MQ below (va_Qv (fun (_ : Unit) => True) (fun (_ : Unit) t => va_P D vwCl [(hW, .inr (10, [.int (nI R), .int (nI C), .int (nI K), .int ((F_X3_fit R C fi di br x1 x2 x3).1), .int ((F_X3_fit R C fi di br x1 x2 x3).2.1), .int br, .int ((F_X3_fit R C fi di br x1 x2 x3).2.2)]))] t.heap ∧ va_D (va_A [(hW, .inr (10, [.int (nI R), .int (nI C), .int (nI K), .int fi, .int di, .int br, .int li]))] s.heap.size) [(hW, .inr (10, [.int (nI R), .int (nI C), .int (nI K), .int ((F_X3_fit R C fi di br x1 x2 x3).1), .int ((F_X3_fit R C fi di br x1 x2 x3).2.1), .int br, .int ((F_X3_fit R C fi di br x1 x2 x3).2.2)]))]) (va_A [(hW, .inr (10, [.int (nI R), .int (nI C), .int (nI K), .int fi, .int di, .int br, .int li]))] s.heap.size)) ([.ref hW, .int x1, .int x2, .int x3] : List Value).toArray s 0 0 (va_A [(hW, .inr (10, [.int (nI R), .int (nI C), .int (nI K), .int fi, .int di, .int br, .int li]))] s.heap.size) = Q
  have hP : va_P D vwCl [(hW, .inr (10, [.int (nI R), .int (nI C), .int (nI K), .int fi, .int di, .int br, .int li]))] s.heap := hP
  obtain ⟨A, hAe⟩ : ∃ A, A = va_A [(hW, .inr (10, [.int (nI R), .int (nI C), .int (nI K), .int fi, .int di, .int br, .int li]))] s.heap.size := ⟨_, rfl⟩
  rw [← hAe] at hD hZ hS
  have hA : ∀ q : Nat, s.heap.size ≤ q → A q := fun q h => by rw [hAe]; exact Or.inr h
  obtain ⟨H, hHe⟩ : ∃ H, H = s.heap := ⟨_, rfl⟩
  obtain ⟨locs, hLe⟩ : ∃ L : List Loc, L = [] := ⟨_, rfl⟩
  have hP : va_P D vwCl [(hW, .inr (10, [.int (nI R), .int (nI C), .int (nI K), .int fi, .int di, .int br, .int li]))] H := by rw [hHe]; exact hP
  have hS : va_S A s.heap H locs := by rw [hHe, hLe]; exact hS
  have hgoal : W p l e ({ frames := 2, cells := 0, slots := 0, locals := 45 } : Room) s m ([.ref hW, .int x1, .int x2, .int x3] : List Value).toArray below meth c H locs 0 0 Q (F0 m 0 ls []) := by
    clear hHe hLe
    refine lv_iconst (v := 1) hx hb dX3_fit_0 (by decide) ?_
    refine lv_iload_n hx hb dX3_fit_1 rfl (lv_at hl 1 rfl) ?_
    refine lv_ishl hx hb dX3_fit_2 ?_
    refine lv_istore (lv' := [(4, .int ((1 : Int32) <<< (x1 &&& 31))), (0, .ref hW), (1, .int x1), (2, .int x2), (3, .int x3)]) hx hb dX3_fit_3 hl (by decide) rfl (fun ls hl => ?_)
    have hl : lv_has ls 5 [(4, .int (T_X3_fit_3 x1)), (0, .ref hW), (1, .int x1), (2, .int x2), (3, .int x3)] := hl
    refine lv_aload_n hx hb dX3_fit_5 rfl (lv_at hl 1 rfl) ?_
    refine lv_iload_n hx hb dX3_fit_6 rfl (lv_at hl 3 rfl) ?_
    refine lv_if_eq (tgt := 20) hx hb dX3_fit_7 (by decide) (fun c_1 => ?_) (fun c_1 => ?_)
    · refine lv_aload_n hx hb dX3_fit_20 rfl (lv_at hl 1 rfl) ?_
      refine va_get (D := D) (ci := 10) (v := .int fi) (C := RX3) (T := TX3) (N := 7) hx hb hts in_X3 hown hK hP 0 rfl rfl 3 (by decide) (hts _ q_134) (fun _ h9 => h9) rfl dX3_fit_21 ?_
      refine lv_iload hx hb dX3_fit_24 (lv_at hl 0 rfl) ?_
      refine lv_iconst (v := (-1)) hx hb dX3_fit_26 (by decide) ?_
      refine lv_ixor hx hb dX3_fit_27 ?_
      refine lv_iand hx hb dX3_fit_28 ?_
      refine va_put (D := D) (ci := 10) (v := .int (fi &&& ((T_X3_fit_3 x1) ^^^ (-1)))) (ty := .int) (C := RX3) (T := TX3) (N := 7) hx hb hts in_X3 tyX3 tyX3_ok nmX3 hown hK hP hD hS 0 rfl rfl 3 (by decide) (hts _ q_134) (fun _ h9 => h9) rfl (by decide +kernel) rfl rfl (Nat.le_of_ble_eq_true rfl) dX3_fit_29 (fun H locs hP hD hS => ?_)
      have hP : va_P D vwCl [(hW, .inr (10, [.int (nI R), .int (nI C), .int (nI K), .int (fi &&& ((T_X3_fit_3 x1) ^^^ (-1))), .int di, .int br, .int li]))] H := hP
      have hD : va_D A [(hW, .inr (10, [.int (nI R), .int (nI C), .int (nI K), .int (fi &&& ((T_X3_fit_3 x1) ^^^ (-1))), .int di, .int br, .int li]))] := hD
      refine lv_aload_n hx hb dX3_fit_32 rfl (lv_at hl 1 rfl) ?_
      refine lv_iload_n hx hb dX3_fit_33 rfl (lv_at hl 4 rfl) ?_
      refine lv_if_eq (tgt := 47) hx hb dX3_fit_34 (by decide) (fun c_2 => ?_) (fun c_2 => ?_)
      · refine lv_aload_n hx hb dX3_fit_47 rfl (lv_at hl 1 rfl) ?_
        refine va_get (D := D) (ci := 10) (v := .int di) (C := RX3) (T := TX3) (N := 7) hx hb hts in_X3 hown hK hP 0 rfl rfl 4 (by decide) (hts _ q_136) (fun _ h9 => h9) rfl dX3_fit_48 ?_
        refine lv_iload hx hb dX3_fit_51 (lv_at hl 0 rfl) ?_
        refine lv_iconst (v := (-1)) hx hb dX3_fit_53 (by decide) ?_
        refine lv_ixor hx hb dX3_fit_54 ?_
        refine lv_iand hx hb dX3_fit_55 ?_
        refine va_put (D := D) (ci := 10) (v := .int (di &&& ((T_X3_fit_3 x1) ^^^ (-1)))) (ty := .int) (C := RX3) (T := TX3) (N := 7) hx hb hts in_X3 tyX3 tyX3_ok nmX3 hown hK hP hD hS 0 rfl rfl 4 (by decide) (hts _ q_136) (fun _ h9 => h9) rfl (by decide +kernel) rfl rfl (Nat.le_of_ble_eq_true rfl) dX3_fit_56 (fun H locs hP hD hS => ?_)
        have hP : va_P D vwCl [(hW, .inr (10, [.int (nI R), .int (nI C), .int (nI K), .int (fi &&& ((T_X3_fit_3 x1) ^^^ (-1))), .int (di &&& ((T_X3_fit_3 x1) ^^^ (-1))), .int br, .int li]))] H := hP
        have hD : va_D A [(hW, .inr (10, [.int (nI R), .int (nI C), .int (nI K), .int (fi &&& ((T_X3_fit_3 x1) ^^^ (-1))), .int (di &&& ((T_X3_fit_3 x1) ^^^ (-1))), .int br, .int li]))] := hD
        refine lv_aload_n hx hb dX3_fit_59 rfl (lv_at hl 1 rfl) ?_
        have hPc := hP.sub (ws' := [(hW, .inr (10, [.int (nI R), .int (nI C), .int (nI K), .int (fi &&& ((T_X3_fit_3 x1) ^^^ (-1))), .int (di &&& ((T_X3_fit_3 x1) ^^^ (-1))), .int br, .int li]))]) [0] rfl
        have hDc := hD.sub (ws' := [(hW, .inr (10, [.int (nI R), .int (nI C), .int (nI K), .int (fi &&& ((T_X3_fit_3 x1) ^^^ (-1))), .int (di &&& ((T_X3_fit_3 x1) ^^^ (-1))), .int br, .int li]))]) [0] (by decide) rfl
        have hFc := va_free (wc := [(hW, .inr (10, [.int (nI R), .int (nI C), .int (nI K), .int (fi &&& ((T_X3_fit_3 x1) ^^^ (-1))), .int (di &&& ((T_X3_fit_3 x1) ^^^ (-1))), .int br, .int li]))]) hD hS hA [0] rfl
        refine va_callv (va_runV (As := []) (rest := []) ⟨hx, hb, hml, hown, hts⟩ (c_X3_findLive l D hW R C K (fi &&& ((T_X3_fit_3 x1) ^^^ (-1))) (di &&& ((T_X3_fit_3 x1) ^^^ (-1))) br li H.size (show R ≤ 5 from hR) (show C ≤ 5 from hC)) (cwV 0 hts (gi_V q_896 q_898 q_30 q_81 q_899) rfl rfl rfl (by decide +kernel) ⟨Nat.le_of_ble_eq_true rfl, Nat.le_of_ble_eq_true rfl⟩) ⟨cPre_blind, va_recv hK hP (ci := 10) (q0 := 0) rfl rfl, cPre_mk hPc hK hDc hN (lwZ_for hZ hS hFc)⟩ rfl rfl hl.1 rfl (lv_room (Nat.le_of_ble_eq_true rfl)) dX3_fit_60 ⟨(Nat.le_of_ble_eq_true rfl), (Nat.le_of_ble_eq_true rfl)⟩) hS (fun q _ h => hFc q h) hFc (fun u t H1 locs ht hvm hw hBk hz1 hk1 hS => ?_)
        obtain ⟨hP1, hD1⟩ := hBk
        rw [ht] at hP1
        obtain ⟨hP, hD⟩ := va_join (wr := []) (w1 := [(hW, .inr (10, [.int (nI R), .int (nI C), .int (nI K), .int (fi &&& ((T_X3_fit_3 x1) ^^^ (-1))), .int (di &&& ((T_X3_fit_3 x1) ^^^ (-1))), .int br, .int (F_X3_findLive R C (fi &&& ((T_X3_fit_3 x1) ^^^ (-1))) br)]))]) hP hD [0] [] rfl rfl (by decide) (by decide) hk1 hFc hP1 hD1
        clear hPc hDc hFc hP1 hD1 hk1 hz1
        clear hvm ht u; clear t
        generalize H1 = H at hP hS ⊢
        have hP : va_P D vwCl [(hW, .inr (10, [.int (nI R), .int (nI C), .int (nI K), .int (fi &&& ((T_X3_fit_3 x1) ^^^ (-1))), .int (di &&& ((T_X3_fit_3 x1) ^^^ (-1))), .int br, .int (F_X3_findLive R C (fi &&& ((T_X3_fit_3 x1) ^^^ (-1))) br)]))] H := hP
        have hD : va_D A [(hW, .inr (10, [.int (nI R), .int (nI C), .int (nI K), .int (fi &&& ((T_X3_fit_3 x1) ^^^ (-1))), .int (di &&& ((T_X3_fit_3 x1) ^^^ (-1))), .int br, .int (F_X3_findLive R C (fi &&& ((T_X3_fit_3 x1) ^^^ (-1))) br)]))] := hD
        subst hQe
        subst hAe
        have hE : (F_X3_fit R C fi di br x1 x2 x3) = (fi &&& ((T_X3_fit_3 x1) ^^^ (-1)), di &&& ((T_X3_fit_3 x1) ^^^ (-1)), F_X3_findLive R C (fi &&& ((T_X3_fit_3 x1) ^^^ (-1))) br) := (by unfold F_X3_fit; rw [if_pos c_1, if_pos c_2])
        have hP9 := hP.sub (ws' := [(hW, .inr (10, [.int (nI R), .int (nI C), .int (nI K), .int (fi &&& ((T_X3_fit_3 x1) ^^^ (-1))), .int (di &&& ((T_X3_fit_3 x1) ^^^ (-1))), .int br, .int (F_X3_findLive R C (fi &&& ((T_X3_fit_3 x1) ^^^ (-1))) br)]))]) [0] rfl
        have hD9 := hD.sub (ws' := [(hW, .inr (10, [.int (nI R), .int (nI C), .int (nI K), .int (fi &&& ((T_X3_fit_3 x1) ^^^ (-1))), .int (di &&& ((T_X3_fit_3 x1) ^^^ (-1))), .int br, .int (F_X3_findLive R C (fi &&& ((T_X3_fit_3 x1) ^^^ (-1))) br)]))]) [0] (by decide) rfl
        exact W.vret hx hb hr (fun t ht hW => ⟨⟨(), rfl, trivial, (by (try rw [hE]); rw [ht]; exact hP9), (by (try rw [hE]); exact hD9)⟩, hS.F ht⟩) hS.2.2 dX3_fit_63
      · refine lv_aload_n hx hb dX3_fit_37 rfl (lv_at hl 1 rfl) ?_
        refine va_get (D := D) (ci := 10) (v := .int di) (C := RX3) (T := TX3) (N := 7) hx hb hts in_X3 hown hK hP 0 rfl rfl 4 (by decide) (hts _ q_136) (fun _ h9 => h9) rfl dX3_fit_38 ?_
        refine lv_iload hx hb dX3_fit_41 (lv_at hl 0 rfl) ?_
        refine lv_ior hx hb dX3_fit_43 ?_
        refine lv_goto (tgt := 56) hx hb dX3_fit_44 (by decide) ?_
        refine va_put (D := D) (ci := 10) (v := .int (di ||| (T_X3_fit_3 x1))) (ty := .int) (C := RX3) (T := TX3) (N := 7) hx hb hts in_X3 tyX3 tyX3_ok nmX3 hown hK hP hD hS 0 rfl rfl 4 (by decide) (hts _ q_136) (fun _ h9 => h9) rfl (by decide +kernel) rfl rfl (Nat.le_of_ble_eq_true rfl) dX3_fit_56 (fun H locs hP hD hS => ?_)
        have hP : va_P D vwCl [(hW, .inr (10, [.int (nI R), .int (nI C), .int (nI K), .int (fi &&& ((T_X3_fit_3 x1) ^^^ (-1))), .int (di ||| (T_X3_fit_3 x1)), .int br, .int li]))] H := hP
        have hD : va_D A [(hW, .inr (10, [.int (nI R), .int (nI C), .int (nI K), .int (fi &&& ((T_X3_fit_3 x1) ^^^ (-1))), .int (di ||| (T_X3_fit_3 x1)), .int br, .int li]))] := hD
        refine lv_aload_n hx hb dX3_fit_59 rfl (lv_at hl 1 rfl) ?_
        have hPc := hP.sub (ws' := [(hW, .inr (10, [.int (nI R), .int (nI C), .int (nI K), .int (fi &&& ((T_X3_fit_3 x1) ^^^ (-1))), .int (di ||| (T_X3_fit_3 x1)), .int br, .int li]))]) [0] rfl
        have hDc := hD.sub (ws' := [(hW, .inr (10, [.int (nI R), .int (nI C), .int (nI K), .int (fi &&& ((T_X3_fit_3 x1) ^^^ (-1))), .int (di ||| (T_X3_fit_3 x1)), .int br, .int li]))]) [0] (by decide) rfl
        have hFc := va_free (wc := [(hW, .inr (10, [.int (nI R), .int (nI C), .int (nI K), .int (fi &&& ((T_X3_fit_3 x1) ^^^ (-1))), .int (di ||| (T_X3_fit_3 x1)), .int br, .int li]))]) hD hS hA [0] rfl
        refine va_callv (va_runV (As := []) (rest := []) ⟨hx, hb, hml, hown, hts⟩ (c_X3_findLive l D hW R C K (fi &&& ((T_X3_fit_3 x1) ^^^ (-1))) (di ||| (T_X3_fit_3 x1)) br li H.size (show R ≤ 5 from hR) (show C ≤ 5 from hC)) (cwV 0 hts (gi_V q_896 q_898 q_30 q_81 q_899) rfl rfl rfl (by decide +kernel) ⟨Nat.le_of_ble_eq_true rfl, Nat.le_of_ble_eq_true rfl⟩) ⟨cPre_blind, va_recv hK hP (ci := 10) (q0 := 0) rfl rfl, cPre_mk hPc hK hDc hN (lwZ_for hZ hS hFc)⟩ rfl rfl hl.1 rfl (lv_room (Nat.le_of_ble_eq_true rfl)) dX3_fit_60 ⟨(Nat.le_of_ble_eq_true rfl), (Nat.le_of_ble_eq_true rfl)⟩) hS (fun q _ h => hFc q h) hFc (fun u t H1 locs ht hvm hw hBk hz1 hk1 hS => ?_)
        obtain ⟨hP1, hD1⟩ := hBk
        rw [ht] at hP1
        obtain ⟨hP, hD⟩ := va_join (wr := []) (w1 := [(hW, .inr (10, [.int (nI R), .int (nI C), .int (nI K), .int (fi &&& ((T_X3_fit_3 x1) ^^^ (-1))), .int (di ||| (T_X3_fit_3 x1)), .int br, .int (F_X3_findLive R C (fi &&& ((T_X3_fit_3 x1) ^^^ (-1))) br)]))]) hP hD [0] [] rfl rfl (by decide) (by decide) hk1 hFc hP1 hD1
        clear hPc hDc hFc hP1 hD1 hk1 hz1
        clear hvm ht u; clear t
        generalize H1 = H at hP hS ⊢
        have hP : va_P D vwCl [(hW, .inr (10, [.int (nI R), .int (nI C), .int (nI K), .int (fi &&& ((T_X3_fit_3 x1) ^^^ (-1))), .int (di ||| (T_X3_fit_3 x1)), .int br, .int (F_X3_findLive R C (fi &&& ((T_X3_fit_3 x1) ^^^ (-1))) br)]))] H := hP
        have hD : va_D A [(hW, .inr (10, [.int (nI R), .int (nI C), .int (nI K), .int (fi &&& ((T_X3_fit_3 x1) ^^^ (-1))), .int (di ||| (T_X3_fit_3 x1)), .int br, .int (F_X3_findLive R C (fi &&& ((T_X3_fit_3 x1) ^^^ (-1))) br)]))] := hD
        subst hQe
        subst hAe
        have hE : (F_X3_fit R C fi di br x1 x2 x3) = (fi &&& ((T_X3_fit_3 x1) ^^^ (-1)), di ||| (T_X3_fit_3 x1), F_X3_findLive R C (fi &&& ((T_X3_fit_3 x1) ^^^ (-1))) br) := (by unfold F_X3_fit; rw [if_pos c_1, if_neg c_2])
        have hP9 := hP.sub (ws' := [(hW, .inr (10, [.int (nI R), .int (nI C), .int (nI K), .int (fi &&& ((T_X3_fit_3 x1) ^^^ (-1))), .int (di ||| (T_X3_fit_3 x1)), .int br, .int (F_X3_findLive R C (fi &&& ((T_X3_fit_3 x1) ^^^ (-1))) br)]))]) [0] rfl
        have hD9 := hD.sub (ws' := [(hW, .inr (10, [.int (nI R), .int (nI C), .int (nI K), .int (fi &&& ((T_X3_fit_3 x1) ^^^ (-1))), .int (di ||| (T_X3_fit_3 x1)), .int br, .int (F_X3_findLive R C (fi &&& ((T_X3_fit_3 x1) ^^^ (-1))) br)]))]) [0] (by decide) rfl
        exact W.vret hx hb hr (fun t ht hW => ⟨⟨(), rfl, trivial, (by (try rw [hE]); rw [ht]; exact hP9), (by (try rw [hE]); exact hD9)⟩, hS.F ht⟩) hS.2.2 dX3_fit_63
    · refine lv_aload_n hx hb dX3_fit_10 rfl (lv_at hl 1 rfl) ?_
      refine va_get (D := D) (ci := 10) (v := .int fi) (C := RX3) (T := TX3) (N := 7) hx hb hts in_X3 hown hK hP 0 rfl rfl 3 (by decide) (hts _ q_134) (fun _ h9 => h9) rfl dX3_fit_11 ?_
      refine lv_iload hx hb dX3_fit_14 (lv_at hl 0 rfl) ?_
      refine lv_ior hx hb dX3_fit_16 ?_
      refine lv_goto (tgt := 29) hx hb dX3_fit_17 (by decide) ?_
      refine va_put (D := D) (ci := 10) (v := .int (fi ||| (T_X3_fit_3 x1))) (ty := .int) (C := RX3) (T := TX3) (N := 7) hx hb hts in_X3 tyX3 tyX3_ok nmX3 hown hK hP hD hS 0 rfl rfl 3 (by decide) (hts _ q_134) (fun _ h9 => h9) rfl (by decide +kernel) rfl rfl (Nat.le_of_ble_eq_true rfl) dX3_fit_29 (fun H locs hP hD hS => ?_)
      have hP : va_P D vwCl [(hW, .inr (10, [.int (nI R), .int (nI C), .int (nI K), .int (fi ||| (T_X3_fit_3 x1)), .int di, .int br, .int li]))] H := hP
      have hD : va_D A [(hW, .inr (10, [.int (nI R), .int (nI C), .int (nI K), .int (fi ||| (T_X3_fit_3 x1)), .int di, .int br, .int li]))] := hD
      refine lv_aload_n hx hb dX3_fit_32 rfl (lv_at hl 1 rfl) ?_
      refine lv_iload_n hx hb dX3_fit_33 rfl (lv_at hl 4 rfl) ?_
      refine lv_if_eq (tgt := 47) hx hb dX3_fit_34 (by decide) (fun c_3 => ?_) (fun c_3 => ?_)
      · refine lv_aload_n hx hb dX3_fit_47 rfl (lv_at hl 1 rfl) ?_
        refine va_get (D := D) (ci := 10) (v := .int di) (C := RX3) (T := TX3) (N := 7) hx hb hts in_X3 hown hK hP 0 rfl rfl 4 (by decide) (hts _ q_136) (fun _ h9 => h9) rfl dX3_fit_48 ?_
        refine lv_iload hx hb dX3_fit_51 (lv_at hl 0 rfl) ?_
        refine lv_iconst (v := (-1)) hx hb dX3_fit_53 (by decide) ?_
        refine lv_ixor hx hb dX3_fit_54 ?_
        refine lv_iand hx hb dX3_fit_55 ?_
        refine va_put (D := D) (ci := 10) (v := .int (di &&& ((T_X3_fit_3 x1) ^^^ (-1)))) (ty := .int) (C := RX3) (T := TX3) (N := 7) hx hb hts in_X3 tyX3 tyX3_ok nmX3 hown hK hP hD hS 0 rfl rfl 4 (by decide) (hts _ q_136) (fun _ h9 => h9) rfl (by decide +kernel) rfl rfl (Nat.le_of_ble_eq_true rfl) dX3_fit_56 (fun H locs hP hD hS => ?_)
        have hP : va_P D vwCl [(hW, .inr (10, [.int (nI R), .int (nI C), .int (nI K), .int (fi ||| (T_X3_fit_3 x1)), .int (di &&& ((T_X3_fit_3 x1) ^^^ (-1))), .int br, .int li]))] H := hP
        have hD : va_D A [(hW, .inr (10, [.int (nI R), .int (nI C), .int (nI K), .int (fi ||| (T_X3_fit_3 x1)), .int (di &&& ((T_X3_fit_3 x1) ^^^ (-1))), .int br, .int li]))] := hD
        refine lv_aload_n hx hb dX3_fit_59 rfl (lv_at hl 1 rfl) ?_
        have hPc := hP.sub (ws' := [(hW, .inr (10, [.int (nI R), .int (nI C), .int (nI K), .int (fi ||| (T_X3_fit_3 x1)), .int (di &&& ((T_X3_fit_3 x1) ^^^ (-1))), .int br, .int li]))]) [0] rfl
        have hDc := hD.sub (ws' := [(hW, .inr (10, [.int (nI R), .int (nI C), .int (nI K), .int (fi ||| (T_X3_fit_3 x1)), .int (di &&& ((T_X3_fit_3 x1) ^^^ (-1))), .int br, .int li]))]) [0] (by decide) rfl
        have hFc := va_free (wc := [(hW, .inr (10, [.int (nI R), .int (nI C), .int (nI K), .int (fi ||| (T_X3_fit_3 x1)), .int (di &&& ((T_X3_fit_3 x1) ^^^ (-1))), .int br, .int li]))]) hD hS hA [0] rfl
        refine va_callv (va_runV (As := []) (rest := []) ⟨hx, hb, hml, hown, hts⟩ (c_X3_findLive l D hW R C K (fi ||| (T_X3_fit_3 x1)) (di &&& ((T_X3_fit_3 x1) ^^^ (-1))) br li H.size (show R ≤ 5 from hR) (show C ≤ 5 from hC)) (cwV 0 hts (gi_V q_896 q_898 q_30 q_81 q_899) rfl rfl rfl (by decide +kernel) ⟨Nat.le_of_ble_eq_true rfl, Nat.le_of_ble_eq_true rfl⟩) ⟨cPre_blind, va_recv hK hP (ci := 10) (q0 := 0) rfl rfl, cPre_mk hPc hK hDc hN (lwZ_for hZ hS hFc)⟩ rfl rfl hl.1 rfl (lv_room (Nat.le_of_ble_eq_true rfl)) dX3_fit_60 ⟨(Nat.le_of_ble_eq_true rfl), (Nat.le_of_ble_eq_true rfl)⟩) hS (fun q _ h => hFc q h) hFc (fun u t H1 locs ht hvm hw hBk hz1 hk1 hS => ?_)
        obtain ⟨hP1, hD1⟩ := hBk
        rw [ht] at hP1
        obtain ⟨hP, hD⟩ := va_join (wr := []) (w1 := [(hW, .inr (10, [.int (nI R), .int (nI C), .int (nI K), .int (fi ||| (T_X3_fit_3 x1)), .int (di &&& ((T_X3_fit_3 x1) ^^^ (-1))), .int br, .int (F_X3_findLive R C (fi ||| (T_X3_fit_3 x1)) br)]))]) hP hD [0] [] rfl rfl (by decide) (by decide) hk1 hFc hP1 hD1
        clear hPc hDc hFc hP1 hD1 hk1 hz1
        clear hvm ht u; clear t
        generalize H1 = H at hP hS ⊢
        have hP : va_P D vwCl [(hW, .inr (10, [.int (nI R), .int (nI C), .int (nI K), .int (fi ||| (T_X3_fit_3 x1)), .int (di &&& ((T_X3_fit_3 x1) ^^^ (-1))), .int br, .int (F_X3_findLive R C (fi ||| (T_X3_fit_3 x1)) br)]))] H := hP
        have hD : va_D A [(hW, .inr (10, [.int (nI R), .int (nI C), .int (nI K), .int (fi ||| (T_X3_fit_3 x1)), .int (di &&& ((T_X3_fit_3 x1) ^^^ (-1))), .int br, .int (F_X3_findLive R C (fi ||| (T_X3_fit_3 x1)) br)]))] := hD
        subst hQe
        subst hAe
        have hE : (F_X3_fit R C fi di br x1 x2 x3) = (fi ||| (T_X3_fit_3 x1), di &&& ((T_X3_fit_3 x1) ^^^ (-1)), F_X3_findLive R C (fi ||| (T_X3_fit_3 x1)) br) := (by unfold F_X3_fit; rw [if_neg c_1, if_pos c_3])
        have hP9 := hP.sub (ws' := [(hW, .inr (10, [.int (nI R), .int (nI C), .int (nI K), .int (fi ||| (T_X3_fit_3 x1)), .int (di &&& ((T_X3_fit_3 x1) ^^^ (-1))), .int br, .int (F_X3_findLive R C (fi ||| (T_X3_fit_3 x1)) br)]))]) [0] rfl
        have hD9 := hD.sub (ws' := [(hW, .inr (10, [.int (nI R), .int (nI C), .int (nI K), .int (fi ||| (T_X3_fit_3 x1)), .int (di &&& ((T_X3_fit_3 x1) ^^^ (-1))), .int br, .int (F_X3_findLive R C (fi ||| (T_X3_fit_3 x1)) br)]))]) [0] (by decide) rfl
        exact W.vret hx hb hr (fun t ht hW => ⟨⟨(), rfl, trivial, (by (try rw [hE]); rw [ht]; exact hP9), (by (try rw [hE]); exact hD9)⟩, hS.F ht⟩) hS.2.2 dX3_fit_63
      · refine lv_aload_n hx hb dX3_fit_37 rfl (lv_at hl 1 rfl) ?_
        refine va_get (D := D) (ci := 10) (v := .int di) (C := RX3) (T := TX3) (N := 7) hx hb hts in_X3 hown hK hP 0 rfl rfl 4 (by decide) (hts _ q_136) (fun _ h9 => h9) rfl dX3_fit_38 ?_
        refine lv_iload hx hb dX3_fit_41 (lv_at hl 0 rfl) ?_
        refine lv_ior hx hb dX3_fit_43 ?_
        refine lv_goto (tgt := 56) hx hb dX3_fit_44 (by decide) ?_
        refine va_put (D := D) (ci := 10) (v := .int (di ||| (T_X3_fit_3 x1))) (ty := .int) (C := RX3) (T := TX3) (N := 7) hx hb hts in_X3 tyX3 tyX3_ok nmX3 hown hK hP hD hS 0 rfl rfl 4 (by decide) (hts _ q_136) (fun _ h9 => h9) rfl (by decide +kernel) rfl rfl (Nat.le_of_ble_eq_true rfl) dX3_fit_56 (fun H locs hP hD hS => ?_)
        have hP : va_P D vwCl [(hW, .inr (10, [.int (nI R), .int (nI C), .int (nI K), .int (fi ||| (T_X3_fit_3 x1)), .int (di ||| (T_X3_fit_3 x1)), .int br, .int li]))] H := hP
        have hD : va_D A [(hW, .inr (10, [.int (nI R), .int (nI C), .int (nI K), .int (fi ||| (T_X3_fit_3 x1)), .int (di ||| (T_X3_fit_3 x1)), .int br, .int li]))] := hD
        refine lv_aload_n hx hb dX3_fit_59 rfl (lv_at hl 1 rfl) ?_
        have hPc := hP.sub (ws' := [(hW, .inr (10, [.int (nI R), .int (nI C), .int (nI K), .int (fi ||| (T_X3_fit_3 x1)), .int (di ||| (T_X3_fit_3 x1)), .int br, .int li]))]) [0] rfl
        have hDc := hD.sub (ws' := [(hW, .inr (10, [.int (nI R), .int (nI C), .int (nI K), .int (fi ||| (T_X3_fit_3 x1)), .int (di ||| (T_X3_fit_3 x1)), .int br, .int li]))]) [0] (by decide) rfl
        have hFc := va_free (wc := [(hW, .inr (10, [.int (nI R), .int (nI C), .int (nI K), .int (fi ||| (T_X3_fit_3 x1)), .int (di ||| (T_X3_fit_3 x1)), .int br, .int li]))]) hD hS hA [0] rfl
        refine va_callv (va_runV (As := []) (rest := []) ⟨hx, hb, hml, hown, hts⟩ (c_X3_findLive l D hW R C K (fi ||| (T_X3_fit_3 x1)) (di ||| (T_X3_fit_3 x1)) br li H.size (show R ≤ 5 from hR) (show C ≤ 5 from hC)) (cwV 0 hts (gi_V q_896 q_898 q_30 q_81 q_899) rfl rfl rfl (by decide +kernel) ⟨Nat.le_of_ble_eq_true rfl, Nat.le_of_ble_eq_true rfl⟩) ⟨cPre_blind, va_recv hK hP (ci := 10) (q0 := 0) rfl rfl, cPre_mk hPc hK hDc hN (lwZ_for hZ hS hFc)⟩ rfl rfl hl.1 rfl (lv_room (Nat.le_of_ble_eq_true rfl)) dX3_fit_60 ⟨(Nat.le_of_ble_eq_true rfl), (Nat.le_of_ble_eq_true rfl)⟩) hS (fun q _ h => hFc q h) hFc (fun u t H1 locs ht hvm hw hBk hz1 hk1 hS => ?_)
        obtain ⟨hP1, hD1⟩ := hBk
        rw [ht] at hP1
        obtain ⟨hP, hD⟩ := va_join (wr := []) (w1 := [(hW, .inr (10, [.int (nI R), .int (nI C), .int (nI K), .int (fi ||| (T_X3_fit_3 x1)), .int (di ||| (T_X3_fit_3 x1)), .int br, .int (F_X3_findLive R C (fi ||| (T_X3_fit_3 x1)) br)]))]) hP hD [0] [] rfl rfl (by decide) (by decide) hk1 hFc hP1 hD1
        clear hPc hDc hFc hP1 hD1 hk1 hz1
        clear hvm ht u; clear t
        generalize H1 = H at hP hS ⊢
        have hP : va_P D vwCl [(hW, .inr (10, [.int (nI R), .int (nI C), .int (nI K), .int (fi ||| (T_X3_fit_3 x1)), .int (di ||| (T_X3_fit_3 x1)), .int br, .int (F_X3_findLive R C (fi ||| (T_X3_fit_3 x1)) br)]))] H := hP
        have hD : va_D A [(hW, .inr (10, [.int (nI R), .int (nI C), .int (nI K), .int (fi ||| (T_X3_fit_3 x1)), .int (di ||| (T_X3_fit_3 x1)), .int br, .int (F_X3_findLive R C (fi ||| (T_X3_fit_3 x1)) br)]))] := hD
        subst hQe
        subst hAe
        have hE : (F_X3_fit R C fi di br x1 x2 x3) = (fi ||| (T_X3_fit_3 x1), di ||| (T_X3_fit_3 x1), F_X3_findLive R C (fi ||| (T_X3_fit_3 x1)) br) := (by unfold F_X3_fit; rw [if_neg c_1, if_neg c_3])
        have hP9 := hP.sub (ws' := [(hW, .inr (10, [.int (nI R), .int (nI C), .int (nI K), .int (fi ||| (T_X3_fit_3 x1)), .int (di ||| (T_X3_fit_3 x1)), .int br, .int (F_X3_findLive R C (fi ||| (T_X3_fit_3 x1)) br)]))]) [0] rfl
        have hD9 := hD.sub (ws' := [(hW, .inr (10, [.int (nI R), .int (nI C), .int (nI K), .int (fi ||| (T_X3_fit_3 x1)), .int (di ||| (T_X3_fit_3 x1)), .int br, .int (F_X3_findLive R C (fi ||| (T_X3_fit_3 x1)) br)]))]) [0] (by decide) rfl
        exact W.vret hx hb hr (fun t ht hW => ⟨⟨(), rfl, trivial, (by (try rw [hE]); rw [ht]; exact hP9), (by (try rw [hE]); exact hD9)⟩, hS.F ht⟩) hS.2.2 dX3_fit_63
  rw [hHe, hLe] at hgoal
  exact hgoal

def T_X3_breakLine_3 (x1 : Int32) : Int32 := (1 : Int32) <<< (x1 &&& 31)
def F_X3_breakLine (R : Nat) (C : Nat) (fi : Int32) (br : Int32) (x1 : Int32) (x2 : Int32) : Int32 × Int32 := (if x2 = 0 then (br &&& ((T_X3_breakLine_3 x1) ^^^ (-1)), F_X3_findLive R C fi (br &&& ((T_X3_breakLine_3 x1) ^^^ (-1)))) else (br ||| (T_X3_breakLine_3 x1), F_X3_findLive R C fi (br ||| (T_X3_breakLine_3 x1))))
set_option maxHeartbeats 4000000 in
set_option maxRecDepth 100000 in
theorem c_X3_breakLine (l : Launch) (D : va_G) (hW : Nat) (R : Nat) (C : Nat) (K : Nat) (fi : Int32) (di : Int32) (br : Int32) (li : Int32) (x1 : Int32) (x2 : Int32) (sz : Nat) (hR : R ≤ 5) (hC : C ≤ 5) : Met l yX3_breakLine (Cond.code yX3_breakLine cX3_breakLine 4 none :: lwAll) ({ frames := 2, cells := 0, slots := 0, locals := 45 } : Room) (va_Pc [.ref hW, .int x1, .int x2] (cPre D (lwTY D) [(hW, .inr (10, [.int (nI R), .int (nI C), .int (nI K), .int fi, .int di, .int br, .int li]))] sz)) (va_Qv (fun (_ : Unit) => True) (fun (_ : Unit) t => va_P D vwCl [(hW, .inr (10, [.int (nI R), .int (nI C), .int (nI K), .int fi, .int di, .int ((F_X3_breakLine R C fi br x1 x2).1), .int ((F_X3_breakLine R C fi br x1 x2).2)]))] t.heap ∧ va_D (va_A [(hW, .inr (10, [.int (nI R), .int (nI C), .int (nI K), .int fi, .int di, .int br, .int li]))] sz) [(hW, .inr (10, [.int (nI R), .int (nI C), .int (nI K), .int fi, .int di, .int ((F_X3_breakLine R C fi br x1 x2).1), .int ((F_X3_breakLine R C fi br x1 x2).2)]))]) (va_A [(hW, .inr (10, [.int (nI R), .int (nI C), .int (nI K), .int fi, .int di, .int br, .int li]))] sz)) 0 0 (va_A [(hW, .inr (10, [.int (nI R), .int (nI C), .int (nI K), .int fi, .int di, .int br, .int li]))] sz) := by
  refine Met.ofW (cc := cX3_breakLine) (maxL := 4) (ret := none) (by decide) rfl ?_
  intro p e s m args below meth c s₁ B hml hv
  obtain ⟨rfl, hsz, hP, hK, hD0, hN, hZ⟩ := hv
  have hx := B.exec
  have hb := B.bytes
  have hr := B.returns
  have hts : ∀ wd ∈ lwAll, wd.before ([.ref hW, .int x1, .int x2] : List Value).toArray s = true := fun wd h => atoms_spec (ws := (Cond.code yX3_breakLine cX3_breakLine 4 none :: lwAll)) B.pre wd (List.mem_cons_of_mem _ h)
  have hown : s.vm.findClass RX3 = some m.cls := findClass_of_methodNamed B.named
  have hlocks := B.notSynchronized
  subst hsz
  have hD := hD0.self (sz := s.heap.size)
  have hl := lv_entry ([.ref hW, .int x1, .int x2]) (n := 4) (Nat.le_of_ble_eq_true rfl)
  rw [lg_entry_eq]
  generalize (lg_sl ([.ref hW, .int x1, .int x2]) ++ List.replicate (4 - (lg_sl ([.ref hW, .int x1, .int x2])).length) Slot.unset).toArray = ls at hl ⊢
  have hl : lv_has ls 4 [(0, .ref hW), (1, .int x1), (2, .int x2)] := hl
  have hS : va_S (va_A [(hW, .inr (10, [.int (nI R), .int (nI C), .int (nI K), .int fi, .int di, .int br, .int li]))] s.heap.size) s.heap s.heap [] := va_S.rf
  generalize hQe : MQ below (va_Qv (fun (_ : Unit) => True) (fun (_ : Unit) t => va_P D vwCl [(hW, .inr (10, [.int (nI R), .int (nI C), .int (nI K), .int fi, .int di, .int ((F_X3_breakLine R C fi br x1 x2).1), .int ((F_X3_breakLine R C fi br x1 x2).2)]))] t.heap ∧ va_D (va_A [(hW, .inr (10, [.int (nI R), .int (nI C), .int (nI K), .int fi, .int di, .int br, .int li]))] s.heap.size) [(hW, .inr (10, [.int (nI R), .int (nI C), .int (nI K), .int fi, .int di, .int ((F_X3_breakLine R C fi br x1 x2).1), .int ((F_X3_breakLine R C fi br x1 x2).2)]))]) (va_A [(hW, .inr (10, [.int (nI R), .int (nI C), .int (nI K), .int fi, .int di, .int br, .int li]))] s.heap.size)) ([.ref hW, .int x1, .int x2] : List Value).toArray s 0 0 (va_A [(hW, .inr (10, [.int (nI R), .int (nI C), .int (nI K), .int fi, .int di, .int br, .int li]))] s.heap.size) = Q
  have hP : va_P D vwCl [(hW, .inr (10, [.int (nI R), .int (nI C), .int (nI K), .int fi, .int di, .int br, .int li]))] s.heap := hP
  obtain ⟨A, hAe⟩ : ∃ A, A = va_A [(hW, .inr (10, [.int (nI R), .int (nI C), .int (nI K), .int fi, .int di, .int br, .int li]))] s.heap.size := ⟨_, rfl⟩
  rw [← hAe] at hD hZ hS
  have hA : ∀ q : Nat, s.heap.size ≤ q → A q := fun q h => by rw [hAe]; exact Or.inr h
  obtain ⟨H, hHe⟩ : ∃ H, H = s.heap := ⟨_, rfl⟩
  obtain ⟨locs, hLe⟩ : ∃ L : List Loc, L = [] := ⟨_, rfl⟩
  have hP : va_P D vwCl [(hW, .inr (10, [.int (nI R), .int (nI C), .int (nI K), .int fi, .int di, .int br, .int li]))] H := by rw [hHe]; exact hP
  have hS : va_S A s.heap H locs := by rw [hHe, hLe]; exact hS
  have hgoal : W p l e ({ frames := 2, cells := 0, slots := 0, locals := 45 } : Room) s m ([.ref hW, .int x1, .int x2] : List Value).toArray below meth c H locs 0 0 Q (F0 m 0 ls []) := by
    clear hHe hLe
    refine lv_iconst (v := 1) hx hb dX3_breakLine_0 (by decide) ?_
    refine lv_iload_n hx hb dX3_breakLine_1 rfl (lv_at hl 1 rfl) ?_
    refine lv_ishl hx hb dX3_breakLine_2 ?_
    refine lv_istore_n (lv' := [(3, .int ((1 : Int32) <<< (x1 &&& 31))), (0, .ref hW), (1, .int x1), (2, .int x2)]) hx hb dX3_breakLine_3 rfl hl (by decide) rfl (fun ls hl => ?_)
    have hl : lv_has ls 4 [(3, .int (T_X3_breakLine_3 x1)), (0, .ref hW), (1, .int x1), (2, .int x2)] := hl
    refine lv_aload_n hx hb dX3_breakLine_4 rfl (lv_at hl 1 rfl) ?_
    refine lv_iload_n hx hb dX3_breakLine_5 rfl (lv_at hl 3 rfl) ?_
    refine lv_if_eq (tgt := 18) hx hb dX3_breakLine_6 (by decide) (fun c_1 => ?_) (fun c_1 => ?_)
    · refine lv_aload_n hx hb dX3_breakLine_18 rfl (lv_at hl 1 rfl) ?_
      refine va_get (D := D) (ci := 10) (v := .int br) (C := RX3) (T := TX3) (N := 7) hx hb hts in_X3 hown hK hP 0 rfl rfl 5 (by decide) (hts _ q_138) (fun _ h9 => h9) rfl dX3_breakLine_19 ?_
      refine lv_iload_n hx hb dX3_breakLine_22 rfl (lv_at hl 0 rfl) ?_
      refine lv_iconst (v := (-1)) hx hb dX3_breakLine_23 (by decide) ?_
      refine lv_ixor hx hb dX3_breakLine_24 ?_
      refine lv_iand hx hb dX3_breakLine_25 ?_
      refine va_put (D := D) (ci := 10) (v := .int (br &&& ((T_X3_breakLine_3 x1) ^^^ (-1)))) (ty := .int) (C := RX3) (T := TX3) (N := 7) hx hb hts in_X3 tyX3 tyX3_ok nmX3 hown hK hP hD hS 0 rfl rfl 5 (by decide) (hts _ q_138) (fun _ h9 => h9) rfl (by decide +kernel) rfl rfl (Nat.le_of_ble_eq_true rfl) dX3_breakLine_26 (fun H locs hP hD hS => ?_)
      have hP : va_P D vwCl [(hW, .inr (10, [.int (nI R), .int (nI C), .int (nI K), .int fi, .int di, .int (br &&& ((T_X3_breakLine_3 x1) ^^^ (-1))), .int li]))] H := hP
      have hD : va_D A [(hW, .inr (10, [.int (nI R), .int (nI C), .int (nI K), .int fi, .int di, .int (br &&& ((T_X3_breakLine_3 x1) ^^^ (-1))), .int li]))] := hD
      refine lv_aload_n hx hb dX3_breakLine_29 rfl (lv_at hl 1 rfl) ?_
      have hPc := hP.sub (ws' := [(hW, .inr (10, [.int (nI R), .int (nI C), .int (nI K), .int fi, .int di, .int (br &&& ((T_X3_breakLine_3 x1) ^^^ (-1))), .int li]))]) [0] rfl
      have hDc := hD.sub (ws' := [(hW, .inr (10, [.int (nI R), .int (nI C), .int (nI K), .int fi, .int di, .int (br &&& ((T_X3_breakLine_3 x1) ^^^ (-1))), .int li]))]) [0] (by decide) rfl
      have hFc := va_free (wc := [(hW, .inr (10, [.int (nI R), .int (nI C), .int (nI K), .int fi, .int di, .int (br &&& ((T_X3_breakLine_3 x1) ^^^ (-1))), .int li]))]) hD hS hA [0] rfl
      refine va_callv (va_runV (As := []) (rest := []) ⟨hx, hb, hml, hown, hts⟩ (c_X3_findLive l D hW R C K fi di (br &&& ((T_X3_breakLine_3 x1) ^^^ (-1))) li H.size (show R ≤ 5 from hR) (show C ≤ 5 from hC)) (cwV 0 hts (gi_V q_896 q_898 q_30 q_81 q_899) rfl rfl rfl (by decide +kernel) ⟨Nat.le_of_ble_eq_true rfl, Nat.le_of_ble_eq_true rfl⟩) ⟨cPre_blind, va_recv hK hP (ci := 10) (q0 := 0) rfl rfl, cPre_mk hPc hK hDc hN (lwZ_for hZ hS hFc)⟩ rfl rfl hl.1 rfl (lv_room (Nat.le_of_ble_eq_true rfl)) dX3_breakLine_30 ⟨(Nat.le_of_ble_eq_true rfl), (Nat.le_of_ble_eq_true rfl)⟩) hS (fun q _ h => hFc q h) hFc (fun u t H1 locs ht hvm hw hBk hz1 hk1 hS => ?_)
      obtain ⟨hP1, hD1⟩ := hBk
      rw [ht] at hP1
      obtain ⟨hP, hD⟩ := va_join (wr := []) (w1 := [(hW, .inr (10, [.int (nI R), .int (nI C), .int (nI K), .int fi, .int di, .int (br &&& ((T_X3_breakLine_3 x1) ^^^ (-1))), .int (F_X3_findLive R C fi (br &&& ((T_X3_breakLine_3 x1) ^^^ (-1))))]))]) hP hD [0] [] rfl rfl (by decide) (by decide) hk1 hFc hP1 hD1
      clear hPc hDc hFc hP1 hD1 hk1 hz1
      clear hvm ht u; clear t
      generalize H1 = H at hP hS ⊢
      have hP : va_P D vwCl [(hW, .inr (10, [.int (nI R), .int (nI C), .int (nI K), .int fi, .int di, .int (br &&& ((T_X3_breakLine_3 x1) ^^^ (-1))), .int (F_X3_findLive R C fi (br &&& ((T_X3_breakLine_3 x1) ^^^ (-1))))]))] H := hP
      have hD : va_D A [(hW, .inr (10, [.int (nI R), .int (nI C), .int (nI K), .int fi, .int di, .int (br &&& ((T_X3_breakLine_3 x1) ^^^ (-1))), .int (F_X3_findLive R C fi (br &&& ((T_X3_breakLine_3 x1) ^^^ (-1))))]))] := hD
      subst hQe
      subst hAe
      have hE : (F_X3_breakLine R C fi br x1 x2) = (br &&& ((T_X3_breakLine_3 x1) ^^^ (-1)), F_X3_findLive R C fi (br &&& ((T_X3_breakLine_3 x1) ^^^ (-1)))) := (by unfold F_X3_breakLine; rw [if_pos c_1])
      have hP9 := hP.sub (ws' := [(hW, .inr (10, [.int (nI R), .int (nI C), .int (nI K), .int fi, .int di, .int (br &&& ((T_X3_breakLine_3 x1) ^^^ (-1))), .int (F_X3_findLive R C fi (br &&& ((T_X3_breakLine_3 x1) ^^^ (-1))))]))]) [0] rfl
      have hD9 := hD.sub (ws' := [(hW, .inr (10, [.int (nI R), .int (nI C), .int (nI K), .int fi, .int di, .int (br &&& ((T_X3_breakLine_3 x1) ^^^ (-1))), .int (F_X3_findLive R C fi (br &&& ((T_X3_breakLine_3 x1) ^^^ (-1))))]))]) [0] (by decide) rfl
      exact W.vret hx hb hr (fun t ht hW => ⟨⟨(), rfl, trivial, (by (try rw [hE]); rw [ht]; exact hP9), (by (try rw [hE]); exact hD9)⟩, hS.F ht⟩) hS.2.2 dX3_breakLine_33
    · refine lv_aload_n hx hb dX3_breakLine_9 rfl (lv_at hl 1 rfl) ?_
      refine va_get (D := D) (ci := 10) (v := .int br) (C := RX3) (T := TX3) (N := 7) hx hb hts in_X3 hown hK hP 0 rfl rfl 5 (by decide) (hts _ q_138) (fun _ h9 => h9) rfl dX3_breakLine_10 ?_
      refine lv_iload_n hx hb dX3_breakLine_13 rfl (lv_at hl 0 rfl) ?_
      refine lv_ior hx hb dX3_breakLine_14 ?_
      refine lv_goto (tgt := 26) hx hb dX3_breakLine_15 (by decide) ?_
      refine va_put (D := D) (ci := 10) (v := .int (br ||| (T_X3_breakLine_3 x1))) (ty := .int) (C := RX3) (T := TX3) (N := 7) hx hb hts in_X3 tyX3 tyX3_ok nmX3 hown hK hP hD hS 0 rfl rfl 5 (by decide) (hts _ q_138) (fun _ h9 => h9) rfl (by decide +kernel) rfl rfl (Nat.le_of_ble_eq_true rfl) dX3_breakLine_26 (fun H locs hP hD hS => ?_)
      have hP : va_P D vwCl [(hW, .inr (10, [.int (nI R), .int (nI C), .int (nI K), .int fi, .int di, .int (br ||| (T_X3_breakLine_3 x1)), .int li]))] H := hP
      have hD : va_D A [(hW, .inr (10, [.int (nI R), .int (nI C), .int (nI K), .int fi, .int di, .int (br ||| (T_X3_breakLine_3 x1)), .int li]))] := hD
      refine lv_aload_n hx hb dX3_breakLine_29 rfl (lv_at hl 1 rfl) ?_
      have hPc := hP.sub (ws' := [(hW, .inr (10, [.int (nI R), .int (nI C), .int (nI K), .int fi, .int di, .int (br ||| (T_X3_breakLine_3 x1)), .int li]))]) [0] rfl
      have hDc := hD.sub (ws' := [(hW, .inr (10, [.int (nI R), .int (nI C), .int (nI K), .int fi, .int di, .int (br ||| (T_X3_breakLine_3 x1)), .int li]))]) [0] (by decide) rfl
      have hFc := va_free (wc := [(hW, .inr (10, [.int (nI R), .int (nI C), .int (nI K), .int fi, .int di, .int (br ||| (T_X3_breakLine_3 x1)), .int li]))]) hD hS hA [0] rfl
      refine va_callv (va_runV (As := []) (rest := []) ⟨hx, hb, hml, hown, hts⟩ (c_X3_findLive l D hW R C K fi di (br ||| (T_X3_breakLine_3 x1)) li H.size (show R ≤ 5 from hR) (show C ≤ 5 from hC)) (cwV 0 hts (gi_V q_896 q_898 q_30 q_81 q_899) rfl rfl rfl (by decide +kernel) ⟨Nat.le_of_ble_eq_true rfl, Nat.le_of_ble_eq_true rfl⟩) ⟨cPre_blind, va_recv hK hP (ci := 10) (q0 := 0) rfl rfl, cPre_mk hPc hK hDc hN (lwZ_for hZ hS hFc)⟩ rfl rfl hl.1 rfl (lv_room (Nat.le_of_ble_eq_true rfl)) dX3_breakLine_30 ⟨(Nat.le_of_ble_eq_true rfl), (Nat.le_of_ble_eq_true rfl)⟩) hS (fun q _ h => hFc q h) hFc (fun u t H1 locs ht hvm hw hBk hz1 hk1 hS => ?_)
      obtain ⟨hP1, hD1⟩ := hBk
      rw [ht] at hP1
      obtain ⟨hP, hD⟩ := va_join (wr := []) (w1 := [(hW, .inr (10, [.int (nI R), .int (nI C), .int (nI K), .int fi, .int di, .int (br ||| (T_X3_breakLine_3 x1)), .int (F_X3_findLive R C fi (br ||| (T_X3_breakLine_3 x1)))]))]) hP hD [0] [] rfl rfl (by decide) (by decide) hk1 hFc hP1 hD1
      clear hPc hDc hFc hP1 hD1 hk1 hz1
      clear hvm ht u; clear t
      generalize H1 = H at hP hS ⊢
      have hP : va_P D vwCl [(hW, .inr (10, [.int (nI R), .int (nI C), .int (nI K), .int fi, .int di, .int (br ||| (T_X3_breakLine_3 x1)), .int (F_X3_findLive R C fi (br ||| (T_X3_breakLine_3 x1)))]))] H := hP
      have hD : va_D A [(hW, .inr (10, [.int (nI R), .int (nI C), .int (nI K), .int fi, .int di, .int (br ||| (T_X3_breakLine_3 x1)), .int (F_X3_findLive R C fi (br ||| (T_X3_breakLine_3 x1)))]))] := hD
      subst hQe
      subst hAe
      have hE : (F_X3_breakLine R C fi br x1 x2) = (br ||| (T_X3_breakLine_3 x1), F_X3_findLive R C fi (br ||| (T_X3_breakLine_3 x1))) := (by unfold F_X3_breakLine; rw [if_neg c_1])
      have hP9 := hP.sub (ws' := [(hW, .inr (10, [.int (nI R), .int (nI C), .int (nI K), .int fi, .int di, .int (br ||| (T_X3_breakLine_3 x1)), .int (F_X3_findLive R C fi (br ||| (T_X3_breakLine_3 x1)))]))]) [0] rfl
      have hD9 := hD.sub (ws' := [(hW, .inr (10, [.int (nI R), .int (nI C), .int (nI K), .int fi, .int di, .int (br ||| (T_X3_breakLine_3 x1)), .int (F_X3_findLive R C fi (br ||| (T_X3_breakLine_3 x1)))]))]) [0] (by decide) rfl
      exact W.vret hx hb hr (fun t ht hW => ⟨⟨(), rfl, trivial, (by (try rw [hE]); rw [ht]; exact hP9), (by (try rw [hE]); exact hD9)⟩, hS.F ht⟩) hS.2.2 dX3_breakLine_33
  rw [hHe, hLe] at hgoal
  exact hgoal

/-- all keys of so many -/
def fitI (K : Nat) : Int32 := ((1 : Int32) <<< ((nI K) &&& 31)) - 1

set_option maxHeartbeats 4000000 in
set_option maxRecDepth 100000 in
theorem c_X3_startAnew (l : Launch) (D : va_G) (hW : Nat) (R : Nat) (C : Nat) (K : Nat) (fi : Int32) (di : Int32) (br : Int32) (li : Int32) (R2 : Nat) (C2 : Nat) (x1 : Int32) (x2 : Int32) (sz : Nat) (hx1 : x1 = nI R2) (hx2 : x2 = nI C2) : Met l yX3_startAnew (Cond.code yX3_startAnew cX3_startAnew 3 none :: lwAll) ({ frames := 0, cells := 0, slots := 0, locals := 0 } : Room) (va_Pc [.ref hW, .int x1, .int x2] (cPre D (lwTY D) [(hW, .inr (10, [.int (nI R), .int (nI C), .int (nI K), .int fi, .int di, .int br, .int li]))] sz)) (va_Qv (fun (_ : Unit) => True) (fun (_ : Unit) t => va_P D vwCl [(hW, .inr (10, [.int (nI R2), .int (nI C2), .int (nI (R2 * C2)), .int (fitI (R2 * C2)), .int 0, .int 0, .int (fitI (R2 * C2))]))] t.heap ∧ va_D (va_A [(hW, .inr (10, [.int (nI R), .int (nI C), .int (nI K), .int fi, .int di, .int br, .int li]))] sz) [(hW, .inr (10, [.int (nI R2), .int (nI C2), .int (nI (R2 * C2)), .int (fitI (R2 * C2)), .int 0, .int 0, .int (fitI (R2 * C2))]))]) (va_A [(hW, .inr (10, [.int (nI R), .int (nI C), .int (nI K), .int fi, .int di, .int br, .int li]))] sz)) 0 0 (va_A [(hW, .inr (10, [.int (nI R), .int (nI C), .int (nI K), .int fi, .int di, .int br, .int li]))] sz) := by
  subst hx1
  subst hx2
  refine Met.ofW (cc := cX3_startAnew) (maxL := 3) (ret := none) (by decide) rfl ?_
  intro p e s m args below meth c s₁ B hml hv
  obtain ⟨rfl, hsz, hP, hK, hD0, hN, hZ⟩ := hv
  have hx := B.exec
  have hb := B.bytes
  have hr := B.returns
  have hts : ∀ wd ∈ lwAll, wd.before ([.ref hW, .int (nI R2), .int (nI C2)] : List Value).toArray s = true := fun wd h => atoms_spec (ws := (Cond.code yX3_startAnew cX3_startAnew 3 none :: lwAll)) B.pre wd (List.mem_cons_of_mem _ h)
  have hown : s.vm.findClass RX3 = some m.cls := findClass_of_methodNamed B.named
  have hlocks := B.notSynchronized
  subst hsz
  have hD := hD0.self (sz := s.heap.size)
  have hl := lv_entry ([.ref hW, .int (nI R2), .int (nI C2)]) (n := 3) (Nat.le_of_ble_eq_true rfl)
  rw [lg_entry_eq]
  generalize (lg_sl ([.ref hW, .int (nI R2), .int (nI C2)]) ++ List.replicate (3 - (lg_sl ([.ref hW, .int (nI R2), .int (nI C2)])).length) Slot.unset).toArray = ls at hl ⊢
  have hl : lv_has ls 3 [(0, .ref hW), (1, .int (nI R2)), (2, .int (nI C2))] := hl
  have hS : va_S (va_A [(hW, .inr (10, [.int (nI R), .int (nI C), .int (nI K), .int fi, .int di, .int br, .int li]))] s.heap.size) s.heap s.heap [] := va_S.rf
  generalize hQe : MQ below (va_Qv (fun (_ : Unit) => True) (fun (_ : Unit) t => va_P D vwCl [(hW, .inr (10, [.int (nI R2), .int (nI C2), .int (nI (R2 * C2)), .int (fitI (R2 * C2)), .int 0, .int 0, .int (fitI (R2 * C2))]))] t.heap ∧ va_D (va_A [(hW, .inr (10, [.int (nI R), .int (nI C), .int (nI K), .int fi, .int di, .int br, .int li]))] s.heap.size) [(hW, .inr (10, [.int (nI R2), .int (nI C2), .int (nI (R2 * C2)), .int (fitI (R2 * C2)), .int 0, .int 0, .int (fitI (R2 * C2))]))]) (va_A [(hW, .inr (10, [.int (nI R), .int (nI C), .int (nI K), .int fi, .int di, .int br, .int li]))] s.heap.size)) ([.ref hW, .int (nI R2), .int (nI C2)] : List Value).toArray s 0 0 (va_A [(hW, .inr (10, [.int (nI R), .int (nI C), .int (nI K), .int fi, .int di, .int br, .int li]))] s.heap.size) = Q
  have hP : va_P D vwCl [(hW, .inr (10, [.int (nI R), .int (nI C), .int (nI K), .int fi, .int di, .int br, .int li]))] s.heap := hP
  obtain ⟨A, hAe⟩ : ∃ A, A = va_A [(hW, .inr (10, [.int (nI R), .int (nI C), .int (nI K), .int fi, .int di, .int br, .int li]))] s.heap.size := ⟨_, rfl⟩
  rw [← hAe] at hD hZ hS
  have hA : ∀ q : Nat, s.heap.size ≤ q → A q := fun q h => by rw [hAe]; exact Or.inr h
  obtain ⟨H, hHe⟩ : ∃ H, H = s.heap := ⟨_, rfl⟩
  obtain ⟨locs, hLe⟩ : ∃ L : List Loc, L = [] := ⟨_, rfl⟩
  have hP : va_P D vwCl [(hW, .inr (10, [.int (nI R), .int (nI C), .int (nI K), .int fi, .int di, .int br, .int li]))] H := by rw [hHe]; exact hP
  have hS : va_S A s.heap H locs := by rw [hHe, hLe]; exact hS
  have hgoal : W p l e ({ frames := 0, cells := 0, slots := 0, locals := 0 } : Room) s m ([.ref hW, .int (nI R2), .int (nI C2)] : List Value).toArray below meth c H locs 0 0 Q (F0 m 0 ls []) := by
    clear hHe hLe
    refine lv_aload_n hx hb dX3_startAnew_0 rfl (lv_at hl 0 rfl) ?_
    refine lv_iload_n hx hb dX3_startAnew_1 rfl (lv_at hl 1 rfl) ?_
    refine va_put (D := D) (ci := 10) (v := .int (nI R2)) (ty := .int) (C := RX3) (T := TX3) (N := 7) hx hb hts in_X3 tyX3 tyX3_ok nmX3 hown hK hP hD hS 0 rfl rfl 0 (by decide) (hts _ q_128) (fun _ h9 => h9) rfl (by decide +kernel) rfl rfl (Nat.le_of_ble_eq_true rfl) dX3_startAnew_2 (fun H locs hP hD hS => ?_)
    have hP : va_P D vwCl [(hW, .inr (10, [.int (nI R2), .int (nI C), .int (nI K), .int fi, .int di, .int br, .int li]))] H := hP
    have hD : va_D A [(hW, .inr (10, [.int (nI R2), .int (nI C), .int (nI K), .int fi, .int di, .int br, .int li]))] := hD
    refine lv_aload_n hx hb dX3_startAnew_5 rfl (lv_at hl 0 rfl) ?_
    refine lv_iload_n hx hb dX3_startAnew_6 rfl (lv_at hl 2 rfl) ?_
    refine va_put (D := D) (ci := 10) (v := .int (nI C2)) (ty := .int) (C := RX3) (T := TX3) (N := 7) hx hb hts in_X3 tyX3 tyX3_ok nmX3 hown hK hP hD hS 0 rfl rfl 1 (by decide) (hts _ q_130) (fun _ h9 => h9) rfl (by decide +kernel) rfl rfl (Nat.le_of_ble_eq_true rfl) dX3_startAnew_7 (fun H locs hP hD hS => ?_)
    have hP : va_P D vwCl [(hW, .inr (10, [.int (nI R2), .int (nI C2), .int (nI K), .int fi, .int di, .int br, .int li]))] H := hP
    have hD : va_D A [(hW, .inr (10, [.int (nI R2), .int (nI C2), .int (nI K), .int fi, .int di, .int br, .int li]))] := hD
    refine lv_aload_n hx hb dX3_startAnew_10 rfl (lv_at hl 0 rfl) ?_
    refine lv_iload_n hx hb dX3_startAnew_11 rfl (lv_at hl 1 rfl) ?_
    refine lv_iload_n hx hb dX3_startAnew_12 rfl (lv_at hl 2 rfl) ?_
    refine lv_imul hx hb dX3_startAnew_13 ?_
    rw [show ((nI R2) * (nI C2) : Int32) = nI (R2 * C2) from (pk_mul R2 C2)]
    refine va_put (D := D) (ci := 10) (v := .int (nI (R2 * C2))) (ty := .int) (C := RX3) (T := TX3) (N := 7) hx hb hts in_X3 tyX3 tyX3_ok nmX3 hown hK hP hD hS 0 rfl rfl 2 (by decide) (hts _ q_132) (fun _ h9 => h9) rfl (by decide +kernel) rfl rfl (Nat.le_of_ble_eq_true rfl) dX3_startAnew_14 (fun H locs hP hD hS => ?_)
    have hP : va_P D vwCl [(hW, .inr (10, [.int (nI R2), .int (nI C2), .int (nI (R2 * C2)), .int fi, .int di, .int br, .int li]))] H := hP
    have hD : va_D A [(hW, .inr (10, [.int (nI R2), .int (nI C2), .int (nI (R2 * C2)), .int fi, .int di, .int br, .int li]))] := hD
    refine lv_aload_n hx hb dX3_startAnew_17 rfl (lv_at hl 0 rfl) ?_
    refine lv_iconst (v := 1) hx hb dX3_startAnew_18 (by decide) ?_
    refine lv_aload_n hx hb dX3_startAnew_19 rfl (lv_at hl 0 rfl) ?_
    refine va_get (D := D) (ci := 10) (v := .int (nI (R2 * C2))) (C := RX3) (T := TX3) (N := 7) hx hb hts in_X3 hown hK hP 0 rfl rfl 2 (by decide) (hts _ q_132) (fun _ h9 => h9) rfl dX3_startAnew_20 ?_
    refine lv_ishl hx hb dX3_startAnew_23 ?_
    refine lv_iconst (v := 1) hx hb dX3_startAnew_24 (by decide) ?_
    refine lv_isub hx hb dX3_startAnew_25 ?_
    refine va_put (D := D) (ci := 10) (v := .int (((1 : Int32) <<< ((nI (R2 * C2)) &&& 31)) - 1)) (ty := .int) (C := RX3) (T := TX3) (N := 7) hx hb hts in_X3 tyX3 tyX3_ok nmX3 hown hK hP hD hS 0 rfl rfl 3 (by decide) (hts _ q_134) (fun _ h9 => h9) rfl (by decide +kernel) rfl rfl (Nat.le_of_ble_eq_true rfl) dX3_startAnew_26 (fun H locs hP hD hS => ?_)
    have hP : va_P D vwCl [(hW, .inr (10, [.int (nI R2), .int (nI C2), .int (nI (R2 * C2)), .int (((1 : Int32) <<< ((nI (R2 * C2)) &&& 31)) - 1), .int di, .int br, .int li]))] H := hP
    have hD : va_D A [(hW, .inr (10, [.int (nI R2), .int (nI C2), .int (nI (R2 * C2)), .int (((1 : Int32) <<< ((nI (R2 * C2)) &&& 31)) - 1), .int di, .int br, .int li]))] := hD
    refine lv_aload_n hx hb dX3_startAnew_29 rfl (lv_at hl 0 rfl) ?_
    refine lv_iconst (v := 0) hx hb dX3_startAnew_30 (by decide) ?_
    refine va_put (D := D) (ci := 10) (v := .int 0) (ty := .int) (C := RX3) (T := TX3) (N := 7) hx hb hts in_X3 tyX3 tyX3_ok nmX3 hown hK hP hD hS 0 rfl rfl 4 (by decide) (hts _ q_136) (fun _ h9 => h9) rfl (by decide +kernel) rfl rfl (Nat.le_of_ble_eq_true rfl) dX3_startAnew_31 (fun H locs hP hD hS => ?_)
    have hP : va_P D vwCl [(hW, .inr (10, [.int (nI R2), .int (nI C2), .int (nI (R2 * C2)), .int (((1 : Int32) <<< ((nI (R2 * C2)) &&& 31)) - 1), .int 0, .int br, .int li]))] H := hP
    have hD : va_D A [(hW, .inr (10, [.int (nI R2), .int (nI C2), .int (nI (R2 * C2)), .int (((1 : Int32) <<< ((nI (R2 * C2)) &&& 31)) - 1), .int 0, .int br, .int li]))] := hD
    refine lv_aload_n hx hb dX3_startAnew_34 rfl (lv_at hl 0 rfl) ?_
    refine lv_iconst (v := 0) hx hb dX3_startAnew_35 (by decide) ?_
    refine va_put (D := D) (ci := 10) (v := .int 0) (ty := .int) (C := RX3) (T := TX3) (N := 7) hx hb hts in_X3 tyX3 tyX3_ok nmX3 hown hK hP hD hS 0 rfl rfl 5 (by decide) (hts _ q_138) (fun _ h9 => h9) rfl (by decide +kernel) rfl rfl (Nat.le_of_ble_eq_true rfl) dX3_startAnew_36 (fun H locs hP hD hS => ?_)
    have hP : va_P D vwCl [(hW, .inr (10, [.int (nI R2), .int (nI C2), .int (nI (R2 * C2)), .int (((1 : Int32) <<< ((nI (R2 * C2)) &&& 31)) - 1), .int 0, .int 0, .int li]))] H := hP
    have hD : va_D A [(hW, .inr (10, [.int (nI R2), .int (nI C2), .int (nI (R2 * C2)), .int (((1 : Int32) <<< ((nI (R2 * C2)) &&& 31)) - 1), .int 0, .int 0, .int li]))] := hD
    refine lv_aload_n hx hb dX3_startAnew_39 rfl (lv_at hl 0 rfl) ?_
    refine lv_aload_n hx hb dX3_startAnew_40 rfl (lv_at hl 0 rfl) ?_
    refine va_get (D := D) (ci := 10) (v := .int (((1 : Int32) <<< ((nI (R2 * C2)) &&& 31)) - 1)) (C := RX3) (T := TX3) (N := 7) hx hb hts in_X3 hown hK hP 0 rfl rfl 3 (by decide) (hts _ q_134) (fun _ h9 => h9) rfl dX3_startAnew_41 ?_
    refine va_put (D := D) (ci := 10) (v := .int (((1 : Int32) <<< ((nI (R2 * C2)) &&& 31)) - 1)) (ty := .int) (C := RX3) (T := TX3) (N := 7) hx hb hts in_X3 tyX3 tyX3_ok nmX3 hown hK hP hD hS 0 rfl rfl 6 (by decide) (hts _ q_140) (fun _ h9 => h9) rfl (by decide +kernel) rfl rfl (Nat.le_of_ble_eq_true rfl) dX3_startAnew_44 (fun H locs hP hD hS => ?_)
    have hP : va_P D vwCl [(hW, .inr (10, [.int (nI R2), .int (nI C2), .int (nI (R2 * C2)), .int (((1 : Int32) <<< ((nI (R2 * C2)) &&& 31)) - 1), .int 0, .int 0, .int (((1 : Int32) <<< ((nI (R2 * C2)) &&& 31)) - 1)]))] H := hP
    have hD : va_D A [(hW, .inr (10, [.int (nI R2), .int (nI C2), .int (nI (R2 * C2)), .int (((1 : Int32) <<< ((nI (R2 * C2)) &&& 31)) - 1), .int 0, .int 0, .int (((1 : Int32) <<< ((nI (R2 * C2)) &&& 31)) - 1)]))] := hD
    subst hQe
    subst hAe
    have hP9 := hP.sub (ws' := [(hW, .inr (10, [.int (nI R2), .int (nI C2), .int (nI (R2 * C2)), .int (((1 : Int32) <<< ((nI (R2 * C2)) &&& 31)) - 1), .int 0, .int 0, .int (((1 : Int32) <<< ((nI (R2 * C2)) &&& 31)) - 1)]))]) [0] rfl
    have hD9 := hD.sub (ws' := [(hW, .inr (10, [.int (nI R2), .int (nI C2), .int (nI (R2 * C2)), .int (((1 : Int32) <<< ((nI (R2 * C2)) &&& 31)) - 1), .int 0, .int 0, .int (((1 : Int32) <<< ((nI (R2 * C2)) &&& 31)) - 1)]))]) [0] (by decide) rfl
    exact W.vret hx hb hr (fun t ht hW => ⟨⟨(), rfl, trivial, (by rw [ht]; exact hP9), (hD9)⟩, hS.F ht⟩) hS.2.2 dX3_startAnew_47
  rw [hHe, hLe] at hgoal
  exact hgoal
