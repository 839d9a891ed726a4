def F_Jx4a65c_size_8abf5 (K : Nat) : Int32 := nI K
set_option maxHeartbeats 4000000 in
set_option maxRecDepth 100000 in
theorem c_Jx4a65c_size_8abf5 (l : Launch) (D : va_G) (kl : Nat) (km : Int32) (kd : Nat) (K : Nat) (sz : Nat)  : Met l yJx4a65c_size_8abf5 (Cond.code yJx4a65c_size_8abf5 cJx4a65c_size_8abf5 1 (some .int) :: lwAll) ({ frames := 0, cells := 0, slots := 0, locals := 0 } : Room) (va_Pc [.ref kl] (cPre D (lwTY D) [(kl, .inr (6, [.int km, .ref kd, .int (nI K)]))] sz)) (va_Qi (fun (r : Int32) (_ : Unit) => r = (F_Jx4a65c_size_8abf5 K)) (fun _ _ => True) (fun q : Nat => sz ≤ q)) 0 0 (fun q : Nat => sz ≤ q) := by
  refine Met.ofW (cc := cJx4a65c_size_8abf5) (maxL := 1) (ret := (some .int)) (by decide) rfl ?_
  intro p e s m args below meth c s₁ B hml hv
  obtain ⟨rfl, hsz, hP, hK, hD0, hN, hZ⟩ := hv
  have hx := B.exec
  have hb := B.bytes
  have hr := B.returns
  have hts : ∀ wd ∈ lwAll, wd.before ([.ref kl] : List Value).toArray s = true := fun wd h => atoms_spec (ws := (Cond.code yJx4a65c_size_8abf5 cJx4a65c_size_8abf5 1 (some .int) :: lwAll)) B.pre wd (List.mem_cons_of_mem _ h)
  have hown : s.vm.findClass RJx4a65c = some m.cls := findClass_of_methodNamed B.named
  have hlocks := B.notSynchronized
  subst hsz
  have hD := hD0.self (sz := s.heap.size)
  have hl := lv_entry ([.ref kl]) (n := 1) (Nat.le_of_ble_eq_true rfl)
  rw [lg_entry_eq]
  generalize (lg_sl ([.ref kl]) ++ List.replicate (1 - (lg_sl ([.ref kl])).length) Slot.unset).toArray = ls at hl ⊢
  have hl : lv_has ls 1 [(0, .ref kl)] := hl
  have hS : va_S (fun q : Nat => s.heap.size ≤ q) s.heap s.heap [] := va_S.rf
  generalize hQe : MQ below (va_Qi (fun (r : Int32) (_ : Unit) => r = (F_Jx4a65c_size_8abf5 K)) (fun _ _ => True) (fun q : Nat => s.heap.size ≤ q)) ([.ref kl] : List Value).toArray s 0 0 (fun q : Nat => s.heap.size ≤ q) = Q
  have hP : va_P D vwCl [(kl, .inr (6, [.int km, .ref kd, .int (nI K)]))] s.heap := hP
  obtain ⟨A, hAe⟩ : ∃ A, A = va_A [(kl, .inr (6, [.int km, .ref kd, .int (nI K)]))] s.heap.size := ⟨_, rfl⟩
  rw [← hAe] at hD hZ
  have hA : ∀ q : Nat, s.heap.size ≤ q → A q := fun q h => by rw [hAe]; exact Or.inr h
  obtain ⟨H, hHe⟩ : ∃ H, H = s.heap := ⟨_, rfl⟩
  obtain ⟨locs, hLe⟩ : ∃ L : List Loc, L = [] := ⟨_, rfl⟩
  have hP : va_P D vwCl [(kl, .inr (6, [.int km, .ref kd, .int (nI K)]))] H := by rw [hHe]; exact hP
  have hS : va_S (fun q : Nat => s.heap.size ≤ q) s.heap H locs := by rw [hHe, hLe]; exact hS
  have hgoal : W p l e ({ frames := 0, cells := 0, slots := 0, locals := 0 } : Room) s m ([.ref kl] : List Value).toArray below meth c H locs 0 0 Q (F0 m 0 ls []) := by
    clear hHe hLe
    refine lv_aload_n hx hb dJx4a65c_size_8abf5_0 rfl (lv_at hl 0 rfl) ?_
    refine va_get (D := D) (ci := 6) (v := .int (nI K)) (C := RJx4a65c) (T := TJx4a65c) (N := 3) hx hb hts in_Jx4a65c hown hK hP 0 rfl rfl 2 (by decide) (hts _ q_1154) (fun _ h9 => h9) rfl dJx4a65c_size_8abf5_1 ?_
    subst hQe
    exact W.iret (v := nI K) hx hb hr (fun t ht hW => ⟨⟨nI K, (), rfl, (by rfl), trivial⟩, hS.F ht⟩) hS.2.2 dJx4a65c_size_8abf5_4
  rw [hHe, hLe] at hgoal
  exact hgoal

def F_Jx4a65c_isEmpty_aae02 (K : Nat) : Int32 := (if (nI K) = 0 then 1 else 0)
set_option maxHeartbeats 4000000 in
set_option maxRecDepth 100000 in
theorem c_Jx4a65c_isEmpty_aae02 (l : Launch) (D : va_G) (kl : Nat) (km : Int32) (kd : Nat) (K : Nat) (sz : Nat)  : Met l yJx4a65c_isEmpty_aae02 (Cond.code yJx4a65c_isEmpty_aae02 cJx4a65c_isEmpty_aae02 1 (some .boolean) :: lwAll) ({ frames := 0, cells := 0, slots := 0, locals := 0 } : Room) (va_Pc [.ref kl] (cPre D (lwTY D) [(kl, .inr (6, [.int km, .ref kd, .int (nI K)]))] sz)) (va_Qi (fun (r : Int32) (_ : Unit) => r = (F_Jx4a65c_isEmpty_aae02 K) ∧ (r = 0 ∨ r = 1)) (fun _ _ => True) (fun q : Nat => sz ≤ q)) 0 0 (fun q : Nat => sz ≤ q) := by
  refine Met.ofW (cc := cJx4a65c_isEmpty_aae02) (maxL := 1) (ret := (some .boolean)) (by decide) rfl ?_
  intro p e s m args below meth c s₁ B hml hv
  obtain ⟨rfl, hsz, hP, hK, hD0, hN, hZ⟩ := hv
  have hx := B.exec
  have hb := B.bytes
  have hr := B.returns
  have hts : ∀ wd ∈ lwAll, wd.before ([.ref kl] : List Value).toArray s = true := fun wd h => atoms_spec (ws := (Cond.code yJx4a65c_isEmpty_aae02 cJx4a65c_isEmpty_aae02 1 (some .boolean) :: lwAll)) B.pre wd (List.mem_cons_of_mem _ h)
  have hown : s.vm.findClass RJx4a65c = some m.cls := findClass_of_methodNamed B.named
  have hlocks := B.notSynchronized
  subst hsz
  have hD := hD0.self (sz := s.heap.size)
  have hl := lv_entry ([.ref kl]) (n := 1) (Nat.le_of_ble_eq_true rfl)
  rw [lg_entry_eq]
  generalize (lg_sl ([.ref kl]) ++ List.replicate (1 - (lg_sl ([.ref kl])).length) Slot.unset).toArray = ls at hl ⊢
  have hl : lv_has ls 1 [(0, .ref kl)] := hl
  have hS : va_S (fun q : Nat => s.heap.size ≤ q) s.heap s.heap [] := va_S.rf
  generalize hQe : MQ below (va_Qi (fun (r : Int32) (_ : Unit) => r = (F_Jx4a65c_isEmpty_aae02 K) ∧ (r = 0 ∨ r = 1)) (fun _ _ => True) (fun q : Nat => s.heap.size ≤ q)) ([.ref kl] : List Value).toArray s 0 0 (fun q : Nat => s.heap.size ≤ q) = Q
  have hP : va_P D vwCl [(kl, .inr (6, [.int km, .ref kd, .int (nI K)]))] s.heap := hP
  obtain ⟨A, hAe⟩ : ∃ A, A = va_A [(kl, .inr (6, [.int km, .ref kd, .int (nI K)]))] s.heap.size := ⟨_, rfl⟩
  rw [← hAe] at hD hZ
  have hA : ∀ q : Nat, s.heap.size ≤ q → A q := fun q h => by rw [hAe]; exact Or.inr h
  obtain ⟨H, hHe⟩ : ∃ H, H = s.heap := ⟨_, rfl⟩
  obtain ⟨locs, hLe⟩ : ∃ L : List Loc, L = [] := ⟨_, rfl⟩
  have hP : va_P D vwCl [(kl, .inr (6, [.int km, .ref kd, .int (nI K)]))] H := by rw [hHe]; exact hP
  have hS : va_S (fun q : Nat => s.heap.size ≤ q) s.heap H locs := by rw [hHe, hLe]; exact hS
  have hgoal : W p l e ({ frames := 0, cells := 0, slots := 0, locals := 0 } : Room) s m ([.ref kl] : List Value).toArray below meth c H locs 0 0 Q (F0 m 0 ls []) := by
    clear hHe hLe
    refine lv_aload_n hx hb dJx4a65c_isEmpty_aae02_0 rfl (lv_at hl 0 rfl) ?_
    refine va_get (D := D) (ci := 6) (v := .int (nI K)) (C := RJx4a65c) (T := TJx4a65c) (N := 3) hx hb hts in_Jx4a65c hown hK hP 0 rfl rfl 2 (by decide) (hts _ q_1154) (fun _ h9 => h9) rfl dJx4a65c_isEmpty_aae02_1 ?_
    refine lv_if_ne (tgt := 11) hx hb dJx4a65c_isEmpty_aae02_4 (by decide) (fun c_1 => ?_) (fun c_1 => ?_)
    · refine lv_iconst (v := 0) hx hb dJx4a65c_isEmpty_aae02_11 (by decide) ?_
      subst hQe
      exact W.zret (ty := .boolean) (v := 0) hx hb hr (zb_narrow zb_0) (fun t ht hW => ⟨⟨0, (), rfl, ⟨(by unfold F_Jx4a65c_isEmpty_aae02; rw [if_neg c_1]), zb_0⟩, trivial⟩, hS.F ht⟩) hS.2.2 dJx4a65c_isEmpty_aae02_12
    · refine lv_iconst (v := 1) hx hb dJx4a65c_isEmpty_aae02_7 (by decide) ?_
      refine lv_goto (tgt := 12) hx hb dJx4a65c_isEmpty_aae02_8 (by decide) ?_
      subst hQe
      exact W.zret (ty := .boolean) (v := 1) hx hb hr (zb_narrow zb_1) (fun t ht hW => ⟨⟨1, (), rfl, ⟨(by unfold F_Jx4a65c_isEmpty_aae02; rw [if_pos c_1]), zb_1⟩, trivial⟩, hS.F ht⟩) hS.2.2 dJx4a65c_isEmpty_aae02_12
  rw [hHe, hLe] at hgoal
  exact hgoal

def F_X7_isIn (x0 : Int32) (x1 : Int32) (x2 : Int32) : Int32 := (if x0 < x1 then 0 else (if x2 < x0 then 0 else 1))
set_option maxHeartbeats 4000000 in
set_option maxRecDepth 100000 in
theorem c_X7_isIn (l : Launch) (D : va_G) (x0 : Int32) (x1 : Int32) (x2 : Int32) (sz : Nat)  : Met l yX7_isIn (Cond.code yX7_isIn cX7_isIn 3 (some .boolean) :: lwAll) ({ frames := 0, cells := 0, slots := 0, locals := 0 } : Room) (va_Pc [.int x0, .int x1, .int x2] (cPre D (lwTY D) [] sz)) (va_Qi (fun (r : Int32) (_ : Unit) => r = (F_X7_isIn x0 x1 x2) ∧ (r = 0 ∨ r = 1)) (fun _ _ => True) (fun q : Nat => sz ≤ q)) 0 0 (fun q : Nat => sz ≤ q) := by
  refine Met.ofW (cc := cX7_isIn) (maxL := 3) (ret := (some .boolean)) (by decide) rfl ?_
  intro p e s m args below meth c s₁ B hml hv
  obtain ⟨rfl, hsz, hP, hK, hD0, hN, hZ⟩ := hv
  have hx := B.exec
  have hb := B.bytes
  have hr := B.returns
  have hts : ∀ wd ∈ lwAll, wd.before ([.int x0, .int x1, .int x2] : List Value).toArray s = true := fun wd h => atoms_spec (ws := (Cond.code yX7_isIn cX7_isIn 3 (some .boolean) :: lwAll)) B.pre wd (List.mem_cons_of_mem _ h)
  have hown : s.vm.findClass RX7 = some m.cls := findClass_of_methodNamed B.named
  have hlocks := B.notSynchronized
  subst hsz
  have hD := hD0.self (sz := s.heap.size)
  have hl := lv_entry ([.int x0, .int x1, .int x2]) (n := 3) (Nat.le_of_ble_eq_true rfl)
  rw [lg_entry_eq]
  generalize (lg_sl ([.int x0, .int x1, .int x2]) ++ List.replicate (3 - (lg_sl ([.int x0, .int x1, .int x2])).length) Slot.unset).toArray = ls at hl ⊢
  have hl : lv_has ls 3 [(0, .int x0), (1, .int x1), (2, .int x2)] := hl
  have hS : va_S (fun q : Nat => s.heap.size ≤ q) s.heap s.heap [] := va_S.rf
  generalize hQe : MQ below (va_Qi (fun (r : Int32) (_ : Unit) => r = (F_X7_isIn x0 x1 x2) ∧ (r = 0 ∨ r = 1)) (fun _ _ => True) (fun q : Nat => s.heap.size ≤ q)) ([.int x0, .int x1, .int x2] : List Value).toArray s 0 0 (fun q : Nat => s.heap.size ≤ q) = Q
  have hP : va_P D vwCl [] s.heap := hP
  obtain ⟨A, hAe⟩ : ∃ A, A = va_A [] s.heap.size := ⟨_, rfl⟩
  rw [← hAe] at hD hZ
  have hA : ∀ q : Nat, s.heap.size ≤ q → A q := fun q h => by rw [hAe]; exact Or.inr h
  obtain ⟨H, hHe⟩ : ∃ H, H = s.heap := ⟨_, rfl⟩
  obtain ⟨locs, hLe⟩ : ∃ L : List Loc, L = [] := ⟨_, rfl⟩
  have hP : va_P D vwCl [] H := by rw [hHe]; exact hP
  have hS : va_S (fun q : Nat => s.heap.size ≤ q) s.heap H locs := by rw [hHe, hLe]; exact hS
  have hgoal : W p l e ({ frames := 0, cells := 0, slots := 0, locals := 0 } : Room) s m ([.int x0, .int x1, .int x2] : List Value).toArray below meth c H locs 0 0 Q (F0 m 0 ls []) := by
    clear hHe hLe
    refine lv_iload_n hx hb dX7_isIn_0 rfl (lv_at hl 0 rfl) ?_
    refine lv_iload_n hx hb dX7_isIn_1 rfl (lv_at hl 1 rfl) ?_
    refine lv_icmp_lt (tgt := 14) hx hb dX7_isIn_2 (by decide) (fun c_1 => ?_) (fun c_1 => ?_)
    · refine lv_iconst (v := 0) hx hb dX7_isIn_14 (by decide) ?_
      subst hQe
      exact W.zret (ty := .boolean) (v := 0) hx hb hr (zb_narrow zb_0) (fun t ht hW => ⟨⟨0, (), rfl, ⟨(by unfold F_X7_isIn; rw [if_pos c_1]), zb_0⟩, trivial⟩, hS.F ht⟩) hS.2.2 dX7_isIn_15
    · refine lv_iload_n hx hb dX7_isIn_5 rfl (lv_at hl 0 rfl) ?_
      refine lv_iload_n hx hb dX7_isIn_6 rfl (lv_at hl 2 rfl) ?_
      refine lv_icmp_gt (tgt := 14) hx hb dX7_isIn_7 (by decide) (fun c_2 => ?_) (fun c_2 => ?_)
      · refine lv_iconst (v := 0) hx hb dX7_isIn_14 (by decide) ?_
        subst hQe
        exact W.zret (ty := .boolean) (v := 0) hx hb hr (zb_narrow zb_0) (fun t ht hW => ⟨⟨0, (), rfl, ⟨(by unfold F_X7_isIn; rw [if_neg c_1, if_pos c_2]), zb_0⟩, trivial⟩, hS.F ht⟩) hS.2.2 dX7_isIn_15
      · refine lv_iconst (v := 1) hx hb dX7_isIn_10 (by decide) ?_
        refine lv_goto (tgt := 15) hx hb dX7_isIn_11 (by decide) ?_
        subst hQe
        exact W.zret (ty := .boolean) (v := 1) hx hb hr (zb_narrow zb_1) (fun t ht hW => ⟨⟨1, (), rfl, ⟨(by unfold F_X7_isIn; rw [if_neg c_1, if_neg c_2]), zb_1⟩, trivial⟩, hS.F ht⟩) hS.2.2 dX7_isIn_15
  rw [hHe, hLe] at hgoal
  exact hgoal

def F_X7_one (x0 : Int32) : Int32 := (if x0 = 0 then 0 else 1)
set_option maxHeartbeats 4000000 in
set_option maxRecDepth 100000 in
theorem c_X7_one (l : Launch) (D : va_G) (x0 : Int32) (sz : Nat)  : Met l yX7_one (Cond.code yX7_one cX7_one 1 (some .int) :: lwAll) ({ frames := 0, cells := 0, slots := 0, locals := 0 } : Room) (va_Pc [.int x0] (cPre D (lwTY D) [] sz)) (va_Qi (fun (r : Int32) (_ : Unit) => r = (F_X7_one x0)) (fun _ _ => True) (fun q : Nat => sz ≤ q)) 0 0 (fun q : Nat => sz ≤ q) := by
  refine Met.ofW (cc := cX7_one) (maxL := 1) (ret := (some .int)) (by decide) rfl ?_
  intro p e s m args below meth c s₁ B hml hv
  obtain ⟨rfl, hsz, hP, hK, hD0, hN, hZ⟩ := hv
  have hx := B.exec
  have hb := B.bytes
  have hr := B.returns
  have hts : ∀ wd ∈ lwAll, wd.before ([.int x0] : List Value).toArray s = true := fun wd h => atoms_spec (ws := (Cond.code yX7_one cX7_one 1 (some .int) :: lwAll)) B.pre wd (List.mem_cons_of_mem _ h)
  have hown : s.vm.findClass RX7 = some m.cls := findClass_of_methodNamed B.named
  have hlocks := B.notSynchronized
  subst hsz
  have hD := hD0.self (sz := s.heap.size)
  have hl := lv_entry ([.int x0]) (n := 1) (Nat.le_of_ble_eq_true rfl)
  rw [lg_entry_eq]
  generalize (lg_sl ([.int x0]) ++ List.replicate (1 - (lg_sl ([.int x0])).length) Slot.unset).toArray = ls at hl ⊢
  have hl : lv_has ls 1 [(0, .int x0)] := hl
  have hS : va_S (fun q : Nat => s.heap.size ≤ q) s.heap s.heap [] := va_S.rf
  generalize hQe : MQ below (va_Qi (fun (r : Int32) (_ : Unit) => r = (F_X7_one x0)) (fun _ _ => True) (fun q : Nat => s.heap.size ≤ q)) ([.int x0] : List Value).toArray s 0 0 (fun q : Nat => s.heap.size ≤ q) = Q
  have hP : va_P D vwCl [] s.heap := hP
  obtain ⟨A, hAe⟩ : ∃ A, A = va_A [] s.heap.size := ⟨_, rfl⟩
  rw [← hAe] at hD hZ
  have hA : ∀ q : Nat, s.heap.size ≤ q → A q := fun q h => by rw [hAe]; exact Or.inr h
  obtain ⟨H, hHe⟩ : ∃ H, H = s.heap := ⟨_, rfl⟩
  obtain ⟨locs, hLe⟩ : ∃ L : List Loc, L = [] := ⟨_, rfl⟩
  have hP : va_P D vwCl [] H := by rw [hHe]; exact hP
  have hS : va_S (fun q : Nat => s.heap.size ≤ q) s.heap H locs := by rw [hHe, hLe]; exact hS
  have hgoal : W p l e ({ frames := 0, cells := 0, slots := 0, locals := 0 } : Room) s m ([.int x0] : List Value).toArray below meth c H locs 0 0 Q (F0 m 0 ls []) := by
    clear hHe hLe
    refine lv_iload_n hx hb dX7_one_0 rfl (lv_at hl 0 rfl) ?_
    refine lv_if_eq (tgt := 8) hx hb dX7_one_1 (by decide) (fun c_1 => ?_) (fun c_1 => ?_)
    · refine lv_iconst (v := 0) hx hb dX7_one_8 (by decide) ?_
      subst hQe
      exact W.iret (v := 0) hx hb hr (fun t ht hW => ⟨⟨0, (), rfl, (by unfold F_X7_one; rw [if_pos c_1]), trivial⟩, hS.F ht⟩) hS.2.2 dX7_one_9
    · refine lv_iconst (v := 1) hx hb dX7_one_4 (by decide) ?_
      refine lv_goto (tgt := 9) hx hb dX7_one_5 (by decide) ?_
      subst hQe
      exact W.iret (v := 1) hx hb hr (fun t ht hW => ⟨⟨1, (), rfl, (by unfold F_X7_one; rw [if_neg c_1]), trivial⟩, hS.F ht⟩) hS.2.2 dX7_one_9
  rw [hHe, hLe] at hgoal
  exact hgoal

def F_X7_has (x0 : Int32) (x1 : Int32) : Int32 := (if ((x0 >>> (x1 &&& 31)) &&& 1) = 1 then 1 else 0)
set_option maxHeartbeats 4000000 in
set_option maxRecDepth 100000 in
theorem c_X7_has (l : Launch) (D : va_G) (x0 : Int32) (x1 : Int32) (sz : Nat)  : Met l yX7_has (Cond.code yX7_has cX7_has 2 (some .boolean) :: lwAll) ({ frames := 0, cells := 0, slots := 0, locals := 0 } : Room) (va_Pc [.int x0, .int x1] (cPre D (lwTY D) [] sz)) (va_Qi (fun (r : Int32) (_ : Unit) => r = (F_X7_has x0 x1) ∧ (r = 0 ∨ r = 1)) (fun _ _ => True) (fun q : Nat => sz ≤ q)) 0 0 (fun q : Nat => sz ≤ q) := by
  refine Met.ofW (cc := cX7_has) (maxL := 2) (ret := (some .boolean)) (by decide) rfl ?_
  intro p e s m args below meth c s₁ B hml hv
  obtain ⟨rfl, hsz, hP, hK, hD0, hN, hZ⟩ := hv
  have hx := B.exec
  have hb := B.bytes
  have hr := B.returns
  have hts : ∀ wd ∈ lwAll, wd.before ([.int x0, .int x1] : List Value).toArray s = true := fun wd h => atoms_spec (ws := (Cond.code yX7_has cX7_has 2 (some .boolean) :: lwAll)) B.pre wd (List.mem_cons_of_mem _ h)
  have hown : s.vm.findClass RX7 = some m.cls := findClass_of_methodNamed B.named
  have hlocks := B.notSynchronized
  subst hsz
  have hD := hD0.self (sz := s.heap.size)
  have hl := lv_entry ([.int x0, .int x1]) (n := 2) (Nat.le_of_ble_eq_true rfl)
  rw [lg_entry_eq]
  generalize (lg_sl ([.int x0, .int x1]) ++ List.replicate (2 - (lg_sl ([.int x0, .int x1])).length) Slot.unset).toArray = ls at hl ⊢
  have hl : lv_has ls 2 [(0, .int x0), (1, .int x1)] := hl
  have hS : va_S (fun q : Nat => s.heap.size ≤ q) s.heap s.heap [] := va_S.rf
  generalize hQe : MQ below (va_Qi (fun (r : Int32) (_ : Unit) => r = (F_X7_has x0 x1) ∧ (r = 0 ∨ r = 1)) (fun _ _ => True) (fun q : Nat => s.heap.size ≤ q)) ([.int x0, .int x1] : List Value).toArray s 0 0 (fun q : Nat => s.heap.size ≤ q) = Q
  have hP : va_P D vwCl [] s.heap := hP
  obtain ⟨A, hAe⟩ : ∃ A, A = va_A [] s.heap.size := ⟨_, rfl⟩
  rw [← hAe] at hD hZ
  have hA : ∀ q : Nat, s.heap.size ≤ q → A q := fun q h => by rw [hAe]; exact Or.inr h
  obtain ⟨H, hHe⟩ : ∃ H, H = s.heap := ⟨_, rfl⟩
  obtain ⟨locs, hLe⟩ : ∃ L : List Loc, L = [] := ⟨_, rfl⟩
  have hP : va_P D vwCl [] H := by rw [hHe]; exact hP
  have hS : va_S (fun q : Nat => s.heap.size ≤ q) s.heap H locs := by rw [hHe, hLe]; exact hS
  have hgoal : W p l e ({ frames := 0, cells := 0, slots := 0, locals := 0 } : Room) s m ([.int x0, .int x1] : List Value).toArray below meth c H locs 0 0 Q (F0 m 0 ls []) := by
    clear hHe hLe
    refine lv_iload_n hx hb dX7_has_0 rfl (lv_at hl 0 rfl) ?_
    refine lv_iload_n hx hb dX7_has_1 rfl (lv_at hl 1 rfl) ?_
    refine lv_ishr hx hb dX7_has_2 ?_
    refine lv_iconst (v := 1) hx hb dX7_has_3 (by decide) ?_
    refine lv_iand hx hb dX7_has_4 ?_
    refine lv_iconst (v := 1) hx hb dX7_has_5 (by decide) ?_
    refine lv_icmp_ne (tgt := 13) hx hb dX7_has_6 (by decide) (fun c_1 => ?_) (fun c_1 => ?_)
    · refine lv_iconst (v := 0) hx hb dX7_has_13 (by decide) ?_
      subst hQe
      exact W.zret (ty := .boolean) (v := 0) hx hb hr (zb_narrow zb_0) (fun t ht hW => ⟨⟨0, (), rfl, ⟨(by unfold F_X7_has; rw [if_neg c_1]), zb_0⟩, trivial⟩, hS.F ht⟩) hS.2.2 dX7_has_14
    · refine lv_iconst (v := 1) hx hb dX7_has_9 (by decide) ?_
      refine lv_goto (tgt := 14) hx hb dX7_has_10 (by decide) ?_
      subst hQe
      exact W.zret (ty := .boolean) (v := 1) hx hb hr (zb_narrow zb_1) (fun t ht hW => ⟨⟨1, (), rfl, ⟨(by unfold F_X7_has; rw [if_pos c_1]), zb_1⟩, trivial⟩, hS.F ht⟩) hS.2.2 dX7_has_14
  rw [hHe, hLe] at hgoal
  exact hgoal

def F_X7_with (x0 : Int32) (x1 : Int32) (x2 : Int32) : Int32 := (if x2 = 0 then x0 &&& (((1 : Int32) <<< (x1 &&& 31)) ^^^ (-1)) else x0 ||| ((1 : Int32) <<< (x1 &&& 31)))
set_option maxHeartbeats 4000000 in
set_option maxRecDepth 100000 in
theorem c_X7_with (l : Launch) (D : va_G) (x0 : Int32) (x1 : Int32) (x2 : Int32) (sz : Nat)  : Met l yX7_with (Cond.code yX7_with cX7_with 3 (some .int) :: lwAll) ({ frames := 0, cells := 0, slots := 0, locals := 0 } : Room) (va_Pc [.int x0, .int x1, .int x2] (cPre D (lwTY D) [] sz)) (va_Qi (fun (r : Int32) (_ : Unit) => r = (F_X7_with x0 x1 x2)) (fun _ _ => True) (fun q : Nat => sz ≤ q)) 0 0 (fun q : Nat => sz ≤ q) := by
  refine Met.ofW (cc := cX7_with) (maxL := 3) (ret := (some .int)) (by decide) rfl ?_
  intro p e s m args below meth c s₁ B hml hv
  obtain ⟨rfl, hsz, hP, hK, hD0, hN, hZ⟩ := hv
  have hx := B.exec
  have hb := B.bytes
  have hr := B.returns
  have hts : ∀ wd ∈ lwAll, wd.before ([.int x0, .int x1, .int x2] : List Value).toArray s = true := fun wd h => atoms_spec (ws := (Cond.code yX7_with cX7_with 3 (some .int) :: lwAll)) B.pre wd (List.mem_cons_of_mem _ h)
  have hown : s.vm.findClass RX7 = some m.cls := findClass_of_methodNamed B.named
  have hlocks := B.notSynchronized
  subst hsz
  have hD := hD0.self (sz := s.heap.size)
  have hl := lv_entry ([.int x0, .int x1, .int x2]) (n := 3) (Nat.le_of_ble_eq_true rfl)
  rw [lg_entry_eq]
  generalize (lg_sl ([.int x0, .int x1, .int x2]) ++ List.replicate (3 - (lg_sl ([.int x0, .int x1, .int x2])).length) Slot.unset).toArray = ls at hl ⊢
  have hl : lv_has ls 3 [(0, .int x0), (1, .int x1), (2, .int x2)] := hl
  have hS : va_S (fun q : Nat => s.heap.size ≤ q) s.heap s.heap [] := va_S.rf
  generalize hQe : MQ below (va_Qi (fun (r : Int32) (_ : Unit) => r = (F_X7_with x0 x1 x2)) (fun _ _ => True) (fun q : Nat => s.heap.size ≤ q)) ([.int x0, .int x1, .int x2] : List Value).toArray s 0 0 (fun q : Nat => s.heap.size ≤ q) = Q
  have hP : va_P D vwCl [] s.heap := hP
  obtain ⟨A, hAe⟩ : ∃ A, A = va_A [] s.heap.size := ⟨_, rfl⟩
  rw [← hAe] at hD hZ
  have hA : ∀ q : Nat, s.heap.size ≤ q → A q := fun q h => by rw [hAe]; exact Or.inr h
  obtain ⟨H, hHe⟩ : ∃ H, H = s.heap := ⟨_, rfl⟩
  obtain ⟨locs, hLe⟩ : ∃ L : List Loc, L = [] := ⟨_, rfl⟩
  have hP : va_P D vwCl [] H := by rw [hHe]; exact hP
  have hS : va_S (fun q : Nat => s.heap.size ≤ q) s.heap H locs := by rw [hHe, hLe]; exact hS
  have hgoal : W p l e ({ frames := 0, cells := 0, slots := 0, locals := 0 } : Room) s m ([.int x0, .int x1, .int x2] : List Value).toArray below meth c H locs 0 0 Q (F0 m 0 ls []) := by
    clear hHe hLe
    refine lv_iload_n hx hb dX7_with_0 rfl (lv_at hl 2 rfl) ?_
    refine lv_if_eq (tgt := 12) hx hb dX7_with_1 (by decide) (fun c_1 => ?_) (fun c_1 => ?_)
    · refine lv_iload_n hx hb dX7_with_12 rfl (lv_at hl 0 rfl) ?_
      refine lv_iconst (v := 1) hx hb dX7_with_13 (by decide) ?_
      refine lv_iload_n hx hb dX7_with_14 rfl (lv_at hl 1 rfl) ?_
      refine lv_ishl hx hb dX7_with_15 ?_
      refine lv_iconst (v := (-1)) hx hb dX7_with_16 (by decide) ?_
      refine lv_ixor hx hb dX7_with_17 ?_
      refine lv_iand hx hb dX7_with_18 ?_
      subst hQe
      exact W.iret (v := x0 &&& (((1 : Int32) <<< (x1 &&& 31)) ^^^ (-1))) hx hb hr (fun t ht hW => ⟨⟨x0 &&& (((1 : Int32) <<< (x1 &&& 31)) ^^^ (-1)), (), rfl, (by unfold F_X7_with; rw [if_pos c_1]), trivial⟩, hS.F ht⟩) hS.2.2 dX7_with_19
    · refine lv_iload_n hx hb dX7_with_4 rfl (lv_at hl 0 rfl) ?_
      refine lv_iconst (v := 1) hx hb dX7_with_5 (by decide) ?_
      refine lv_iload_n hx hb dX7_with_6 rfl (lv_at hl 1 rfl) ?_
      refine lv_ishl hx hb dX7_with_7 ?_
      refine lv_ior hx hb dX7_with_8 ?_
      refine lv_goto (tgt := 19) hx hb dX7_with_9 (by decide) ?_
      subst hQe
      exact W.iret (v := x0 ||| ((1 : Int32) <<< (x1 &&& 31))) hx hb hr (fun t ht hW => ⟨⟨x0 ||| ((1 : Int32) <<< (x1 &&& 31)), (), rfl, (by unfold F_X7_with; rw [if_neg c_1]), trivial⟩, hS.F ht⟩) hS.2.2 dX7_with_19
  rw [hHe, hLe] at hgoal
  exact hgoal

def F_X7_add (x0 : Int64) (x2 : Int64) : Int64 := (x0 * 31) + x2
set_option maxHeartbeats 4000000 in
set_option maxRecDepth 100000 in
theorem c_X7_add (l : Launch) (D : va_G) (x0 : Int64) (x2 : Int64) (sz : Nat)  : Met l yX7_add (Cond.code yX7_add cX7_add 4 (some .long) :: lwAll) ({ frames := 0, cells := 0, slots := 0, locals := 0 } : Room) (va_Pc [.long x0, .long x2] (cPre D (lwTY D) [] sz)) (va_Ql (fun (r : Int64) (_ : Unit) => r = (F_X7_add x0 x2)) (fun _ _ => True) (fun q : Nat => sz ≤ q)) 0 0 (fun q : Nat => sz ≤ q) := by
  refine Met.ofW (cc := cX7_add) (maxL := 4) (ret := (some .long)) (by decide) rfl ?_
  intro p e s m args below meth c s₁ B hml hv
  obtain ⟨rfl, hsz, hP, hK, hD0, hN, hZ⟩ := hv
  have hx := B.exec
  have hb := B.bytes
  have hr := B.returns
  have hts : ∀ wd ∈ lwAll, wd.before ([.long x0, .long x2] : List Value).toArray s = true := fun wd h => atoms_spec (ws := (Cond.code yX7_add cX7_add 4 (some .long) :: lwAll)) B.pre wd (List.mem_cons_of_mem _ h)
  have hown : s.vm.findClass RX7 = some m.cls := findClass_of_methodNamed B.named
  have hlocks := B.notSynchronized
  subst hsz
  have hD := hD0.self (sz := s.heap.size)
  have hl := lv_entry ([.long x0, .long x2]) (n := 4) (Nat.le_of_ble_eq_true rfl)
  rw [lg_entry_eq]
  generalize (lg_sl ([.long x0, .long x2]) ++ List.replicate (4 - (lg_sl ([.long x0, .long x2])).length) Slot.unset).toArray = ls at hl ⊢
  have hl : lv_has ls 4 [(0, .long x0), (2, .long x2)] := hl
  have hS : va_S (fun q : Nat => s.heap.size ≤ q) s.heap s.heap [] := va_S.rf
  generalize hQe : MQ below (va_Ql (fun (r : Int64) (_ : Unit) => r = (F_X7_add x0 x2)) (fun _ _ => True) (fun q : Nat => s.heap.size ≤ q)) ([.long x0, .long x2] : List Value).toArray s 0 0 (fun q : Nat => s.heap.size ≤ q) = Q
  have hP : va_P D vwCl [] s.heap := hP
  obtain ⟨A, hAe⟩ : ∃ A, A = va_A [] s.heap.size := ⟨_, rfl⟩
  rw [← hAe] at hD hZ
  have hA : ∀ q : Nat, s.heap.size ≤ q → A q := fun q h => by rw [hAe]; exact Or.inr h
  obtain ⟨H, hHe⟩ : ∃ H, H = s.heap := ⟨_, rfl⟩
  obtain ⟨locs, hLe⟩ : ∃ L : List Loc, L = [] := ⟨_, rfl⟩
  have hP : va_P D vwCl [] H := by rw [hHe]; exact hP
  have hS : va_S (fun q : Nat => s.heap.size ≤ q) s.heap H locs := by rw [hHe, hLe]; exact hS
  have hgoal : W p l e ({ frames := 0, cells := 0, slots := 0, locals := 0 } : Room) s m ([.long x0, .long x2] : List Value).toArray below meth c H locs 0 0 Q (F0 m 0 ls []) := by
    clear hHe hLe
    refine lv_lload_n hx hb dX7_add_0 rfl (lv_at hl 0 rfl) ?_
    refine lv_ldc2 (v := 31) hx hb hown (hts _ q_1653) dX7_add_1 ?_
    refine lv_lmul hx hb dX7_add_4 ?_
    refine lv_lload_n hx hb dX7_add_5 rfl (lv_at hl 1 rfl) ?_
    refine lv_ladd hx hb dX7_add_6 ?_
    subst hQe
    exact W.lret (v := (x0 * 31) + x2) hx hb hr (fun t ht hW => ⟨⟨(x0 * 31) + x2, (), rfl, (by rfl), trivial⟩, hS.F ht⟩) hS.2.2 dX7_add_7
  rw [hHe, hLe] at hgoal
  exact hgoal

def F_X7_rowOf (C : Nat) (x1 : Int32) (x2 : Int32) : Int32 := (x1 >>> ((x2 * (nI C)) &&& 31)) &&& (((1 : Int32) <<< ((nI C) &&& 31)) - 1)
set_option maxHeartbeats 4000000 in
set_option maxRecDepth 100000 in
theorem c_X7_rowOf (l : Launch) (D : va_G) (hM : Nat) (th : Int32) (R : Nat) (C : Nat) (fi : Int32) (di : Int32) (he : Int32) (br : Int32) (pa : Int32) (gu : Int32) (sc : Nat) (cl : Int32) (se : Int32) (lo : Int32) (lu : Int32) (rf : Int32) (kl : Nat) (kc : Nat) (sb : Nat) (x1 : Int32) (x2 : Int32) (sz : Nat)  : Met l yX7_rowOf (Cond.code yX7_rowOf cX7_rowOf 3 (some .int) :: lwAll) ({ frames := 0, cells := 0, slots := 0, locals := 0 } : Room) (va_Pc [.ref hM, .int x1, .int x2] (cPre D (lwTY D) [(hM, .inr (14, [.int th, .int (nI R), .int (nI C), .int fi, .int di, .int he, .int br, .int pa, .int gu, .int (nI sc), .int cl, .int se, .int lo, .int lu, .int rf, .ref kl, .ref kc, .ref sb]))] sz)) (va_Qi (fun (r : Int32) (_ : Unit) => r = (F_X7_rowOf C x1 x2)) (fun _ _ => True) (fun q : Nat => sz ≤ q)) 0 0 (fun q : Nat => sz ≤ q) := by
  refine Met.ofW (cc := cX7_rowOf) (maxL := 3) (ret := (some .int)) (by decide) rfl ?_
  intro p e s m args below meth c s₁ B hml hv
  obtain ⟨rfl, hsz, hP, hK, hD0, hN, hZ⟩ := hv
  have hx := B.exec
  have hb := B.bytes
  have hr := B.returns
  have hts : ∀ wd ∈ lwAll, wd.before ([.ref hM, .int x1, .int x2] : List Value).toArray s = true := fun wd h => atoms_spec (ws := (Cond.code yX7_rowOf cX7_rowOf 3 (some .int) :: lwAll)) B.pre wd (List.mem_cons_of_mem _ h)
  have hown : s.vm.findClass RX7 = some m.cls := findClass_of_methodNamed B.named
  have hlocks := B.notSynchronized
  subst hsz
  have hD := hD0.self (sz := s.heap.size)
  have hl := lv_entry ([.ref hM, .int x1, .int x2]) (n := 3) (Nat.le_of_ble_eq_true rfl)
  rw [lg_entry_eq]
  generalize (lg_sl ([.ref hM, .int x1, .int x2]) ++ List.replicate (3 - (lg_sl ([.ref hM, .int x1, .int x2])).length) Slot.unset).toArray = ls at hl ⊢
  have hl : lv_has ls 3 [(0, .ref hM), (1, .int x1), (2, .int x2)] := hl
  have hS : va_S (fun q : Nat => s.heap.size ≤ q) s.heap s.heap [] := va_S.rf
  generalize hQe : MQ below (va_Qi (fun (r : Int32) (_ : Unit) => r = (F_X7_rowOf C x1 x2)) (fun _ _ => True) (fun q : Nat => s.heap.size ≤ q)) ([.ref hM, .int x1, .int x2] : List Value).toArray s 0 0 (fun q : Nat => s.heap.size ≤ q) = Q
  have hP : va_P D vwCl [(hM, .inr (14, [.int th, .int (nI R), .int (nI C), .int fi, .int di, .int he, .int br, .int pa, .int gu, .int (nI sc), .int cl, .int se, .int lo, .int lu, .int rf, .ref kl, .ref kc, .ref sb]))] s.heap := hP
  obtain ⟨A, hAe⟩ : ∃ A, A = va_A [(hM, .inr (14, [.int th, .int (nI R), .int (nI C), .int fi, .int di, .int he, .int br, .int pa, .int gu, .int (nI sc), .int cl, .int se, .int lo, .int lu, .int rf, .ref kl, .ref kc, .ref sb]))] s.heap.size := ⟨_, rfl⟩
  rw [← hAe] at hD hZ
  have hA : ∀ q : Nat, s.heap.size ≤ q → A q := fun q h => by rw [hAe]; exact Or.inr h
  obtain ⟨H, hHe⟩ : ∃ H, H = s.heap := ⟨_, rfl⟩
  obtain ⟨locs, hLe⟩ : ∃ L : List Loc, L = [] := ⟨_, rfl⟩
  have hP : va_P D vwCl [(hM, .inr (14, [.int th, .int (nI R), .int (nI C), .int fi, .int di, .int he, .int br, .int pa, .int gu, .int (nI sc), .int cl, .int se, .int lo, .int lu, .int rf, .ref kl, .ref kc, .ref sb]))] H := by rw [hHe]; exact hP
  have hS : va_S (fun q : Nat => s.heap.size ≤ q) s.heap H locs := by rw [hHe, hLe]; exact hS
  have hgoal : W p l e ({ frames := 0, cells := 0, slots := 0, locals := 0 } : Room) s m ([.ref hM, .int x1, .int x2] : List Value).toArray below meth c H locs 0 0 Q (F0 m 0 ls []) := by
    clear hHe hLe
    refine lv_iload_n hx hb dX7_rowOf_0 rfl (lv_at hl 1 rfl) ?_
    refine lv_iload_n hx hb dX7_rowOf_1 rfl (lv_at hl 2 rfl) ?_
    refine lv_aload_n hx hb dX7_rowOf_2 rfl (lv_at hl 0 rfl) ?_
    refine va_get (D := D) (ci := 14) (v := .int (nI C)) (C := RX7) (T := TX7) (N := 18) hx hb hts in_X7 hown hK hP 0 rfl rfl 2 (by decide) (hts _ q_1270) (fun _ h9 => h9) rfl dX7_rowOf_3 ?_
    refine lv_imul hx hb dX7_rowOf_6 ?_
    refine lv_ishr hx hb dX7_rowOf_7 ?_
    refine lv_iconst (v := 1) hx hb dX7_rowOf_8 (by decide) ?_
    refine lv_aload_n hx hb dX7_rowOf_9 rfl (lv_at hl 0 rfl) ?_
    refine va_get (D := D) (ci := 14) (v := .int (nI C)) (C := RX7) (T := TX7) (N := 18) hx hb hts in_X7 hown hK hP 0 rfl rfl 2 (by decide) (hts _ q_1270) (fun _ h9 => h9) rfl dX7_rowOf_10 ?_
    refine lv_ishl hx hb dX7_rowOf_13 ?_
    refine lv_iconst (v := 1) hx hb dX7_rowOf_14 (by decide) ?_
    refine lv_isub hx hb dX7_rowOf_15 ?_
    refine lv_iand hx hb dX7_rowOf_16 ?_
    subst hQe
    exact W.iret (v := (x1 >>> ((x2 * (nI C)) &&& 31)) &&& (((1 : Int32) <<< ((nI C) &&& 31)) - 1)) hx hb hr (fun t ht hW => ⟨⟨(x1 >>> ((x2 * (nI C)) &&& 31)) &&& (((1 : Int32) <<< ((nI C) &&& 31)) - 1), (), rfl, (by rfl), trivial⟩, hS.F ht⟩) hS.2.2 dX7_rowOf_17
  rw [hHe, hLe] at hgoal
  exact hgoal

def F_X7_isNoKey (K : Nat) (x1 : Int32) : Int32 := (if (F_X7_isIn x1 0 ((F_Jx4a65c_size_8abf5 K) - 1)) = 0 then 1 else 0)
set_option maxHeartbeats 4000000 in
set_option maxRecDepth 100000 in
theorem c_X7_isNoKey (l : Launch) (D : va_G) (hM : Nat) (th : Int32) (R : Nat) (C : Nat) (fi : Int32) (di : Int32) (he : Int32) (br : Int32) (pa : Int32) (gu : Int32) (sc : Nat) (cl : Int32) (se : Int32) (lo : Int32) (lu : Int32) (rf : Int32) (kl : Nat) (kc : Nat) (sb : Nat) (km : Int32) (kd : Nat) (K : Nat) (x1 : Int32) (sz : Nat)  : Met l yX7_isNoKey (Cond.code yX7_isNoKey cX7_isNoKey 2 (some .boolean) :: lwAll) ({ frames := 1, cells := 0, slots := 0, locals := 22 } : Room) (va_Pc [.ref hM, .int x1] (cPre D (lwTY D) [(hM, .inr (14, [.int th, .int (nI R), .int (nI C), .int fi, .int di, .int he, .int br, .int pa, .int gu, .int (nI sc), .int cl, .int se, .int lo, .int lu, .int rf, .ref kl, .ref kc, .ref sb])), (kl, .inr (6, [.int km, .ref kd, .int (nI K)]))] sz)) (va_Qi (fun (r : Int32) (_ : Unit) => r = (F_X7_isNoKey K x1) ∧ (r = 0 ∨ r = 1)) (fun _ _ => True) (fun q : Nat => sz ≤ q)) 0 0 (fun q : Nat => sz ≤ q) := by
  refine Met.ofW (cc := cX7_isNoKey) (maxL := 2) (ret := (some .boolean)) (by decide) rfl ?_
  intro p e s m args below meth c s₁ B hml hv
  obtain ⟨rfl, hsz, hP, hK, hD0, hN, hZ⟩ := hv
  have hx := B.exec
  have hb := B.bytes
  have hr := B.returns
  have hts : ∀ wd ∈ lwAll, wd.before ([.ref hM, .int x1] : List Value).toArray s = true := fun wd h => atoms_spec (ws := (Cond.code yX7_isNoKey cX7_isNoKey 2 (some .boolean) :: lwAll)) B.pre wd (List.mem_cons_of_mem _ h)
  have hown : s.vm.findClass RX7 = some m.cls := findClass_of_methodNamed B.named
  have hlocks := B.notSynchronized
  subst hsz
  have hD := hD0.self (sz := s.heap.size)
  have hl := lv_entry ([.ref hM, .int x1]) (n := 2) (Nat.le_of_ble_eq_true rfl)
  rw [lg_entry_eq]
  generalize (lg_sl ([.ref hM, .int x1]) ++ List.replicate (2 - (lg_sl ([.ref hM, .int x1])).length) Slot.unset).toArray = ls at hl ⊢
  have hl : lv_has ls 2 [(0, .ref hM), (1, .int x1)] := hl
  have hS : va_S (fun q : Nat => s.heap.size ≤ q) s.heap s.heap [] := va_S.rf
  generalize hQe : MQ below (va_Qi (fun (r : Int32) (_ : Unit) => r = (F_X7_isNoKey K x1) ∧ (r = 0 ∨ r = 1)) (fun _ _ => True) (fun q : Nat => s.heap.size ≤ q)) ([.ref hM, .int x1] : List Value).toArray s 0 0 (fun q : Nat => s.heap.size ≤ q) = Q
  have hP : va_P D vwCl [(hM, .inr (14, [.int th, .int (nI R), .int (nI C), .int fi, .int di, .int he, .int br, .int pa, .int gu, .int (nI sc), .int cl, .int se, .int lo, .int lu, .int rf, .ref kl, .ref kc, .ref sb])), (kl, .inr (6, [.int km, .ref kd, .int (nI K)]))] s.heap := hP
  obtain ⟨A, hAe⟩ : ∃ A, A = va_A [(hM, .inr (14, [.int th, .int (nI R), .int (nI C), .int fi, .int di, .int he, .int br, .int pa, .int gu, .int (nI sc), .int cl, .int se, .int lo, .int lu, .int rf, .ref kl, .ref kc, .ref sb])), (kl, .inr (6, [.int km, .ref kd, .int (nI K)]))] s.heap.size := ⟨_, rfl⟩
  rw [← hAe] at hD hZ
  have hA : ∀ q : Nat, s.heap.size ≤ q → A q := fun q h => by rw [hAe]; exact Or.inr h
  obtain ⟨H, hHe⟩ : ∃ H, H = s.heap := ⟨_, rfl⟩
  obtain ⟨locs, hLe⟩ : ∃ L : List Loc, L = [] := ⟨_, rfl⟩
  have hP : va_P D vwCl [(hM, .inr (14, [.int th, .int (nI R), .int (nI C), .int fi, .int di, .int he, .int br, .int pa, .int gu, .int (nI sc), .int cl, .int se, .int lo, .int lu, .int rf, .ref kl, .ref kc, .ref sb])), (kl, .inr (6, [.int km, .ref kd, .int (nI K)]))] H := by rw [hHe]; exact hP
  have hS : va_S (fun q : Nat => s.heap.size ≤ q) s.heap H locs := by rw [hHe, hLe]; exact hS
  have hgoal : W p l e ({ frames := 1, cells := 0, slots := 0, locals := 22 } : Room) s m ([.ref hM, .int x1] : List Value).toArray below meth c H locs 0 0 Q (F0 m 0 ls []) := by
    clear hHe hLe
    refine lv_iload_n hx hb dX7_isNoKey_0 rfl (lv_at hl 1 rfl) ?_
    refine lv_iconst (v := 0) hx hb dX7_isNoKey_1 (by decide) ?_
    refine lv_aload_n hx hb dX7_isNoKey_2 rfl (lv_at hl 0 rfl) ?_
    refine va_get (D := D) (ci := 14) (v := .ref kl) (C := RX7) (T := TX7) (N := 18) hx hb hts in_X7 hown hK hP 0 rfl rfl 15 (by decide) (hts _ q_1283) (fun _ h9 => h9) rfl dX7_isNoKey_3 ?_
    have hPc := hP.sub (ws' := [(kl, .inr (6, [.int km, .ref kd, .int (nI K)]))]) [1] rfl
    have hDc := hD.sub (ws' := [(kl, .inr (6, [.int km, .ref kd, .int (nI K)]))]) [1] (by decide) rfl
    have hFc := va_free (wc := [(kl, .inr (6, [.int km, .ref kd, .int (nI K)]))]) hD (va_S_up hS hA) hA [1] rfl
    refine va_calli (va_runV (As := []) (rest := [.int 0, .int x1]) ⟨hx, hb, hml, hown, hts⟩ (c_Jx4a65c_size_8abf5 l D kl km kd K H.size ) (cwV 0 hts (gi_V q_1263 q_1264 q_1265 q_107 q_1266) rfl rfl rfl (by decide +kernel) ⟨Nat.le_of_ble_eq_true rfl, Nat.le_of_ble_eq_true rfl⟩) ⟨cPre_blind, va_recv hK hP (ci := 6) (q0 := 1) rfl rfl, cPre_mk hPc hK hDc hN (lwZ_for hZ (va_S_up hS hA) hFc)⟩ rfl rfl hl.1 rfl (lv_room (Nat.le_of_ble_eq_true rfl)) dX7_isNoKey_6 ⟨(Nat.le_of_ble_eq_true rfl), (Nat.le_of_ble_eq_true rfl)⟩) hS (fun q h1 h2 => absurd h2 (Nat.not_le.mpr h1)) (fun q h => Nat.le_trans hS.1 h) (fun r_6 u t H1 locs ht hvm hw hBk hz1 hk1 hS => ?_)
    have hP := va_P_ro hP hk1
    subst hw
    clear hBk hvm ht u hz1 hk1
    clear hPc hDc hFc; clear t
    generalize H1 = H at hP hS ⊢
    have hP : va_P D vwCl [(hM, .inr (14, [.int th, .int (nI R), .int (nI C), .int fi, .int di, .int he, .int br, .int pa, .int gu, .int (nI sc), .int cl, .int se, .int lo, .int lu, .int rf, .ref kl, .ref kc, .ref sb])), (kl, .inr (6, [.int km, .ref kd, .int (nI K)]))] H := hP
    have hD : va_D A [(hM, .inr (14, [.int th, .int (nI R), .int (nI C), .int fi, .int di, .int he, .int br, .int pa, .int gu, .int (nI sc), .int cl, .int se, .int lo, .int lu, .int rf, .ref kl, .ref kc, .ref sb])), (kl, .inr (6, [.int km, .ref kd, .int (nI K)]))] := hD
    refine lv_iconst (v := 1) hx hb dX7_isNoKey_9 (by decide) ?_
    refine lv_isub hx hb dX7_isNoKey_10 ?_
    have hPc := hP.sub (ws' := []) [] rfl
    have hDc := hD.sub (ws' := []) [] (by decide) rfl
    have hFc := va_free (wc := []) hD (va_S_up hS hA) hA [] rfl
    refine va_calli (va_runS (As := [.int x1, .int 0, .int ((F_Jx4a65c_size_8abf5 K) - 1)]) (rest := []) ⟨hx, hb, hml, hown, hts⟩ (c_X7_isIn l D x1 0 ((F_Jx4a65c_size_8abf5 K) - 1) H.size ) (cwS 3 hts (gi_S q_1327 q_1328 q_104 q_1329) rfl rfl rfl (by decide +kernel) ⟨Nat.le_of_ble_eq_true rfl, Nat.le_of_ble_eq_true rfl⟩) ⟨cPre_blind, cPre_mk hPc hK hDc hN (lwZ_for hZ (va_S_up hS hA) hFc)⟩ rfl rfl hl.1 rfl (lv_room (Nat.le_of_ble_eq_true rfl)) dX7_isNoKey_11 ⟨(Nat.le_of_ble_eq_true rfl), (Nat.le_of_ble_eq_true rfl)⟩) hS (fun q h1 h2 => absurd h2 (Nat.not_le.mpr h1)) (fun q h => Nat.le_trans hS.1 h) (fun r_11 u t H1 locs ht hvm hw hBk hz1 hk1 hS => ?_)
    have hP := va_P_ro hP hk1
    obtain ⟨hw, z_1⟩ := hw
    rw [hw] at z_1
    subst hw
    clear hBk hvm ht u hz1 hk1
    clear hPc hDc hFc; clear t
    generalize H1 = H at hP hS ⊢
    have hP : va_P D vwCl [(hM, .inr (14, [.int th, .int (nI R), .int (nI C), .int fi, .int di, .int he, .int br, .int pa, .int gu, .int (nI sc), .int cl, .int se, .int lo, .int lu, .int rf, .ref kl, .ref kc, .ref sb])), (kl, .inr (6, [.int km, .ref kd, .int (nI K)]))] H := hP
    have hD : va_D A [(hM, .inr (14, [.int th, .int (nI R), .int (nI C), .int fi, .int di, .int he, .int br, .int pa, .int gu, .int (nI sc), .int cl, .int se, .int lo, .int lu, .int rf, .ref kl, .ref kc, .ref sb])), (kl, .inr (6, [.int km, .ref kd, .int (nI K)]))] := hD
    refine lv_if_ne (tgt := 21) hx hb dX7_isNoKey_14 (by decide) (fun c_2 => ?_) (fun c_2 => ?_)
    · refine lv_iconst (v := 0) hx hb dX7_isNoKey_21 (by decide) ?_
      subst hQe
      exact W.zret (ty := .boolean) (v := 0) hx hb hr (zb_narrow zb_0) (fun t ht hW => ⟨⟨0, (), rfl, ⟨(by unfold F_X7_isNoKey; rw [if_neg c_2]), zb_0⟩, trivial⟩, hS.F ht⟩) hS.2.2 dX7_isNoKey_22
    · refine lv_iconst (v := 1) hx hb dX7_isNoKey_17 (by decide) ?_
      refine lv_goto (tgt := 22) hx hb dX7_isNoKey_18 (by decide) ?_
      subst hQe
      exact W.zret (ty := .boolean) (v := 1) hx hb hr (zb_narrow zb_1) (fun t ht hW => ⟨⟨1, (), rfl, ⟨(by unfold F_X7_isNoKey; rw [if_pos c_2]), zb_1⟩, trivial⟩, hS.F ht⟩) hS.2.2 dX7_isNoKey_22
  rw [hHe, hLe] at hgoal
  exact hgoal

def F_X7_isNoSet (K : Nat) (x1 : Int32) : Int32 := (if x1 < 0 then 1 else (if (x1 >>> ((F_Jx4a65c_size_8abf5 K) &&& 31)) = 0 then 0 else 1))
set_option maxHeartbeats 4000000 in
set_option maxRecDepth 100000 in
theorem c_X7_isNoSet (l : Launch) (D : va_G) (hM : Nat) (th : Int32) (R : Nat) (C : Nat) (fi : Int32) (di : Int32) (he : Int32) (br : Int32) (pa : Int32) (gu : Int32) (sc : Nat) (cl : Int32) (se : Int32) (lo : Int32) (lu : Int32) (rf : Int32) (kl : Nat) (kc : Nat) (sb : Nat) (km : Int32) (kd : Nat) (K : Nat) (x1 : Int32) (sz : Nat)  : Met l yX7_isNoSet (Cond.code yX7_isNoSet cX7_isNoSet 2 (some .boolean) :: lwAll) ({ frames := 1, cells := 0, slots := 0, locals := 20 } : Room) (va_Pc [.ref hM, .int x1] (cPre D (lwTY D) [(hM, .inr (14, [.int th, .int (nI R), .int (nI C), .int fi, .int di, .int he, .int br, .int pa, .int gu, .int (nI sc), .int cl, .int se, .int lo, .int lu, .int rf, .ref kl, .ref kc, .ref sb])), (kl, .inr (6, [.int km, .ref kd, .int (nI K)]))] sz)) (va_Qi (fun (r : Int32) (_ : Unit) => r = (F_X7_isNoSet K x1) ∧ (r = 0 ∨ r = 1)) (fun _ _ => True) (fun q : Nat => sz ≤ q)) 0 0 (fun q : Nat => sz ≤ q) := by
  refine Met.ofW (cc := cX7_isNoSet) (maxL := 2) (ret := (some .boolean)) (by decide) rfl ?_
  intro p e s m args below meth c s₁ B hml hv
  obtain ⟨rfl, hsz, hP, hK, hD0, hN, hZ⟩ := hv
  have hx := B.exec
  have hb := B.bytes
  have hr := B.returns
  have hts : ∀ wd ∈ lwAll, wd.before ([.ref hM, .int x1] : List Value).toArray s = true := fun wd h => atoms_spec (ws := (Cond.code yX7_isNoSet cX7_isNoSet 2 (some .boolean) :: lwAll)) B.pre wd (List.mem_cons_of_mem _ h)
  have hown : s.vm.findClass RX7 = some m.cls := findClass_of_methodNamed B.named
  have hlocks := B.notSynchronized
  subst hsz
  have hD := hD0.self (sz := s.heap.size)
  have hl := lv_entry ([.ref hM, .int x1]) (n := 2) (Nat.le_of_ble_eq_true rfl)
  rw [lg_entry_eq]
  generalize (lg_sl ([.ref hM, .int x1]) ++ List.replicate (2 - (lg_sl ([.ref hM, .int x1])).length) Slot.unset).toArray = ls at hl ⊢
  have hl : lv_has ls 2 [(0, .ref hM), (1, .int x1)] := hl
  have hS : va_S (fun q : Nat => s.heap.size ≤ q) s.heap s.heap [] := va_S.rf
  generalize hQe : MQ below (va_Qi (fun (r : Int32) (_ : Unit) => r = (F_X7_isNoSet K x1) ∧ (r = 0 ∨ r = 1)) (fun _ _ => True) (fun q : Nat => s.heap.size ≤ q)) ([.ref hM, .int x1] : List Value).toArray s 0 0 (fun q : Nat => s.heap.size ≤ q) = Q
  have hP : va_P D vwCl [(hM, .inr (14, [.int th, .int (nI R), .int (nI C), .int fi, .int di, .int he, .int br, .int pa, .int gu, .int (nI sc), .int cl, .int se, .int lo, .int lu, .int rf, .ref kl, .ref kc, .ref sb])), (kl, .inr (6, [.int km, .ref kd, .int (nI K)]))] s.heap := hP
  obtain ⟨A, hAe⟩ : ∃ A, A = va_A [(hM, .inr (14, [.int th, .int (nI R), .int (nI C), .int fi, .int di, .int he, .int br, .int pa, .int gu, .int (nI sc), .int cl, .int se, .int lo, .int lu, .int rf, .ref kl, .ref kc, .ref sb])), (kl, .inr (6, [.int km, .ref kd, .int (nI K)]))] s.heap.size := ⟨_, rfl⟩
  rw [← hAe] at hD hZ
  have hA : ∀ q : Nat, s.heap.size ≤ q → A q := fun q h => by rw [hAe]; exact Or.inr h
  obtain ⟨H, hHe⟩ : ∃ H, H = s.heap := ⟨_, rfl⟩
  obtain ⟨locs, hLe⟩ : ∃ L : List Loc, L = [] := ⟨_, rfl⟩
  have hP : va_P D vwCl [(hM, .inr (14, [.int th, .int (nI R), .int (nI C), .int fi, .int di, .int he, .int br, .int pa, .int gu, .int (nI sc), .int cl, .int se, .int lo, .int lu, .int rf, .ref kl, .ref kc, .ref sb])), (kl, .inr (6, [.int km, .ref kd, .int (nI K)]))] H := by rw [hHe]; exact hP
  have hS : va_S (fun q : Nat => s.heap.size ≤ q) s.heap H locs := by rw [hHe, hLe]; exact hS
  have hgoal : W p l e ({ frames := 1, cells := 0, slots := 0, locals := 20 } : Room) s m ([.ref hM, .int x1] : List Value).toArray below meth c H locs 0 0 Q (F0 m 0 ls []) := by
    clear hHe hLe
    refine lv_iload_n hx hb dX7_isNoSet_0 rfl (lv_at hl 1 rfl) ?_
    refine lv_if_lt (tgt := 16) hx hb dX7_isNoSet_1 (by decide) (fun c_1 => ?_) (fun c_1 => ?_)
    · refine lv_iconst (v := 1) hx hb dX7_isNoSet_16 (by decide) ?_
      refine lv_goto (tgt := 21) hx hb dX7_isNoSet_17 (by decide) ?_
      subst hQe
      exact W.zret (ty := .boolean) (v := 1) hx hb hr (zb_narrow zb_1) (fun t ht hW => ⟨⟨1, (), rfl, ⟨(by unfold F_X7_isNoSet; rw [if_pos c_1]), zb_1⟩, trivial⟩, hS.F ht⟩) hS.2.2 dX7_isNoSet_21
    · refine lv_iload_n hx hb dX7_isNoSet_4 rfl (lv_at hl 1 rfl) ?_
      refine lv_aload_n hx hb dX7_isNoSet_5 rfl (lv_at hl 0 rfl) ?_
      refine va_get (D := D) (ci := 14) (v := .ref kl) (C := RX7) (T := TX7) (N := 18) hx hb hts in_X7 hown hK hP 0 rfl rfl 15 (by decide) (hts _ q_1283) (fun _ h9 => h9) rfl dX7_isNoSet_6 ?_
      have hPc := hP.sub (ws' := [(kl, .inr (6, [.int km, .ref kd, .int (nI K)]))]) [1] rfl
      have hDc := hD.sub (ws' := [(kl, .inr (6, [.int km, .ref kd, .int (nI K)]))]) [1] (by decide) rfl
      have hFc := va_free (wc := [(kl, .inr (6, [.int km, .ref kd, .int (nI K)]))]) hD (va_S_up hS hA) hA [1] rfl
      refine va_calli (va_runV (As := []) (rest := [.int x1]) ⟨hx, hb, hml, hown, hts⟩ (c_Jx4a65c_size_8abf5 l D kl km kd K H.size ) (cwV 0 hts (gi_V q_1263 q_1264 q_1265 q_107 q_1266) rfl rfl rfl (by decide +kernel) ⟨Nat.le_of_ble_eq_true rfl, Nat.le_of_ble_eq_true rfl⟩) ⟨cPre_blind, va_recv hK hP (ci := 6) (q0 := 1) rfl rfl, cPre_mk hPc hK hDc hN (lwZ_for hZ (va_S_up hS hA) hFc)⟩ rfl rfl hl.1 rfl (lv_room (Nat.le_of_ble_eq_true rfl)) dX7_isNoSet_9 ⟨(Nat.le_of_ble_eq_true rfl), (Nat.le_of_ble_eq_true rfl)⟩) hS (fun q h1 h2 => absurd h2 (Nat.not_le.mpr h1)) (fun q h => Nat.le_trans hS.1 h) (fun r_9 u t H1 locs ht hvm hw hBk hz1 hk1 hS => ?_)
      have hP := va_P_ro hP hk1
      subst hw
      clear hBk hvm ht u hz1 hk1
      clear hPc hDc hFc; clear t
      generalize H1 = H at hP hS ⊢
      have hP : va_P D vwCl [(hM, .inr (14, [.int th, .int (nI R), .int (nI C), .int fi, .int di, .int he, .int br, .int pa, .int gu, .int (nI sc), .int cl, .int se, .int lo, .int lu, .int rf, .ref kl, .ref kc, .ref sb])), (kl, .inr (6, [.int km, .ref kd, .int (nI K)]))] H := hP
      have hD : va_D A [(hM, .inr (14, [.int th, .int (nI R), .int (nI C), .int fi, .int di, .int he, .int br, .int pa, .int gu, .int (nI sc), .int cl, .int se, .int lo, .int lu, .int rf, .ref kl, .ref kc, .ref sb])), (kl, .inr (6, [.int km, .ref kd, .int (nI K)]))] := hD
      refine lv_ishr hx hb dX7_isNoSet_12 ?_
      refine lv_if_eq (tgt := 20) hx hb dX7_isNoSet_13 (by decide) (fun c_2 => ?_) (fun c_2 => ?_)
      · refine lv_iconst (v := 0) hx hb dX7_isNoSet_20 (by decide) ?_
        subst hQe
        exact W.zret (ty := .boolean) (v := 0) hx hb hr (zb_narrow zb_0) (fun t ht hW => ⟨⟨0, (), rfl, ⟨(by unfold F_X7_isNoSet; rw [if_neg c_1, if_pos c_2]), zb_0⟩, trivial⟩, hS.F ht⟩) hS.2.2 dX7_isNoSet_21
      · refine lv_iconst (v := 1) hx hb dX7_isNoSet_16 (by decide) ?_
        refine lv_goto (tgt := 21) hx hb dX7_isNoSet_17 (by decide) ?_
        subst hQe
        exact W.zret (ty := .boolean) (v := 1) hx hb hr (zb_narrow zb_1) (fun t ht hW => ⟨⟨1, (), rfl, ⟨(by unfold F_X7_isNoSet; rw [if_neg c_1, if_neg c_2]), zb_1⟩, trivial⟩, hS.F ht⟩) hS.2.2 dX7_isNoSet_21
  rw [hHe, hLe] at hgoal
  exact hgoal
