def F_Jx4a65c_size_8abf5 (K : Nat) : Int32 := nI K
set_option maxHeartbeats 4000000 in
set_option maxRecDepth 100000 in
theorem c_Jx4a65c_size_8abf5 (l : Launch) (D : va_G) (kl : Nat) (km : Int32) (kd : Nat) (K : Nat) (sz : Nat)  : Met l yJx4a65c_size_8abf5 (Cond.code yJx4a65c_size_8abf5 cJx4a65c_size_8abf5 1 (some .int) :: lwAll) ({ frames := 0, cells := 0, slots := 0, locals := 0 } : Room) (va_Pc [.ref kl] (cPre D (lwTY D) [(kl, .inr (6, [.int km, .ref kd, .int (nI K)]))] sz)) (va_Qi (fun (r : Int32) (_ : Unit) => r = (F_Jx4a65c_size_8abf5 K)) (fun _ _ => True) (fun q : Nat => sz ≤ q)) 0 0 (fun q : Nat => sz ≤ q) := by
  refine Met.ofW (cc := cJx4a65c_size_8abf5) (maxL := 1) (ret := (some .int)) (by decide) rfl ?_
  intro p e s m args below meth c s₁ B hml hv
  obtain ⟨rfl, hsz, hP, hK, hD0, hN, hZ⟩ := hv
  have hx := B.exec
  have hb := B.bytes
  have hr := B.returns
  have hts : ∀ wd ∈ lwAll, wd.before ([.ref kl] : List Value).toArray s = true := fun wd h => atoms_spec (ws := (Cond.code yJx4a65c_size_8abf5 cJx4a65c_size_8abf5 1 (some .int) :: lwAll)) B.pre wd (List.mem_cons_of_mem _ h)
  have hown : s.vm.findClass RJx4a65c = some m.cls := findClass_of_methodNamed B.named
  have hlocks := B.notSynchronized
  subst hsz
  have hD := hD0.self (sz := s.heap.size)
  have hl := lv_entry ([.ref kl]) (n := 1) (Nat.le_of_ble_eq_true rfl)
  rw [lg_entry_eq]
  generalize (lg_sl ([.ref kl]) ++ List.replicate (1 - (lg_sl ([.ref kl])).length) Slot.unset).toArray = ls at hl ⊢
  have hl : lv_has ls 1 [(0, .ref kl)] := hl
  have hS : va_S (fun q : Nat => s.heap.size ≤ q) s.heap s.heap [] := va_S.rf
  generalize hQe : MQ below (va_Qi (fun (r : Int32) (_ : Unit) => r = (F_Jx4a65c_size_8abf5 K)) (fun _ _ => True) (fun q : Nat => s.heap.size ≤ q)) ([.ref kl] : List Value).toArray s 0 0 (fun q : Nat => s.heap.size ≤ q) = Q
  have hP : va_P D vwCl [(kl, .inr (6, [.int km, .ref kd, .int (nI K)]))] s.heap := hP
  obtain ⟨A, hAe⟩ : ∃ A, A = va_A [(kl, .inr (6, [.int km, .ref kd, .int (nI K)]))] s.heap.size := ⟨_, rfl⟩
  rw [← hAe] at hD hZ
  have hA : ∀ q : Nat, s.heap.size ≤ q → A q := fun q h => by rw [hAe]; exact Or.inr h
  obtain ⟨H, hHe⟩ : ∃ H, H = s.heap := ⟨_, rfl⟩
  obtain ⟨locs, hLe⟩ : ∃ L : List Loc, L = [] := ⟨_, rfl⟩
  have hP : va_P D vwCl [(kl, .inr (6, [.int km, .ref kd, .int (nI K)]))] H := by rw [hHe]; exact hP
  have hS : va_S (fun q : Nat => s.heap.size ≤ q) s.heap H locs := by rw [hHe, hLe]; exact hS
  have hgoal : W p l e ({ frames := 0, cells := 0, slots := 0, locals := 0 } : Room) s m ([.ref kl] : List Value).toArray below meth c H locs 0 0 Q (F0 m 0 ls []) := by
    clear hHe hLe
    refine lv_aload_n hx hb dJx4a65c_size_8abf5_0 rfl (lv_at hl 0 rfl) ?_
    refine va_get (D := D) (ci := 6) (v := .int (nI K)) (C := RJx4a65c) (T := TJx4a65c) (N := 3) hx hb hts in_Jx4a65c hown hK hP 0 rfl rfl 2 (by decide) (hts _ q_1154) (fun _ h9 => h9) rfl dJx4a65c_size_8abf5_1 ?_
    subst hQe
    exact W.iret (v := nI K) hx hb hr (fun t ht hW => ⟨⟨nI K, (), rfl, (by rfl), trivial⟩, hS.F ht⟩) hS.2.2 dJx4a65c_size_8abf5_4
  rw [hHe, hLe] at hgoal
  exact hgoal

def F_Jx4a65c_isEmpty_aae02 (K : Nat) : Int32 := (if (nI K) = 0 then 1 else 0)
set_option maxHeartbeats 4000000 in
set_option maxRecDepth 100000 in
theorem c_Jx4a65c_isEmpty_aae02 (l : Launch) (D : va_G) (kl : Nat) (km : Int32) (kd : Nat) (K : Nat) (sz : Nat)  : Met l yJx4a65c_isEmpty_aae02 (Cond.code yJx4a65c_isEmpty_aae02 cJx4a65c_isEmpty_aae02 1 (some .boolean) :: lwAll) ({ frames := 0, cells := 0, slots := 0, locals := 0 } : Room) (va_Pc [.ref kl] (cPre D (lwTY D) [(kl, .inr (6, [.int km, .ref kd, .int (nI K)]))] sz)) (va_Qi (fun (r : Int32) (_ : Unit) => r = (F_Jx4a65c_isEmpty_aae02 K) ∧ (r = 0 ∨ r = 1)) (fun _ _ => True) (fun q : Nat => sz ≤ q)) 0 0 (fun q : Nat => sz ≤ q) := by
  refine Met.ofW (cc := cJx4a65c_isEmpty_aae02) (maxL := 1) (ret := (some .boolean)) (by decide) rfl ?_
  intro p e s m args below meth c s₁ B hml hv
  obtain ⟨rfl, hsz, hP, hK, hD0, hN, hZ⟩ := hv
  have hx := B.exec
  have hb := B.bytes
  have hr := B.returns
  have hts : ∀ wd ∈ lwAll, wd.before ([.ref kl] : List Value).toArray s = true := fun wd h => atoms_spec (ws := (Cond.code yJx4a65c_isEmpty_aae02 cJx4a65c_isEmpty_aae02 1 (some .boolean) :: lwAll)) B.pre wd (List.mem_cons_of_mem _ h)
  have hown : s.vm.findClass RJx4a65c = some m.cls := findClass_of_methodNamed B.named
  have hlocks := B.notSynchronized
  subst hsz
  have hD := hD0.self (sz := s.heap.size)
  have hl := lv_entry ([.ref kl]) (n := 1) (Nat.le_of_ble_eq_true rfl)
  rw [lg_entry_eq]
  generalize (lg_sl ([.ref kl]) ++ List.replicate (1 - (lg_sl ([.ref kl])).length) Slot.unset).toArray = ls at hl ⊢
  have hl : lv_has ls 1 [(0, .ref kl)] := hl
  have hS : va_S (fun q : Nat => s.heap.size ≤ q) s.heap s.heap [] := va_S.rf
  generalize hQe : MQ below (va_Qi (fun (r : Int32) (_ : Unit) => r = (F_Jx4a65c_isEmpty_aae02 K) ∧ (r = 0 ∨ r = 1)) (fun _ _ => True) (fun q : Nat => s.heap.size ≤ q)) ([.ref kl] : List Value).toArray s 0 0 (fun q : Nat => s.heap.size ≤ q) = Q
  have hP : va_P D vwCl [(kl, .inr (6, [.int km, .ref kd, .int (nI K)]))] s.heap := hP
  obtain ⟨A, hAe⟩ : ∃ A, A = va_A [(kl, .inr (6, [.int km, .ref kd, .int (nI K)]))] s.heap.size := ⟨_, rfl⟩
  rw [← hAe] at hD hZ
  have hA : ∀ q : Nat, s.heap.size ≤ q → A q := fun q h => by rw [hAe]; exact Or.inr h
  obtain ⟨H, hHe⟩ : ∃ H, H = s.heap := ⟨_, rfl⟩
  obtain ⟨locs, hLe⟩ : ∃ L : List Loc, L = [] := ⟨_, rfl⟩
  have hP : va_P D vwCl [(kl, .inr (6, [.int km, .ref kd, .int (nI K)]))] H := by rw [hHe]; exact hP
  have hS : va_S (fun q : Nat => s.heap.size ≤ q) s.heap H locs := by rw [hHe, hLe]; exact hS
  have hgoal : W p l e ({ frames := 0, cells := 0, slots := 0, locals := 0 } : Room) s m ([.ref kl] : List Value).toArray below meth c H locs 0 0 Q (F0 m 0 ls []) := by
    clear hHe hLe
    refine lv_aload_n hx hb dJx4a65c_isEmpty_aae02_0 rfl (lv_at hl 0 rfl) ?_
    refine va_get (D := D) (ci := 6) (v := .int (nI K)) (C := RJx4a65c) (T := TJx4a65c) (N := 3) hx hb hts in_Jx4a65c hown hK hP 0 rfl rfl 2 (by decide) (hts _ q_1154) (fun _ h9 => h9) rfl dJx4a65c_isEmpty_aae02_1 ?_
    refine lv_if_ne (tgt := 11) hx hb dJx4a65c_isEmpty_aae02_4 (by decide) (fun c_1 => ?_) (fun c_1 => ?_)
    · refine lv_iconst (v := 0) hx hb dJx4a65c_isEmpty_aae02_11 (by decide) ?_
      subst hQe
      exact W.zret (ty := .boolean) (v := 0) hx hb hr (zb_narrow zb_0) (fun t ht hW => ⟨⟨0, (), rfl, ⟨(by unfold F_Jx4a65c_isEmpty_aae02; rw [if_neg c_1]), zb_0⟩, trivial⟩, hS.F ht⟩) hS.2.2 dJx4a65c_isEmpty_aae02_12
    · refine lv_iconst (v := 1) hx hb dJx4a65c_isEmpty_aae02_7 (by decide) ?_
      refine lv_goto (tgt := 12) hx hb dJx4a65c_isEmpty_aae02_8 (by decide) ?_
      subst hQe
      exact W.zret (ty := .boolean) (v := 1) hx hb hr (zb_narrow zb_1) (fun t ht hW => ⟨⟨1, (), rfl, ⟨(by unfold F_Jx4a65c_isEmpty_aae02; rw [if_pos c_1]), zb_1⟩, trivial⟩, hS.F ht⟩) hS.2.2 dJx4a65c_isEmpty_aae02_12
  rw [hHe, hLe] at hgoal
  exact hgoal

def F_X7_isIn (x0 : Int32) (x1 : Int32) (x2 : Int32) : Int32 := (if x0 < x1 then 0 else (if x2 < x0 then 0 else 1))
set_option maxHeartbeats 4000000 in
set_option maxRecDepth 100000 in
theorem c_X7_isIn (l : Launch) (D : va_G) (x0 : Int32) (x1 : Int32) (x2 : Int32) (sz : Nat)  : Met l yX7_isIn (Cond.code yX7_isIn cX7_isIn 3 (some .boolean) :: lwAll) ({ frames := 0, cells := 0, slots := 0, locals := 0 } : Room) (va_Pc [.int x0, .int x1, .int x2] (cPre D (lwTY D) [] sz)) (va_Qi (fun (r : Int32) (_ : Unit) => r = (F_X7_isIn x0 x1 x2) ∧ (r = 0 ∨ r = 1)) (fun _ _ => True) (fun q : Nat => sz ≤ q)) 0 0 (fun q : Nat => sz ≤ q) := by
  refine Met.ofW (cc := cX7_isIn) (maxL := 3) (ret := (some .boolean)) (by decide) rfl ?_
  intro p e s m args below meth c s₁ B hml hv
  obtain ⟨rfl, hsz, hP, hK, hD0, hN, hZ⟩ := hv
  have hx := B.exec
  have hb := B.bytes
  have hr := B.returns
  have hts : ∀ wd ∈ lwAll, wd.before ([.int x0, .int x1, .int x2] : List Value).toArray s = true := fun wd h => atoms_spec (ws := (Cond.code yX7_isIn cX7_isIn 3 (some .boolean) :: lwAll)) B.pre wd (List.mem_cons_of_mem _ h)
  have hown : s.vm.findClass RX7 = some m.cls := findClass_of_methodNamed B.named
  have hlocks := B.notSynchronized
  subst hsz
  have hD := hD0.self (sz := s.heap.size)
  have hl := lv_entry ([.int x0, .int x1, .int x2]) (n := 3) (Nat.le_of_ble_eq_true rfl)
  rw [lg_entry_eq]
  generalize (lg_sl ([.int x0, .int x1, .int x2]) ++ List.replicate (3 - (lg_sl ([.int x0, .int x1, .int x2])).length) Slot.unset).toArray = ls at hl ⊢
  have hl : lv_has ls 3 [(0, .int x0), (1, .int x1), (2, .int x2)] := hl
  have hS : va_S (fun q : Nat => s.heap.size ≤ q) s.heap s.heap [] := va_S.rf
  generalize hQe : MQ below (va_Qi (fun (r : Int32) (_ : Unit) => r = (F_X7_isIn x0 x1 x2) ∧ (r = 0 ∨ r = 1)) (fun _ _ => True) (fun q : Nat => s.heap.size ≤ q)) ([.int x0, .int x1, .int x2] : List Value).toArray s 0 0 (fun q : Nat => s.heap.size ≤ q) = Q
  have hP : va_P D vwCl [] s.heap := hP
  obtain ⟨A, hAe⟩ : ∃ A, A = va_A [] s.heap.size := ⟨_, rfl⟩
  rw [← hAe] at hD hZ
  have hA : ∀ q : Nat, s.heap.size ≤ q → A q := fun q h => by rw [hAe]; exact Or.inr h
  obtain ⟨H, hHe⟩ : ∃ H, H = s.heap := ⟨_, rfl⟩
  obtain ⟨locs, hLe⟩ : ∃ L : List Loc, L = [] := ⟨_, rfl⟩
  have hP : va_P D vwCl [] H := by rw [hHe]; exact hP
  have hS : va_S (fun q : Nat => s.heap.size ≤ q) s.heap H locs := by rw [hHe, hLe]; exact hS
  have hgoal : W p l e ({ frames := 0, cells := 0, slots := 0, locals := 0 } : Room) s m ([.int x0, .int x1, .int x2] : List Value).toArray below meth c H locs 0 0 Q (F0 m 0 ls []) := by
    clear hHe hLe
    refine lv_iload_n hx hb dX7_isIn_0 rfl (lv_at hl 0 rfl) ?_
    refine lv_iload_n hx hb dX7_isIn_1 rfl (lv_at hl 1 rfl) ?_
    refine lv_icmp_lt (tgt := 14) hx hb dX7_isIn_2 (by decide) (fun c_1 => ?_) (fun c_1 => ?_)
    · refine lv_iconst (v := 0) hx hb dX7_isIn_14 (by decide) ?_
      subst hQe
      exact W.zret (ty := .boolean) (v := 0) hx hb hr (zb_narrow zb_0) (fun t ht hW => ⟨⟨0, (), rfl, ⟨(by unfold F_X7_isIn; rw [if_pos c_1]), zb_0⟩, trivial⟩, hS.F ht⟩) hS.2.2 dX7_isIn_15
    · refine lv_iload_n hx hb dX7_isIn_5 rfl (lv_at hl 0 rfl) ?_
      refine lv_iload_n hx hb dX7_isIn_6 rfl (lv_at hl 2 rfl) ?_
      refine lv_icmp_gt (tgt := 14) hx hb dX7_isIn_7 (by decide) (fun c_2 => ?_) (fun c_2 => ?_)
      · refine lv_iconst (v := 0) hx hb dX7_isIn_14 (by decide) ?_
        subst hQe
        exact W.zret (ty := .boolean) (v := 0) hx hb hr (zb_narrow zb_0) (fun t ht hW => ⟨⟨0, (), rfl, ⟨(by unfold F_X7_isIn; rw [if_neg c_1, if_pos c_2]), zb_0⟩, trivial⟩, hS.F ht⟩) hS.2.2 dX7_isIn_15
      · refine lv_iconst (v := 1) hx hb dX7_isIn_10 (by decide) ?_
        refine lv_goto (tgt := 15) hx hb dX7_isIn_11 (by decide) ?_
        subst hQe
        exact W.zret (ty := .boolean) (v := 1) hx hb hr (zb_narrow zb_1) (fun t ht hW => ⟨⟨1, (), rfl, ⟨(by unfold F_X7_isIn; rw [if_neg c_1, if_neg c_2]), zb_1⟩, trivial⟩, hS.F ht⟩) hS.2.2 dX7_isIn_15
  rw [hHe, hLe] at hgoal
  exact hgoal

def F_X7_one (x0 : Int32) : Int32 := (if x0 = 0 then 0 else 1)
set_option maxHeartbeats 4000000 in
set_option maxRecDepth 100000 in
theorem c_X7_one (l : Launch) (D : va_G) (x0 : Int32) (sz : Nat)  : Met l yX7_one (Cond.code yX7_one cX7_one 1 (some .int) :: lwAll) ({ frames := 0, cells := 0, slots := 0, locals := 0 } : Room) (va_Pc [.int x0] (cPre D (lwTY D) [] sz)) (va_Qi (fun (r : Int32) (_ : Unit) => r = (F_X7_one x0)) (fun _ _ => True) (fun q : Nat => sz ≤ q)) 0 0 (fun q : Nat => sz ≤ q) := by
  refine Met.ofW (cc := cX7_one) (maxL := 1) (ret := (some .int)) (by decide) rfl ?_
  intro p e s m args below meth c s₁ B hml hv
  obtain ⟨rfl, hsz, hP, hK, hD0, hN, hZ⟩ := hv
  have hx := B.exec
  have hb := B.bytes
  have hr := B.returns
  have hts : ∀ wd ∈ lwAll, wd.before ([.int x0] : List Value).toArray s = true := fun wd h => atoms_spec (ws := (Cond.code yX7_one cX7_one 1 (some .int) :: lwAll)) B.pre wd (List.mem_cons_of_mem _ h)
  have hown : s.vm.findClass RX7 = some m.cls := findClass_of_methodNamed B.named
  have hlocks := B.notSynchronized
  subst hsz
  have hD := hD0.self (sz := s.heap.size)
  have hl := lv_entry ([.int x0]) (n := 1) (Nat.le_of_ble_eq_true rfl)
  rw [lg_entry_eq]
  generalize (lg_sl ([.int x0]) ++ List.replicate (1 - (lg_sl ([.int x0])).length) Slot.unset).toArray = ls at hl ⊢
  have hl : lv_has ls 1 [(0, .int x0)] := hl
  have hS : va_S (fun q : Nat => s.heap.size ≤ q) s.heap s.heap [] := va_S.rf
  generalize hQe : MQ below (va_Qi (fun (r : Int32) (_ : Unit) => r = (F_X7_one x0)) (fun _ _ => True) (fun q : Nat => s.heap.size ≤ q)) ([.int x0] : List Value).toArray s 0 0 (fun q : Nat => s.heap.size ≤ q) = Q
  have hP : va_P D vwCl [] s.heap := hP
  obtain ⟨A, hAe⟩ : ∃ A, A = va_A [] s.heap.size := ⟨_, rfl⟩
  rw [← hAe] at hD hZ
  have hA : ∀ q : Nat, s.heap.size ≤ q → A q := fun q h => by rw [hAe]; exact Or.inr h
  obtain ⟨H, hHe⟩ : ∃ H, H = s.heap := ⟨_, rfl⟩
  obtain ⟨locs, hLe⟩ : ∃ L : List Loc, L = [] := ⟨_, rfl⟩
  have hP : va_P D vwCl [] H := by rw [hHe]; exact hP
  have hS : va_S (fun q : Nat => s.heap.size ≤ q) s.heap H locs := by rw [hHe, hLe]; exact hS
  have hgoal : W p l e ({ frames := 0, cells := 0, slots := 0, locals := 0 } : Room) s m ([.int x0] : List Value).toArray below meth c H locs 0 0 Q (F0 m 0 ls []) := by
    clear hHe hLe
    refine lv_iload_n hx hb dX7_one_0 rfl (lv_at hl 0 rfl) ?_
    refine lv_if_eq (tgt := 8) hx hb dX7_one_1 (by decide) (fun c_1 => ?_) (fun c_1 => ?_)
    · refine lv_iconst (v := 0) hx hb dX7_one_8 (by decide) ?_
      subst hQe
      exact W.iret (v := 0) hx hb hr (fun t ht hW => ⟨⟨0, (), rfl, (by unfold F_X7_one; rw [if_pos c_1]), trivial⟩, hS.F ht⟩) hS.2.2 dX7_one_9
    · refine lv_iconst (v := 1) hx hb dX7_one_4 (by decide) ?_
      refine lv_goto (tgt := 9) hx hb dX7_one_5 (by decide) ?_
      subst hQe
      exact W.iret (v := 1) hx hb hr (fun t ht hW => ⟨⟨1, (), rfl, (by unfold F_X7_one; rw [if_neg c_1]), trivial⟩, hS.F ht⟩) hS.2.2 dX7_one_9
  rw [hHe, hLe] at hgoal
  exact hgoal

def F_X7_has (x0 : Int32) (x1 : Int32) : Int32 := (if ((x0 >>> (x1 &&& 31)) &&& 1) = 1 then 1 else 0)
set_option maxHeartbeats 4000000 in
set_option maxRecDepth 100000 in
theorem c_X7_has (l : Launch) (D : va_G) (x0 : Int32) (x1 : Int32) (sz : Nat)  : Met l yX7_has (Cond.code yX7_has cX7_has 2 (some .boolean) :: lwAll) ({ frames := 0, cells := 0, slots := 0, locals := 0 } : Room) (va_Pc [.int x0, .int x1] (cPre D (lwTY D) [] sz)) (va_Qi (fun (r : Int32) (_ : Unit) => r = (F_X7_has x0 x1) ∧ (r = 0 ∨ r = 1)) (fun _ _ => True) (fun q : Nat => sz ≤ q)) 0 0 (fun q : Nat => sz ≤ q) := by
  refine Met.ofW (cc := cX7_has) (maxL := 2) (ret := (some .boolean)) (by decide) rfl ?_
  intro p e s m args below meth c s₁ B hml hv
  obtain ⟨rfl, hsz, hP, hK, hD0, hN, hZ⟩ := hv
  have hx := B.exec
  have hb := B.bytes
  have hr := B.returns
  have hts : ∀ wd ∈ lwAll, wd.before ([.int x0, .int x1] : List Value).toArray s = true := fun wd h => atoms_spec (ws := (Cond.code yX7_has cX7_has 2 (some .boolean) :: lwAll)) B.pre wd (List.mem_cons_of_mem _ h)
  have hown : s.vm.findClass RX7 = some m.cls := findClass_of_methodNamed B.named
  have hlocks := B.notSynchronized
  subst hsz
  have hD := hD0.self (sz := s.heap.size)
  have hl := lv_entry ([.int x0, .int x1]) (n := 2) (Nat.le_of_ble_eq_true rfl)
  rw [lg_entry_eq]
  generalize (lg_sl ([.int x0, .int x1]) ++ List.replicate (2 - (lg_sl ([.int x0, .int x1])).length) Slot.unset).toArray = ls at hl ⊢
  have hl : lv_has ls 2 [(0, .int x0), (1, .int x1)] := hl
  have hS : va_S (fun q : Nat => s.heap.size ≤ q) s.heap s.heap [] := va_S.rf
  generalize hQe : MQ below (va_Qi (fun (r : Int32) (_ : Unit) => r = (F_X7_has x0 x1) ∧ (r = 0 ∨ r = 1)) (fun _ _ => True) (fun q : Nat => s.heap.size ≤ q)) ([.int x0, .int x1] : List Value).toArray s 0 0 (fun q : Nat => s.heap.size ≤ q) = Q
  have hP : va_P D vwCl [] s.heap := hP
  obtain ⟨A, hAe⟩ : ∃ A, A = va_A [] s.heap.size := ⟨_, rfl⟩
  rw [← hAe] at hD hZ
  have hA : ∀ q : Nat, s.heap.size ≤ q → A q := fun q h => by rw [hAe]; exact Or.inr h
  obtain ⟨H, hHe⟩ : ∃ H, H = s.heap := ⟨_, rfl⟩
  obtain ⟨locs, hLe⟩ : ∃ L : List Loc, L = [] := ⟨_, rfl⟩
  have hP : va_P D vwCl [] H := by rw [hHe]; exact hP
  have hS : va_S (fun q : Nat => s.heap.size ≤ q) s.heap H locs := by rw [hHe, hLe]; exact hS
  have hgoal : W p l e ({ frames := 0, cells := 0, slots := 0, locals := 0 } : Room) s m ([.int x0, .int x1] : List Value).toArray below meth c H locs 0 0 Q (F0 m 0 ls []) := by
    clear hHe hLe
    refine lv_iload_n hx hb dX7_has_0 rfl (lv_at hl 0 rfl) ?_
    refine lv_iload_n hx hb dX7_has_1 rfl (lv_at hl 1 rfl) ?_
    refine lv_ishr hx hb dX7_has_2 ?_
    refine lv_iconst (v := 1) hx hb dX7_has_3 (by decide) ?_
    refine lv_iand hx hb dX7_has_4 ?_
    refine lv_iconst (v := 1) hx hb dX7_has_5 (by decide) ?_
    refine lv_icmp_ne (tgt := 13) hx hb dX7_has_6 (by decide) (fun c_1 => ?_) (fun c_1 => ?_)
    · refine lv_iconst (v := 0) hx hb dX7_has_13 (by decide) ?_
      subst hQe
      exact W.zret (ty := .boolean) (v := 0) hx hb hr (zb_narrow zb_0) (fun t ht hW => ⟨⟨0, (), rfl, ⟨(by unfold F_X7_has; rw [if_neg c_1]), zb_0⟩, trivial⟩, hS.F ht⟩) hS.2.2 dX7_has_14
    · refine lv_iconst (v := 1) hx hb dX7_has_9 (by decide) ?_
      refine lv_goto (tgt := 14) hx hb dX7_has_10 (by decide) ?_
      subst hQe
      exact W.zret (ty := .boolean) (v := 1) hx hb hr (zb_narrow zb_1) (fun t ht hW => ⟨⟨1, (), rfl, ⟨(by unfold F_X7_has; rw [if_pos c_1]), zb_1⟩, trivial⟩, hS.F ht⟩) hS.2.2 dX7_has_14
  rw [hHe, hLe] at hgoal
  exact hgoal

def F_X7_with (x0 : Int32) (x1 : Int32) (x2 : Int32) : Int32 := (if x2 = 0 then x0 &&& (((1 : Int32) <<< (x1 &&& 31)) ^^^ (-1)) else x0 ||| ((1 : Int32) <<< (x1 &&& 31)))
set_option maxHeartbeats 4000000 in
set_option maxRecDepth 100000 in
theorem c_X7_with (l : Launch) (D : va_G) (x0 : Int32) (x1 : Int32) (x2 : Int32) (sz : Nat)  : Met l yX7_with (Cond.code yX7_with cX7_with 3 (some .int) :: lwAll) ({ frames := 0, cells := 0, slots := 0, locals := 0 } : Room) (va_Pc [.int x0, .int x1, .int x2] (cPre D (lwTY D) [] sz)) (va_Qi (fun (r : Int32) (_ : Unit) => r = (F_X7_with x0 x1 x2)) (fun _ _ => True) (fun q : Nat => sz ≤ q)) 0 0 (fun q : Nat => sz ≤ q) := by
  refine Met.ofW (cc := cX7_with) (maxL := 3) (ret := (some .int)) (by decide) rfl ?_
  intro p e s m args below meth c s₁ B hml hv
  obtain ⟨rfl, hsz, hP, hK, hD0, hN, hZ⟩ := hv
  have hx := B.exec
  have hb := B.bytes
  have hr := B.returns
  have hts : ∀ wd ∈ lwAll, wd.before ([.int x0, .int x1, .int x2] : List Value).toArray s = true := fun wd h => atoms_spec (ws := (Cond.code yX7_with cX7_with 3 (some .int) :: lwAll)) B.pre wd (List.mem_cons_of_mem _ h)
  have hown : s.vm.findClass RX7 = some m.cls := findClass_of_methodNamed B.named
  have hlocks := B.notSynchronized
  subst hsz
  have hD := hD0.self (sz := s.heap.size)
  have hl := lv_entry ([.int x0, .int x1, .int x2]) (n := 3) (Nat.le_of_ble_eq_true rfl)
  rw [lg_entry_eq]
  generalize (lg_sl ([.int x0, .int x1, .int x2]) ++ List.replicate (3 - (lg_sl ([.int x0, .int x1, .int x2])).length) Slot.unset).toArray = ls at hl ⊢
  have hl : lv_has ls 3 [(0, .int x0), (1, .int x1), (2, .int x2)] := hl
  have hS : va_S (fun q : Nat => s.heap.size ≤ q) s.heap s.heap [] := va_S.rf
  generalize hQe : MQ below (va_Qi (fun (r : Int32) (_ : Unit) => r = (F_X7_with x0 x1 x2)) (fun _ _ => True) (fun q : Nat => s.heap.size ≤ q)) ([.int x0, .int x1, .int x2] : List Value).toArray s 0 0 (fun q : Nat => s.heap.size ≤ q) = Q
  have hP : va_P D vwCl [] s.heap := hP
  obtain ⟨A, hAe⟩ : ∃ A, A = va_A [] s.heap.size := ⟨_, rfl⟩
  rw [← hAe] at hD hZ
  have hA : ∀ q : Nat, s.heap.size ≤ q → A q := fun q h => by rw [hAe]; exact Or.inr h
  obtain ⟨H, hHe⟩ : ∃ H, H = s.heap := ⟨_, rfl⟩
  obtain ⟨locs, hLe⟩ : ∃ L : List Loc, L = [] := ⟨_, rfl⟩
  have hP : va_P D vwCl [] H := by rw [hHe]; exact hP
  have hS : va_S (fun q : Nat => s.heap.size ≤ q) s.heap H locs := by rw [hHe, hLe]; exact hS
  have hgoal : W p l e ({ frames := 0, cells := 0, slots := 0, locals := 0 } : Room) s m ([.int x0, .int x1, .int x2] : List Value).toArray below meth c H locs 0 0 Q (F0 m 0 ls []) := by
    clear hHe hLe
    refine lv_iload_n hx hb dX7_with_0 rfl (lv_at hl 2 rfl) ?_
    refine lv_if_eq (tgt := 12) hx hb dX7_with_1 (by decide) (fun c_1 => ?_) (fun c_1 => ?_)
    · refine lv_iload_n hx hb dX7_with_12 rfl (lv_at hl 0 rfl) ?_
      refine lv_iconst (v := 1) hx hb dX7_with_13 (by decide) ?_
      refine lv_iload_n hx hb dX7_with_14 rfl (lv_at hl 1 rfl) ?_
      refine lv_ishl hx hb dX7_with_15 ?_
      refine lv_iconst (v := (-1)) hx hb dX7_with_16 (by decide) ?_
      refine lv_ixor hx hb dX7_with_17 ?_
      refine lv_iand hx hb dX7_with_18 ?_
      subst hQe
      exact W.iret (v := x0 &&& (((1 : Int32) <<< (x1 &&& 31)) ^^^ (-1))) hx hb hr (fun t ht hW => ⟨⟨x0 &&& (((1 : Int32) <<< (x1 &&& 31)) ^^^ (-1)), (), rfl, (by unfold F_X7_with; rw [if_pos c_1]), trivial⟩, hS.F ht⟩) hS.2.2 dX7_with_19
    · refine lv_iload_n hx hb dX7_with_4 rfl (lv_at hl 0 rfl) ?_
      refine lv_iconst (v := 1) hx hb dX7_with_5 (by decide) ?_
      refine lv_iload_n hx hb dX7_with_6 rfl (lv_at hl 1 rfl) ?_
      refine lv_ishl hx hb dX7_with_7 ?_
      refine lv_ior hx hb dX7_with_8 ?_
      refine lv_goto (tgt := 19) hx hb dX7_with_9 (by decide) ?_
      subst hQe
      exact W.iret (v := x0 ||| ((1 : Int32) <<< (x1 &&& 31))) hx hb hr (fun t ht hW => ⟨⟨x0 ||| ((1 : Int32) <<< (x1 &&& 31)), (), rfl, (by unfold F_X7_with; rw [if_neg c_1]), trivial⟩, hS.F ht⟩) hS.2.2 dX7_with_19
  rw [hHe, hLe] at hgoal
  exact hgoal

def F_X7_add (x0 : Int64) (x2 : Int64) : Int64 := (x0 * 31) + x2
set_option maxHeartbeats 4000000 in
set_option maxRecDepth 100000 in
theorem c_X7_add (l : Launch) (D : va_G) (x0 : Int64) (x2 : Int64) (sz : Nat)  : Met l yX7_add (Cond.code yX7_add cX7_add 4 (some .long) :: lwAll) ({ frames := 0, cells := 0, slots := 0, locals := 0 } : Room) (va_Pc [.long x0, .long x2] (cPre D (lwTY D) [] sz)) (va_Ql (fun (r : Int64) (_ : Unit) => r = (F_X7_add x0 x2)) (fun _ _ => True) (fun q : Nat => sz ≤ q)) 0 0 (fun q : Nat => sz ≤ q) := by
  refine Met.ofW (cc := cX7_add) (maxL := 4) (ret := (some .long)) (by decide) rfl ?_
  intro p e s m args below meth c s₁ B hml hv
  obtain ⟨rfl, hsz, hP, hK, hD0, hN, hZ⟩ := hv
  have hx := B.exec
  have hb := B.bytes
  have hr := B.returns
  have hts : ∀ wd ∈ lwAll, wd.before ([.long x0, .long x2] : List Value).toArray s = true := fun wd h => atoms_spec (ws := (Cond.code yX7_add cX7_add 4 (some .long) :: lwAll)) B.pre wd (List.mem_cons_of_mem _ h)
  have hown : s.vm.findClass RX7 = some m.cls := findClass_of_methodNamed B.named
  have hlocks := B.notSynchronized
  subst hsz
  have hD := hD0.self (sz := s.heap.size)
  have hl := lv_entry ([.long x0, .long x2]) (n := 4) (Nat.le_of_ble_eq_true rfl)
  rw [lg_entry_eq]
  generalize (lg_sl ([.long x0, .long x2]) ++ List.replicate (4 - (lg_sl ([.long x0, .long x2])).length) Slot.unset).toArray = ls at hl ⊢
  have hl : lv_has ls 4 [(0, .long x0), (2, .long x2)] := hl
  have hS : va_S (fun q : Nat => s.heap.size ≤ q) s.heap s.heap [] := va_S.rf
  generalize hQe : MQ below (va_Ql (fun (r : Int64) (_ : Unit) => r = (F_X7_add x0 x2)) (fun _ _ => True) (fun q : Nat => s.heap.size ≤ q)) ([.long x0, .long x2] : List Value).toArray s 0 0 (fun q : Nat => s.heap.size ≤ q) = Q
  have hP : va_P D vwCl [] s.heap := hP
  obtain ⟨A, hAe⟩ : ∃ A, A = va_A [] s.heap.size := ⟨_, rfl⟩
  rw [← hAe] at hD hZ
  have hA : ∀ q : Nat, s.heap.size ≤ q → A q := fun q h => by rw [hAe]; exact Or.inr h
  obtain ⟨H, hHe⟩ : ∃ H, H = s.heap := ⟨_, rfl⟩
  obtain ⟨locs, hLe⟩ : ∃ L : List Loc, L = [] := ⟨_, rfl⟩
  have hP : va_P D vwCl [] H := by rw [hHe]; exact hP
  have hS : va_S (fun q : Nat => s.heap.size ≤ q) s.heap H locs := by rw [hHe, hLe]; exact hS
  have hgoal : W p l e ({ frames := 0, cells := 0, slots := 0, locals := 0 } : Room) s m ([.long x0, .long x2] : List Value).toArray below meth c H locs 0 0 Q (F0 m 0 ls []) := by
    clear hHe hLe
    refine lv_lload_n hx hb dX7_add_0 rfl (lv_at hl 0 rfl) ?_
    refine lv_ldc2 (v := 31) hx hb hown (hts _ q_1653) dX7_add_1 ?_
    refine lv_lmul hx hb dX7_add_4 ?_
    refine lv_lload_n hx hb dX7_add_5 rfl (lv_at hl 1 rfl) ?_
    refine lv_ladd hx hb dX7_add_6 ?_
    subst hQe
    exact W.lret (v := (x0 * 31) + x2) hx hb hr (fun t ht hW => ⟨⟨(x0 * 31) + x2, (), rfl, (by rfl), trivial⟩, hS.F ht⟩) hS.2.2 dX7_add_7
  rw [hHe, hLe] at hgoal
  exact hgoal

def F_X7_rowOf (C : Nat) (x1 : Int32) (x2 : Int32) : Int32 := (x1 >>> ((x2 * (nI C)) &&& 31)) &&& (((1 : Int32) <<< ((nI C) &&& 31)) - 1)
set_option maxHeartbeats 4000000 in
set_option maxRecDepth 100000 in
theorem c_X7_rowOf (l : Launch) (D : va_G) (hM : Nat) (th : Int32) (R : Nat) (C : Nat) (fi : Int32) (di : Int32) (he : Int32) (br : Int32) (pa : Int32) (gu : Int32) (sc : Nat) (cl : Int32) (se : Int32) (lo : Int32) (lu : Int32) (rf : Int32) (kl : Nat) (kc : Nat) (hB : Nat) (x1 : Int32) (x2 : Int32) (sz : Nat)  : Met l yX7_rowOf (Cond.code yX7_rowOf cX7_rowOf 3 (some .int) :: lwAll) ({ frames := 0, cells := 0, slots := 0, locals := 0 } : Room) (va_Pc [.ref hM, .int x1, .int x2] (cPre D (lwTY D) [(hM, .inr (14, [.int th, .int (nI R), .int (nI C), .int fi, .int di, .int he, .int br, .int pa, .int gu, .int (nI sc), .int cl, .int se, .int lo, .int lu, .int rf, .ref kl, .ref kc, .ref hB]))] sz)) (va_Qi (fun (r : Int32) (_ : Unit) => r = (F_X7_rowOf C x1 x2)) (fun _ _ => True) (fun q : Nat => sz ≤ q)) 0 0 (fun q : Nat => sz ≤ q) := by
  refine Met.ofW (cc := cX7_rowOf) (maxL := 3) (ret := (some .int)) (by decide) rfl ?_
  intro p e s m args below meth c s₁ B hml hv
  obtain ⟨rfl, hsz, hP, hK, hD0, hN, hZ⟩ := hv
  have hx := B.exec
  have hb := B.bytes
  have hr := B.returns
  have hts : ∀ wd ∈ lwAll, wd.before ([.ref hM, .int x1, .int x2] : List Value).toArray s = true := fun wd h => atoms_spec (ws := (Cond.code yX7_rowOf cX7_rowOf 3 (some .int) :: lwAll)) B.pre wd (List.mem_cons_of_mem _ h)
  have hown : s.vm.findClass RX7 = some m.cls := findClass_of_methodNamed B.named
  have hlocks := B.notSynchronized
  subst hsz
  have hD := hD0.self (sz := s.heap.size)
  have hl := lv_entry ([.ref hM, .int x1, .int x2]) (n := 3) (Nat.le_of_ble_eq_true rfl)
  rw [lg_entry_eq]
  generalize (lg_sl ([.ref hM, .int x1, .int x2]) ++ List.replicate (3 - (lg_sl ([.ref hM, .int x1, .int x2])).length) Slot.unset).toArray = ls at hl ⊢
  have hl : lv_has ls 3 [(0, .ref hM), (1, .int x1), (2, .int x2)] := hl
  have hS : va_S (fun q : Nat => s.heap.size ≤ q) s.heap s.heap [] := va_S.rf
  generalize hQe : MQ below (va_Qi (fun (r : Int32) (_ : Unit) => r = (F_X7_rowOf C x1 x2)) (fun _ _ => True) (fun q : Nat => s.heap.size ≤ q)) ([.ref hM, .int x1, .int x2] : List Value).toArray s 0 0 (fun q : Nat => s.heap.size ≤ q) = Q
  have hP : va_P D vwCl [(hM, .inr (14, [.int th, .int (nI R), .int (nI C), .int fi, .int di, .int he, .int br, .int pa, .int gu, .int (nI sc), .int cl, .int se, .int lo, .int lu, .int rf, .ref kl, .ref kc, .ref hB]))] s.heap := hP
  obtain ⟨A, hAe⟩ : ∃ A, A = va_A [(hM, .inr (14, [.int th, .int (nI R), .int (nI C), .int fi, .int di, .int he, .int br, .int pa, .int gu, .int (nI sc), .int cl, .int se, .int lo, .int lu, .int rf, .ref kl, .ref kc, .ref hB]))] s.heap.size := ⟨_, rfl⟩
  rw [← hAe] at hD hZ
  have hA : ∀ q : Nat, s.heap.size ≤ q → A q := fun q h => by rw [hAe]; exact Or.inr h
  obtain ⟨H, hHe⟩ : ∃ H, H = s.heap := ⟨_, rfl⟩
  obtain ⟨locs, hLe⟩ : ∃ L : List Loc, L = [] := ⟨_, rfl⟩
  have hP : va_P D vwCl [(hM, .inr (14, [.int th, .int (nI R), .int (nI C), .int fi, .int di, .int he, .int br, .int pa, .int gu, .int (nI sc), .int cl, .int se, .int lo, .int lu, .int rf, .ref kl, .ref kc, .ref hB]))] H := by rw [hHe]; exact hP
  have hS : va_S (fun q : Nat => s.heap.size ≤ q) s.heap H locs := by rw [hHe, hLe]; exact hS
  have hgoal : W p l e ({ frames := 0, cells := 0, slots := 0, locals := 0 } : Room) s m ([.ref hM, .int x1, .int x2] : List Value).toArray below meth c H locs 0 0 Q (F0 m 0 ls []) := by
    clear hHe hLe
    refine lv_iload_n hx hb dX7_rowOf_0 rfl (lv_at hl 1 rfl) ?_
    refine lv_iload_n hx hb dX7_rowOf_1 rfl (lv_at hl 2 rfl) ?_
    refine lv_aload_n hx hb dX7_rowOf_2 rfl (lv_at hl 0 rfl) ?_
    refine va_get (D := D) (ci := 14) (v := .int (nI C)) (C := RX7) (T := TX7) (N := 18) hx hb hts in_X7 hown hK hP 0 rfl rfl 2 (by decide) (hts _ q_1270) (fun _ h9 => h9) rfl dX7_rowOf_3 ?_
    refine lv_imul hx hb dX7_rowOf_6 ?_
    refine lv_ishr hx hb dX7_rowOf_7 ?_
    refine lv_iconst (v := 1) hx hb dX7_rowOf_8 (by decide) ?_
    refine lv_aload_n hx hb dX7_rowOf_9 rfl (lv_at hl 0 rfl) ?_
    refine va_get (D := D) (ci := 14) (v := .int (nI C)) (C := RX7) (T := TX7) (N := 18) hx hb hts in_X7 hown hK hP 0 rfl rfl 2 (by decide) (hts _ q_1270) (fun _ h9 => h9) rfl dX7_rowOf_10 ?_
    refine lv_ishl hx hb dX7_rowOf_13 ?_
    refine lv_iconst (v := 1) hx hb dX7_rowOf_14 (by decide) ?_
    refine lv_isub hx hb dX7_rowOf_15 ?_
    refine lv_iand hx hb dX7_rowOf_16 ?_
    subst hQe
    exact W.iret (v := (x1 >>> ((x2 * (nI C)) &&& 31)) &&& (((1 : Int32) <<< ((nI C) &&& 31)) - 1)) hx hb hr (fun t ht hW => ⟨⟨(x1 >>> ((x2 * (nI C)) &&& 31)) &&& (((1 : Int32) <<< ((nI C) &&& 31)) - 1), (), rfl, (by rfl), trivial⟩, hS.F ht⟩) hS.2.2 dX7_rowOf_17
  rw [hHe, hLe] at hgoal
  exact hgoal

def F_X7_isNoKey (K : Nat) (x1 : Int32) : Int32 := (if (F_X7_isIn x1 0 ((F_Jx4a65c_size_8abf5 K) - 1)) = 0 then 1 else 0)
set_option maxHeartbeats 4000000 in
set_option maxRecDepth 100000 in
theorem c_X7_isNoKey (l : Launch) (D : va_G) (hM : Nat) (th : Int32) (R : Nat) (C : Nat) (fi : Int32) (di : Int32) (he : Int32) (br : Int32) (pa : Int32) (gu : Int32) (sc : Nat) (cl : Int32) (se : Int32) (lo : Int32) (lu : Int32) (rf : Int32) (kl : Nat) (kc : Nat) (hB : Nat) (km : Int32) (kd : Nat) (K : Nat) (x1 : Int32) (sz : Nat)  : Met l yX7_isNoKey (Cond.code yX7_isNoKey cX7_isNoKey 2 (some .boolean) :: lwAll) ({ frames := 1, cells := 0, slots := 0, locals := 22 } : Room) (va_Pc [.ref hM, .int x1] (cPre D (lwTY D) [(hM, .inr (14, [.int th, .int (nI R), .int (nI C), .int fi, .int di, .int he, .int br, .int pa, .int gu, .int (nI sc), .int cl, .int se, .int lo, .int lu, .int rf, .ref kl, .ref kc, .ref hB])), (kl, .inr (6, [.int km, .ref kd, .int (nI K)]))] sz)) (va_Qi (fun (r : Int32) (_ : Unit) => r = (F_X7_isNoKey K x1) ∧ (r = 0 ∨ r = 1)) (fun _ _ => True) (fun q : Nat => sz ≤ q)) 0 0 (fun q : Nat => sz ≤ q) := by
  refine Met.ofW (cc := cX7_isNoKey) (maxL := 2) (ret := (some .boolean)) (by decide) rfl ?_
  intro p e s m args below meth c s₁ B hml hv
  obtain ⟨rfl, hsz, hP, hK, hD0, hN, hZ⟩ := hv
  have hx := B.exec
  have hb := B.bytes
  have hr := B.returns
  have hts : ∀ wd ∈ lwAll, wd.before ([.ref hM, .int x1] : List Value).toArray s = true := fun wd h => atoms_spec (ws := (Cond.code yX7_isNoKey cX7_isNoKey 2 (some .boolean) :: lwAll)) B.pre wd (List.mem_cons_of_mem _ h)
  have hown : s.vm.findClass RX7 = some m.cls := findClass_of_methodNamed B.named
  have hlocks := B.notSynchronized
  subst hsz
  have hD := hD0.self (sz := s.heap.size)
  have hl := lv_entry ([.ref hM, .int x1]) (n := 2) (Nat.le_of_ble_eq_true rfl)
  rw [lg_entry_eq]
  generalize (lg_sl ([.ref hM, .int x1]) ++ List.replicate (2 - (lg_sl ([.ref hM, .int x1])).length) Slot.unset).toArray = ls at hl ⊢
  have hl : lv_has ls 2 [(0, .ref hM), (1, .int x1)] := hl
  have hS : va_S (fun q : Nat => s.heap.size ≤ q) s.heap s.heap [] := va_S.rf
  generalize hQe : MQ below (va_Qi (fun (r : Int32) (_ : Unit) => r = (F_X7_isNoKey K x1) ∧ (r = 0 ∨ r = 1)) (fun _ _ => True) (fun q : Nat => s.heap.size ≤ q)) ([.ref hM, .int x1] : List Value).toArray s 0 0 (fun q : Nat => s.heap.size ≤ q) = Q
  have hP : va_P D vwCl [(hM, .inr (14, [.int th, .int (nI R), .int (nI C), .int fi, .int di, .int he, .int br, .int pa, .int gu, .int (nI sc), .int cl, .int se, .int lo, .int lu, .int rf, .ref kl, .ref kc, .ref hB])), (kl, .inr (6, [.int km, .ref kd, .int (nI K)]))] s.heap := hP
  obtain ⟨A, hAe⟩ : ∃ A, A = va_A [(hM, .inr (14, [.int th, .int (nI R), .int (nI C), .int fi, .int di, .int he, .int br, .int pa, .int gu, .int (nI sc), .int cl, .int se, .int lo, .int lu, .int rf, .ref kl, .ref kc, .ref hB])), (kl, .inr (6, [.int km, .ref kd, .int (nI K)]))] s.heap.size := ⟨_, rfl⟩
  rw [← hAe] at hD hZ
  have hA : ∀ q : Nat, s.heap.size ≤ q → A q := fun q h => by rw [hAe]; exact Or.inr h
  obtain ⟨H, hHe⟩ : ∃ H, H = s.heap := ⟨_, rfl⟩
  obtain ⟨locs, hLe⟩ : ∃ L : List Loc, L = [] := ⟨_, rfl⟩
  have hP : va_P D vwCl [(hM, .inr (14, [.int th, .int (nI R), .int (nI C), .int fi, .int di, .int he, .int br, .int pa, .int gu, .int (nI sc), .int cl, .int se, .int lo, .int lu, .int rf, .ref kl, .ref kc, .ref hB])), (kl, .inr (6, [.int km, .ref kd, .int (nI K)]))] H := by rw [hHe]; exact hP
  have hS : va_S (fun q : Nat => s.heap.size ≤ q) s.heap H locs := by rw [hHe, hLe]; exact hS
  have hgoal : W p l e ({ frames := 1, cells := 0, slots := 0, locals := 22 } : Room) s m ([.ref hM, .int x1] : List Value).toArray below meth c H locs 0 0 Q (F0 m 0 ls []) := by
    clear hHe hLe
    refine lv_iload_n hx hb dX7_isNoKey_0 rfl (lv_at hl 1 rfl) ?_
    refine lv_iconst (v := 0) hx hb dX7_isNoKey_1 (by decide) ?_
    refine lv_aload_n hx hb dX7_isNoKey_2 rfl (lv_at hl 0 rfl) ?_
    refine va_get (D := D) (ci := 14) (v := .ref kl) (C := RX7) (T := TX7) (N := 18) hx hb hts in_X7 hown hK hP 0 rfl rfl 15 (by decide) (hts _ q_1283) (fun _ h9 => h9) rfl dX7_isNoKey_3 ?_
    have hPc := hP.sub (ws' := [(kl, .inr (6, [.int km, .ref kd, .int (nI K)]))]) [1] rfl
    have hDc := hD.sub (ws' := [(kl, .inr (6, [.int km, .ref kd, .int (nI K)]))]) [1] (by decide) rfl
    have hFc := va_free (wc := [(kl, .inr (6, [.int km, .ref kd, .int (nI K)]))]) hD (va_S_up hS hA) hA [1] rfl
    refine va_calli (va_runV (As := []) (rest := [.int 0, .int x1]) ⟨hx, hb, hml, hown, hts⟩ (c_Jx4a65c_size_8abf5 l D kl km kd K H.size ) (cwV 0 hts (gi_V q_1263 q_1264 q_1265 q_107 q_1266) rfl rfl rfl (by decide +kernel) ⟨Nat.le_of_ble_eq_true rfl, Nat.le_of_ble_eq_true rfl⟩) ⟨cPre_blind, va_recv hK hP (ci := 6) (q0 := 1) rfl rfl, cPre_mk hPc hK hDc hN (lwZ_for hZ (va_S_up hS hA) hFc)⟩ rfl rfl hl.1 rfl (lv_room (Nat.le_of_ble_eq_true rfl)) dX7_isNoKey_6 ⟨(Nat.le_of_ble_eq_true rfl), (Nat.le_of_ble_eq_true rfl)⟩) hS (fun q h1 h2 => absurd h2 (Nat.not_le.mpr h1)) (fun q h => Nat.le_trans hS.1 h) (fun r_6 u t H1 locs ht hvm hw hBk hz1 hk1 hS => ?_)
    have hP := va_P_ro hP hk1
    subst hw
    clear hBk hvm ht u hz1 hk1
    clear hPc hDc hFc; clear t
    generalize H1 = H at hP hS ⊢
    refine lv_iconst (v := 1) hx hb dX7_isNoKey_9 (by decide) ?_
    refine lv_isub hx hb dX7_isNoKey_10 ?_
    have hPc := hP.sub (ws' := []) [] rfl
    have hDc := hD.sub (ws' := []) [] (by decide) rfl
    have hFc := va_free (wc := []) hD (va_S_up hS hA) hA [] rfl
    refine va_calli (va_runS (As := [.int x1, .int 0, .int ((F_Jx4a65c_size_8abf5 K) - 1)]) (rest := []) ⟨hx, hb, hml, hown, hts⟩ (c_X7_isIn l D x1 0 ((F_Jx4a65c_size_8abf5 K) - 1) H.size ) (cwS 3 hts (gi_S q_1327 q_1328 q_104 q_1329) rfl rfl rfl (by decide +kernel) ⟨Nat.le_of_ble_eq_true rfl, Nat.le_of_ble_eq_true rfl⟩) ⟨cPre_blind, cPre_mk hPc hK hDc hN (lwZ_for hZ (va_S_up hS hA) hFc)⟩ rfl rfl hl.1 rfl (lv_room (Nat.le_of_ble_eq_true rfl)) dX7_isNoKey_11 ⟨(Nat.le_of_ble_eq_true rfl), (Nat.le_of_ble_eq_true rfl)⟩) hS (fun q h1 h2 => absurd h2 (Nat.not_le.mpr h1)) (fun q h => Nat.le_trans hS.1 h) (fun r_11 u t H1 locs ht hvm hw hBk hz1 hk1 hS => ?_)
    have hP := va_P_ro hP hk1
    obtain ⟨hw, z_1⟩ := hw
    rw [hw] at z_1
    subst hw
    clear hBk hvm ht u hz1 hk1
    clear hPc hDc hFc; clear t
    generalize H1 = H at hP hS ⊢
    refine lv_if_ne (tgt := 21) hx hb dX7_isNoKey_14 (by decide) (fun c_2 => ?_) (fun c_2 => ?_)
    · refine lv_iconst (v := 0) hx hb dX7_isNoKey_21 (by decide) ?_
      subst hQe
      exact W.zret (ty := .boolean) (v := 0) hx hb hr (zb_narrow zb_0) (fun t ht hW => ⟨⟨0, (), rfl, ⟨(by unfold F_X7_isNoKey; rw [if_neg c_2]), zb_0⟩, trivial⟩, hS.F ht⟩) hS.2.2 dX7_isNoKey_22
    · refine lv_iconst (v := 1) hx hb dX7_isNoKey_17 (by decide) ?_
      refine lv_goto (tgt := 22) hx hb dX7_isNoKey_18 (by decide) ?_
      subst hQe
      exact W.zret (ty := .boolean) (v := 1) hx hb hr (zb_narrow zb_1) (fun t ht hW => ⟨⟨1, (), rfl, ⟨(by unfold F_X7_isNoKey; rw [if_pos c_2]), zb_1⟩, trivial⟩, hS.F ht⟩) hS.2.2 dX7_isNoKey_22
  rw [hHe, hLe] at hgoal
  exact hgoal

def F_X7_isNoSet (K : Nat) (x1 : Int32) : Int32 := (if x1 < 0 then 1 else (if (x1 >>> ((F_Jx4a65c_size_8abf5 K) &&& 31)) = 0 then 0 else 1))
set_option maxHeartbeats 4000000 in
set_option maxRecDepth 100000 in
theorem c_X7_isNoSet (l : Launch) (D : va_G) (hM : Nat) (th : Int32) (R : Nat) (C : Nat) (fi : Int32) (di : Int32) (he : Int32) (br : Int32) (pa : Int32) (gu : Int32) (sc : Nat) (cl : Int32) (se : Int32) (lo : Int32) (lu : Int32) (rf : Int32) (kl : Nat) (kc : Nat) (hB : Nat) (km : Int32) (kd : Nat) (K : Nat) (x1 : Int32) (sz : Nat)  : Met l yX7_isNoSet (Cond.code yX7_isNoSet cX7_isNoSet 2 (some .boolean) :: lwAll) ({ frames := 1, cells := 0, slots := 0, locals := 20 } : Room) (va_Pc [.ref hM, .int x1] (cPre D (lwTY D) [(hM, .inr (14, [.int th, .int (nI R), .int (nI C), .int fi, .int di, .int he, .int br, .int pa, .int gu, .int (nI sc), .int cl, .int se, .int lo, .int lu, .int rf, .ref kl, .ref kc, .ref hB])), (kl, .inr (6, [.int km, .ref kd, .int (nI K)]))] sz)) (va_Qi (fun (r : Int32) (_ : Unit) => r = (F_X7_isNoSet K x1) ∧ (r = 0 ∨ r = 1)) (fun _ _ => True) (fun q : Nat => sz ≤ q)) 0 0 (fun q : Nat => sz ≤ q) := by
  refine Met.ofW (cc := cX7_isNoSet) (maxL := 2) (ret := (some .boolean)) (by decide) rfl ?_
  intro p e s m args below meth c s₁ B hml hv
  obtain ⟨rfl, hsz, hP, hK, hD0, hN, hZ⟩ := hv
  have hx := B.exec
  have hb := B.bytes
  have hr := B.returns
  have hts : ∀ wd ∈ lwAll, wd.before ([.ref hM, .int x1] : List Value).toArray s = true := fun wd h => atoms_spec (ws := (Cond.code yX7_isNoSet cX7_isNoSet 2 (some .boolean) :: lwAll)) B.pre wd (List.mem_cons_of_mem _ h)
  have hown : s.vm.findClass RX7 = some m.cls := findClass_of_methodNamed B.named
  have hlocks := B.notSynchronized
  subst hsz
  have hD := hD0.self (sz := s.heap.size)
  have hl := lv_entry ([.ref hM, .int x1]) (n := 2) (Nat.le_of_ble_eq_true rfl)
  rw [lg_entry_eq]
  generalize (lg_sl ([.ref hM, .int x1]) ++ List.replicate (2 - (lg_sl ([.ref hM, .int x1])).length) Slot.unset).toArray = ls at hl ⊢
  have hl : lv_has ls 2 [(0, .ref hM), (1, .int x1)] := hl
  have hS : va_S (fun q : Nat => s.heap.size ≤ q) s.heap s.heap [] := va_S.rf
  generalize hQe : MQ below (va_Qi (fun (r : Int32) (_ : Unit) => r = (F_X7_isNoSet K x1) ∧ (r = 0 ∨ r = 1)) (fun _ _ => True) (fun q : Nat => s.heap.size ≤ q)) ([.ref hM, .int x1] : List Value).toArray s 0 0 (fun q : Nat => s.heap.size ≤ q) = Q
  have hP : va_P D vwCl [(hM, .inr (14, [.int th, .int (nI R), .int (nI C), .int fi, .int di, .int he, .int br, .int pa, .int gu, .int (nI sc), .int cl, .int se, .int lo, .int lu, .int rf, .ref kl, .ref kc, .ref hB])), (kl, .inr (6, [.int km, .ref kd, .int (nI K)]))] s.heap := hP
  obtain ⟨A, hAe⟩ : ∃ A, A = va_A [(hM, .inr (14, [.int th, .int (nI R), .int (nI C), .int fi, .int di, .int he, .int br, .int pa, .int gu, .int (nI sc), .int cl, .int se, .int lo, .int lu, .int rf, .ref kl, .ref kc, .ref hB])), (kl, .inr (6, [.int km, .ref kd, .int (nI K)]))] s.heap.size := ⟨_, rfl⟩
  rw [← hAe] at hD hZ
  have hA : ∀ q : Nat, s.heap.size ≤ q → A q := fun q h => by rw [hAe]; exact Or.inr h
  obtain ⟨H, hHe⟩ : ∃ H, H = s.heap := ⟨_, rfl⟩
  obtain ⟨locs, hLe⟩ : ∃ L : List Loc, L = [] := ⟨_, rfl⟩
  have hP : va_P D vwCl [(hM, .inr (14, [.int th, .int (nI R), .int (nI C), .int fi, .int di, .int he, .int br, .int pa, .int gu, .int (nI sc), .int cl, .int se, .int lo, .int lu, .int rf, .ref kl, .ref kc, .ref hB])), (kl, .inr (6, [.int km, .ref kd, .int (nI K)]))] H := by rw [hHe]; exact hP
  have hS : va_S (fun q : Nat => s.heap.size ≤ q) s.heap H locs := by rw [hHe, hLe]; exact hS
  have hgoal : W p l e ({ frames := 1, cells := 0, slots := 0, locals := 20 } : Room) s m ([.ref hM, .int x1] : List Value).toArray below meth c H locs 0 0 Q (F0 m 0 ls []) := by
    clear hHe hLe
    refine lv_iload_n hx hb dX7_isNoSet_0 rfl (lv_at hl 1 rfl) ?_
    refine lv_if_lt (tgt := 16) hx hb dX7_isNoSet_1 (by decide) (fun c_1 => ?_) (fun c_1 => ?_)
    · refine lv_iconst (v := 1) hx hb dX7_isNoSet_16 (by decide) ?_
      refine lv_goto (tgt := 21) hx hb dX7_isNoSet_17 (by decide) ?_
      subst hQe
      exact W.zret (ty := .boolean) (v := 1) hx hb hr (zb_narrow zb_1) (fun t ht hW => ⟨⟨1, (), rfl, ⟨(by unfold F_X7_isNoSet; rw [if_pos c_1]), zb_1⟩, trivial⟩, hS.F ht⟩) hS.2.2 dX7_isNoSet_21
    · refine lv_iload_n hx hb dX7_isNoSet_4 rfl (lv_at hl 1 rfl) ?_
      refine lv_aload_n hx hb dX7_isNoSet_5 rfl (lv_at hl 0 rfl) ?_
      refine va_get (D := D) (ci := 14) (v := .ref kl) (C := RX7) (T := TX7) (N := 18) hx hb hts in_X7 hown hK hP 0 rfl rfl 15 (by decide) (hts _ q_1283) (fun _ h9 => h9) rfl dX7_isNoSet_6 ?_
      have hPc := hP.sub (ws' := [(kl, .inr (6, [.int km, .ref kd, .int (nI K)]))]) [1] rfl
      have hDc := hD.sub (ws' := [(kl, .inr (6, [.int km, .ref kd, .int (nI K)]))]) [1] (by decide) rfl
      have hFc := va_free (wc := [(kl, .inr (6, [.int km, .ref kd, .int (nI K)]))]) hD (va_S_up hS hA) hA [1] rfl
      refine va_calli (va_runV (As := []) (rest := [.int x1]) ⟨hx, hb, hml, hown, hts⟩ (c_Jx4a65c_size_8abf5 l D kl km kd K H.size ) (cwV 0 hts (gi_V q_1263 q_1264 q_1265 q_107 q_1266) rfl rfl rfl (by decide +kernel) ⟨Nat.le_of_ble_eq_true rfl, Nat.le_of_ble_eq_true rfl⟩) ⟨cPre_blind, va_recv hK hP (ci := 6) (q0 := 1) rfl rfl, cPre_mk hPc hK hDc hN (lwZ_for hZ (va_S_up hS hA) hFc)⟩ rfl rfl hl.1 rfl (lv_room (Nat.le_of_ble_eq_true rfl)) dX7_isNoSet_9 ⟨(Nat.le_of_ble_eq_true rfl), (Nat.le_of_ble_eq_true rfl)⟩) hS (fun q h1 h2 => absurd h2 (Nat.not_le.mpr h1)) (fun q h => Nat.le_trans hS.1 h) (fun r_9 u t H1 locs ht hvm hw hBk hz1 hk1 hS => ?_)
      have hP := va_P_ro hP hk1
      subst hw
      clear hBk hvm ht u hz1 hk1
      clear hPc hDc hFc; clear t
      generalize H1 = H at hP hS ⊢
      refine lv_ishr hx hb dX7_isNoSet_12 ?_
      refine lv_if_eq (tgt := 20) hx hb dX7_isNoSet_13 (by decide) (fun c_2 => ?_) (fun c_2 => ?_)
      · refine lv_iconst (v := 0) hx hb dX7_isNoSet_20 (by decide) ?_
        subst hQe
        exact W.zret (ty := .boolean) (v := 0) hx hb hr (zb_narrow zb_0) (fun t ht hW => ⟨⟨0, (), rfl, ⟨(by unfold F_X7_isNoSet; rw [if_neg c_1, if_pos c_2]), zb_0⟩, trivial⟩, hS.F ht⟩) hS.2.2 dX7_isNoSet_21
      · refine lv_iconst (v := 1) hx hb dX7_isNoSet_16 (by decide) ?_
        refine lv_goto (tgt := 21) hx hb dX7_isNoSet_17 (by decide) ?_
        subst hQe
        exact W.zret (ty := .boolean) (v := 1) hx hb hr (zb_narrow zb_1) (fun t ht hW => ⟨⟨1, (), rfl, ⟨(by unfold F_X7_isNoSet; rw [if_neg c_1, if_neg c_2]), zb_1⟩, trivial⟩, hS.F ht⟩) hS.2.2 dX7_isNoSet_21
  rw [hHe, hLe] at hgoal
  exact hgoal

def L_X7_many_4  : Nat → Nat → (Int32 × Int32) → Int32
  | 0, i0, a0 => a0.1
  | n0 + 1, i0, a0 => (if a0.2 ≤ 0 then a0.1 else L_X7_many_4  n0 (i0 + 1) (a0.1 + (a0.2 - a0.2 / 2 * 2), a0.2 / 2))
def F_X7_many (x0 : Int32) : Int32 := L_X7_many_4 31 0 (0, x0)
theorem mny_0 (x : Int32) : x.toInt < 2 ^ 31 := Int32.toInt_lt x
theorem mny_s {x : Int32} {i : Nat} (hi : i < 31) (h : x.toInt < 2 ^ (31 - i)) (h0 : ¬ x ≤ 0) : (x / 2).toInt < 2 ^ (31 - (i + 1)) := by
  rw [Int32.le_iff_toInt_le] at h0
  have hz : (0 : Int32).toInt = 0 := by decide
  rw [hz] at h0
  have h2 : (2 : Int32).toInt = 2 := by decide
  have h3 := Int32.toInt_lt x
  rw [Int32.toInt_div, h2, Int.tdiv_eq_ediv_of_nonneg (by omega), Int.bmod_eq_of_le (by omega) (by omega)]
  have h4 : (2 : Int) ^ (31 - i) = 2 ^ (31 - (i + 1)) * 2 := by rw [← Int.pow_succ]; congr 1; omega
  omega
theorem mny_z {x : Int32} {i : Nat} (hi : i = 31) (h : x.toInt < 2 ^ (31 - i)) : x ≤ 0 := by
  subst hi
  rw [Int32.le_iff_toInt_le]
  have hz : (0 : Int32).toInt = 0 := by decide
  rw [hz]
  have h2 : x.toInt < 1 := h
  omega
set_option maxHeartbeats 4000000 in
set_option maxRecDepth 100000 in
theorem c_X7_many (l : Launch) (D : va_G) (x0 : Int32) (sz : Nat)  : Met l yX7_many (Cond.code yX7_many cX7_many 3 (some .int) :: lwAll) ({ frames := 0, cells := 0, slots := 0, locals := 0 } : Room) (va_Pc [.int x0] (cPre D (lwTY D) [] sz)) (va_Qi (fun (r : Int32) (_ : Unit) => r = (F_X7_many x0)) (fun _ _ => True) (fun q : Nat => sz ≤ q)) 0 0 (fun q : Nat => sz ≤ q) := by
  refine Met.ofW (cc := cX7_many) (maxL := 3) (ret := (some .int)) (by decide) rfl ?_
  intro p e s m args below meth c s₁ B hml hv
  obtain ⟨rfl, hsz, hP, hK, hD0, hN, hZ⟩ := hv
  have hx := B.exec
  have hb := B.bytes
  have hr := B.returns
  have hts : ∀ wd ∈ lwAll, wd.before ([.int x0] : List Value).toArray s = true := fun wd h => atoms_spec (ws := (Cond.code yX7_many cX7_many 3 (some .int) :: lwAll)) B.pre wd (List.mem_cons_of_mem _ h)
  have hown : s.vm.findClass RX7 = some m.cls := findClass_of_methodNamed B.named
  have hlocks := B.notSynchronized
  subst hsz
  have hD := hD0.self (sz := s.heap.size)
  have hl := lv_entry ([.int x0]) (n := 3) (Nat.le_of_ble_eq_true rfl)
  rw [lg_entry_eq]
  generalize (lg_sl ([.int x0]) ++ List.replicate (3 - (lg_sl ([.int x0])).length) Slot.unset).toArray = ls at hl ⊢
  have hl : lv_has ls 3 [(0, .int x0)] := hl
  have hS : va_S (fun q : Nat => s.heap.size ≤ q) s.heap s.heap [] := va_S.rf
  generalize hQe : MQ below (va_Qi (fun (r : Int32) (_ : Unit) => r = (F_X7_many x0)) (fun _ _ => True) (fun q : Nat => s.heap.size ≤ q)) ([.int x0] : List Value).toArray s 0 0 (fun q : Nat => s.heap.size ≤ q) = Q
  have hP : va_P D vwCl [] s.heap := hP
  obtain ⟨A, hAe⟩ : ∃ A, A = va_A [] s.heap.size := ⟨_, rfl⟩
  rw [← hAe] at hD hZ
  have hA : ∀ q : Nat, s.heap.size ≤ q → A q := fun q h => by rw [hAe]; exact Or.inr h
  obtain ⟨H, hHe⟩ : ∃ H, H = s.heap := ⟨_, rfl⟩
  obtain ⟨locs, hLe⟩ : ∃ L : List Loc, L = [] := ⟨_, rfl⟩
  have hP : va_P D vwCl [] H := by rw [hHe]; exact hP
  have hS : va_S (fun q : Nat => s.heap.size ≤ q) s.heap H locs := by rw [hHe, hLe]; exact hS
  have hgoal : W p l e ({ frames := 0, cells := 0, slots := 0, locals := 0 } : Room) s m ([.int x0] : List Value).toArray below meth c H locs 0 0 Q (F0 m 0 ls []) := by
    clear hHe hLe
    refine lv_iconst (v := 0) hx hb dX7_many_0 (by decide) ?_
    refine lv_istore_n (lv' := [(1, .int 0), (0, .int x0)]) hx hb dX7_many_1 rfl hl (by decide) rfl (fun ls hl => ?_)
    refine lv_iload_n hx hb dX7_many_2 rfl (lv_at hl 1 rfl) ?_
    refine lv_istore_n (lv' := [(2, .int x0), (1, .int 0), (0, .int x0)]) hx hb dX7_many_3 rfl hl (by decide) rfl (fun ls hl => ?_)
    have lp_4 : ∀ (n0 i0 : Nat), i0 + n0 = 31 → ∀ (a0 : Int32 × Int32) (H : Heap) (locs : List Loc) (ls : Array Slot), va_P D vwCl [] H → va_D A [] → va_S (fun q : Nat => s.heap.size ≤ q) s.heap H locs → lv_has ls 3 [(1, .int a0.1), (2, .int a0.2)] → a0.2.toInt < 2 ^ (31 - i0) → (F_X7_many x0) = L_X7_many_4 n0 i0 a0 → W p l e ({ frames := 0, cells := 0, slots := 0, locals := 0 } : Room) s m ([.int x0] : List Value).toArray below meth c H locs 0 0 Q (F0 m 4 ls []) := by
      intro n0
      induction n0 with
      | zero =>
        intro i0 hi0 a0 H locs ls hP hD hS hl hv0 hE0
        have he0 : i0 = 31 := by omega
        refine lv_iload_n hx hb dX7_many_4 rfl (lv_at hl 1 rfl) ?_
        refine lv_if_le (tgt := 21) hx hb dX7_many_5 (by decide) (fun c_1 => ?_) (fun c_1 => ?_)
        · refine lv_iload_n hx hb dX7_many_21 rfl (lv_at hl 0 rfl) ?_
          subst hQe
          exact W.iret (v := a0.1) hx hb hr (fun t ht hW => ⟨⟨a0.1, (), rfl, (by rw [hE0, L_X7_many_4]), trivial⟩, hS.F ht⟩) hS.2.2 dX7_many_22
        · exact absurd (mny_z (by omega) hv0) c_1
      | succ n0 ih0 =>
        intro i0 hi0 a0 H locs ls hP hD hS hl hv0 hE0
        refine lv_iload_n hx hb dX7_many_4 rfl (lv_at hl 1 rfl) ?_
        refine lv_if_le (tgt := 21) hx hb dX7_many_5 (by decide) (fun c_2 => ?_) (fun c_2 => ?_)
        · refine lv_iload_n hx hb dX7_many_21 rfl (lv_at hl 0 rfl) ?_
          subst hQe
          exact W.iret (v := a0.1) hx hb hr (fun t ht hW => ⟨⟨a0.1, (), rfl, (by rw [hE0, L_X7_many_4, if_pos c_2]), trivial⟩, hS.F ht⟩) hS.2.2 dX7_many_22
        · refine lv_iload_n hx hb dX7_many_8 rfl (lv_at hl 0 rfl) ?_
          refine lv_iload_n hx hb dX7_many_9 rfl (lv_at hl 1 rfl) ?_
          refine lv_iconst (v := 2) hx hb dX7_many_10 (by decide) ?_
          refine lv_irem hx hb dX7_many_11 (by decide) ?_
          refine lv_iadd hx hb dX7_many_12 ?_
          refine lv_istore_n (lv' := [(1, .int (a0.1 + (a0.2 - a0.2 / 2 * 2))), (2, .int a0.2)]) hx hb dX7_many_13 rfl hl (by decide) rfl (fun ls hl => ?_)
          refine lv_iload_n hx hb dX7_many_14 rfl (lv_at hl 1 rfl) ?_
          refine lv_iconst (v := 2) hx hb dX7_many_15 (by decide) ?_
          refine lv_idiv hx hb dX7_many_16 (by decide) ?_
          refine lv_istore_n (lv' := [(2, .int (a0.2 / 2)), (1, .int (a0.1 + (a0.2 - a0.2 / 2 * 2)))]) hx hb dX7_many_17 rfl hl (by decide) rfl (fun ls hl => ?_)
          refine lv_goto (tgt := 4) hx hb dX7_many_18 (by decide) ?_
          have hl : lv_has ls 3 [(1, .int (a0.1 + (a0.2 - a0.2 / 2 * 2))), (2, .int (a0.2 / 2))] := lv_sub hl [1, 0] rfl
          have hP := hP.sub (ws' := []) [] rfl
          have hD := hD.sub (ws' := []) [] (by decide) rfl
          exact ih0 (i0 + 1) (by omega) (a0.1 + (a0.2 - a0.2 / 2 * 2), a0.2 / 2) H locs ls hP hD hS hl (mny_s (by omega) hv0 (by assumption)) (by rw [hE0, L_X7_many_4, if_neg c_2])
    have hl : lv_has ls 3 [(1, .int 0), (2, .int x0)] := lv_sub hl [1, 0] rfl
    exact lp_4 31 0 (by omega) (0, x0) H locs ls hP hD hS hl (mny_0 _) (by rfl)
  rw [hHe, hLe] at hgoal
  exact hgoal

def S_X7_able_7 (R : Nat) (C : Nat) (br : Int32) (i0 : Nat) (a0 : Int32) : Int32 := (if (F_X7_has br ((nI i0) / (nI C))) = 0 then (if (F_X7_has br ((nI R) + ((nI i0) - (nI i0) / (nI C) * (nI C)))) = 0 then a0 else F_X7_with a0 (nI i0) 0) else F_X7_with a0 (nI i0) 0)
def F_X7_able (R : Nat) (C : Nat) (fi : Int32) (br : Int32) (K : Nat) : Int32 := (itr (fun i a => S_X7_able_7 R C br i a) K 0 fi)
set_option maxHeartbeats 4000000 in
set_option maxRecDepth 100000 in
theorem c_X7_able (l : Launch) (D : va_G) (hM : Nat) (th : Int32) (R : Nat) (C : Nat) (fi : Int32) (di : Int32) (he : Int32) (br : Int32) (pa : Int32) (gu : Int32) (sc : Nat) (cl : Int32) (se : Int32) (lo : Int32) (lu : Int32) (rf : Int32) (kl : Nat) (kc : Nat) (hB : Nat) (km : Int32) (kd : Nat) (K : Nat) (sz : Nat) (hR : R ≤ 5) (hC : C ≤ 5) (hC0 : 0 < C) (hKb : K ≤ 25) : Met l yX7_able (Cond.code yX7_able cX7_able 3 (some .int) :: lwAll) ({ frames := 1, cells := 0, slots := 0, locals := 22 } : Room) (va_Pc [.ref hM] (cPre D (lwTY D) [(hM, .inr (14, [.int th, .int (nI R), .int (nI C), .int fi, .int di, .int he, .int br, .int pa, .int gu, .int (nI sc), .int cl, .int se, .int lo, .int lu, .int rf, .ref kl, .ref kc, .ref hB])), (kl, .inr (6, [.int km, .ref kd, .int (nI K)]))] sz)) (va_Qi (fun (r : Int32) (_ : Unit) => r = (F_X7_able R C fi br K)) (fun _ _ => True) (fun q : Nat => sz ≤ q)) 0 0 (fun q : Nat => sz ≤ q) := by
  refine Met.ofW (cc := cX7_able) (maxL := 3) (ret := (some .int)) (by decide) rfl ?_
  intro p e s m args below meth c s₁ B hml hv
  obtain ⟨rfl, hsz, hP, hK, hD0, hN, hZ⟩ := hv
  have hx := B.exec
  have hb := B.bytes
  have hr := B.returns
  have hts : ∀ wd ∈ lwAll, wd.before ([.ref hM] : List Value).toArray s = true := fun wd h => atoms_spec (ws := (Cond.code yX7_able cX7_able 3 (some .int) :: lwAll)) B.pre wd (List.mem_cons_of_mem _ h)
  have hown : s.vm.findClass RX7 = some m.cls := findClass_of_methodNamed B.named
  have hlocks := B.notSynchronized
  subst hsz
  have hD := hD0.self (sz := s.heap.size)
  have hl := lv_entry ([.ref hM]) (n := 3) (Nat.le_of_ble_eq_true rfl)
  rw [lg_entry_eq]
  generalize (lg_sl ([.ref hM]) ++ List.replicate (3 - (lg_sl ([.ref hM])).length) Slot.unset).toArray = ls at hl ⊢
  have hl : lv_has ls 3 [(0, .ref hM)] := hl
  have hS : va_S (fun q : Nat => s.heap.size ≤ q) s.heap s.heap [] := va_S.rf
  generalize hQe : MQ below (va_Qi (fun (r : Int32) (_ : Unit) => r = (F_X7_able R C fi br K)) (fun _ _ => True) (fun q : Nat => s.heap.size ≤ q)) ([.ref hM] : List Value).toArray s 0 0 (fun q : Nat => s.heap.size ≤ q) = Q
  have hP : va_P D vwCl [(hM, .inr (14, [.int th, .int (nI R), .int (nI C), .int fi, .int di, .int he, .int br, .int pa, .int gu, .int (nI sc), .int cl, .int se, .int lo, .int lu, .int rf, .ref kl, .ref kc, .ref hB])), (kl, .inr (6, [.int km, .ref kd, .int (nI K)]))] s.heap := hP
  obtain ⟨A, hAe⟩ : ∃ A, A = va_A [(hM, .inr (14, [.int th, .int (nI R), .int (nI C), .int fi, .int di, .int he, .int br, .int pa, .int gu, .int (nI sc), .int cl, .int se, .int lo, .int lu, .int rf, .ref kl, .ref kc, .ref hB])), (kl, .inr (6, [.int km, .ref kd, .int (nI K)]))] s.heap.size := ⟨_, rfl⟩
  rw [← hAe] at hD hZ
  have hA : ∀ q : Nat, s.heap.size ≤ q → A q := fun q h => by rw [hAe]; exact Or.inr h
  obtain ⟨H, hHe⟩ : ∃ H, H = s.heap := ⟨_, rfl⟩
  obtain ⟨locs, hLe⟩ : ∃ L : List Loc, L = [] := ⟨_, rfl⟩
  have hP : va_P D vwCl [(hM, .inr (14, [.int th, .int (nI R), .int (nI C), .int fi, .int di, .int he, .int br, .int pa, .int gu, .int (nI sc), .int cl, .int se, .int lo, .int lu, .int rf, .ref kl, .ref kc, .ref hB])), (kl, .inr (6, [.int km, .ref kd, .int (nI K)]))] H := by rw [hHe]; exact hP
  have hS : va_S (fun q : Nat => s.heap.size ≤ q) s.heap H locs := by rw [hHe, hLe]; exact hS
  have hgoal : W p l e ({ frames := 1, cells := 0, slots := 0, locals := 22 } : Room) s m ([.ref hM] : List Value).toArray below meth c H locs 0 0 Q (F0 m 0 ls []) := by
    clear hHe hLe
    refine lv_aload_n hx hb dX7_able_0 rfl (lv_at hl 0 rfl) ?_
    refine va_get (D := D) (ci := 14) (v := .int fi) (C := RX7) (T := TX7) (N := 18) hx hb hts in_X7 hown hK hP 0 rfl rfl 3 (by decide) (hts _ q_1271) (fun _ h9 => h9) rfl dX7_able_1 ?_
    refine lv_istore_n (lv' := [(1, .int fi), (0, .ref hM)]) hx hb dX7_able_4 rfl hl (by decide) rfl (fun ls hl => ?_)
    refine lv_iconst (v := 0) hx hb dX7_able_5 (by decide) ?_
    refine lv_istore_n (lv' := [(2, .int 0), (1, .int fi), (0, .ref hM)]) hx hb dX7_able_6 rfl hl (by decide) rfl (fun ls hl => ?_)
    have lp_7 : ∀ (n0 i0 : Nat), i0 + n0 = K → ∀ (a0 : Int32) (H : Heap) (locs : List Loc) (ls : Array Slot), va_P D vwCl [(hM, .inr (14, [.int th, .int (nI R), .int (nI C), .int fi, .int di, .int he, .int br, .int pa, .int gu, .int (nI sc), .int cl, .int se, .int lo, .int lu, .int rf, .ref kl, .ref kc, .ref hB])), (kl, .inr (6, [.int km, .ref kd, .int (nI K)]))] H → va_D A [(hM, .inr (14, [.int th, .int (nI R), .int (nI C), .int fi, .int di, .int he, .int br, .int pa, .int gu, .int (nI sc), .int cl, .int se, .int lo, .int lu, .int rf, .ref kl, .ref kc, .ref hB])), (kl, .inr (6, [.int km, .ref kd, .int (nI K)]))] → va_S (fun q : Nat => s.heap.size ≤ q) s.heap H locs → lv_has ls 3 [(0, .ref hM), (1, .int a0), (2, .int (nI i0))] → (∀ (H : Heap) (locs : List Loc) (ls : Array Slot), va_P D vwCl [(hM, .inr (14, [.int th, .int (nI R), .int (nI C), .int fi, .int di, .int he, .int br, .int pa, .int gu, .int (nI sc), .int cl, .int se, .int lo, .int lu, .int rf, .ref kl, .ref kc, .ref hB])), (kl, .inr (6, [.int km, .ref kd, .int (nI K)]))] H → va_D A [(hM, .inr (14, [.int th, .int (nI R), .int (nI C), .int fi, .int di, .int he, .int br, .int pa, .int gu, .int (nI sc), .int cl, .int se, .int lo, .int lu, .int rf, .ref kl, .ref kc, .ref hB])), (kl, .inr (6, [.int km, .ref kd, .int (nI K)]))] → va_S (fun q : Nat => s.heap.size ≤ q) s.heap H locs → lv_has ls 3 [(0, .ref hM), (1, .int (itr (fun i a => S_X7_able_7 R C br i a) n0 i0 a0)), (2, .int (nI K))] → W p l e ({ frames := 1, cells := 0, slots := 0, locals := 22 } : Room) s m ([.ref hM] : List Value).toArray below meth c H locs 0 0 Q (F0 m 68 ls [])) → W p l e ({ frames := 1, cells := 0, slots := 0, locals := 22 } : Room) s m ([.ref hM] : List Value).toArray below meth c H locs 0 0 Q (F0 m 7 ls []) := by
      intro n0
      induction n0 with
      | zero =>
        intro i0 hi0 a0 H locs ls hP hD hS hl kon
        have he0 : i0 = K := by omega
        refine lv_iload_n hx hb dX7_able_7 rfl (lv_at hl 2 rfl) ?_
        refine lv_aload_n hx hb dX7_able_8 rfl (lv_at hl 0 rfl) ?_
        refine va_get (D := D) (ci := 14) (v := .ref kl) (C := RX7) (T := TX7) (N := 18) hx hb hts in_X7 hown hK hP 0 rfl rfl 15 (by decide) (hts _ q_1283) (fun _ h9 => h9) rfl dX7_able_9 ?_
        have hPc := hP.sub (ws' := [(kl, .inr (6, [.int km, .ref kd, .int (nI K)]))]) [1] rfl
        have hDc := hD.sub (ws' := [(kl, .inr (6, [.int km, .ref kd, .int (nI K)]))]) [1] (by decide) rfl
        have hFc := va_free (wc := [(kl, .inr (6, [.int km, .ref kd, .int (nI K)]))]) hD (va_S_up hS hA) hA [1] rfl
        refine va_calli (va_runV (As := []) (rest := [.int (nI i0)]) ⟨hx, hb, hml, hown, hts⟩ (c_Jx4a65c_size_8abf5 l D kl km kd K H.size ) (cwV 0 hts (gi_V q_1263 q_1264 q_1265 q_107 q_1266) rfl rfl rfl (by decide +kernel) ⟨Nat.le_of_ble_eq_true rfl, Nat.le_of_ble_eq_true rfl⟩) ⟨cPre_blind, va_recv hK hP (ci := 6) (q0 := 1) rfl rfl, cPre_mk hPc hK hDc hN (lwZ_for hZ (va_S_up hS hA) hFc)⟩ rfl rfl hl.1 rfl (lv_room (Nat.le_of_ble_eq_true rfl)) dX7_able_12 ⟨(Nat.le_of_ble_eq_true rfl), (Nat.le_of_ble_eq_true rfl)⟩) hS (fun q h1 h2 => absurd h2 (Nat.not_le.mpr h1)) (fun q h => Nat.le_trans hS.1 h) (fun r_12 u t H1 locs ht hvm hw hBk hz1 hk1 hS => ?_)
        have hP := va_P_ro hP hk1
        subst hw
        clear hBk hvm ht u hz1 hk1
        clear hPc hDc hFc; clear t
        generalize H1 = H at hP hS ⊢
        refine lv_icmp_ge (tgt := 68) hx hb dX7_able_15 (by decide) (fun c_1 => ?_) (fun c_1 => ?_)
        · subst he0
          exact kon H locs ls hP hD hS (lv_sub hl [0, 1, 2] rfl)
        · exact absurd (nI_le (a := K) (b := i0) (by omega) (by omega)) c_1
      | succ n0 ih0 =>
        intro i0 hi0 a0 H locs ls hP hD hS hl kon
        refine lv_iload_n hx hb dX7_able_7 rfl (lv_at hl 2 rfl) ?_
        refine lv_aload_n hx hb dX7_able_8 rfl (lv_at hl 0 rfl) ?_
        refine va_get (D := D) (ci := 14) (v := .ref kl) (C := RX7) (T := TX7) (N := 18) hx hb hts in_X7 hown hK hP 0 rfl rfl 15 (by decide) (hts _ q_1283) (fun _ h9 => h9) rfl dX7_able_9 ?_
        have hPc := hP.sub (ws' := [(kl, .inr (6, [.int km, .ref kd, .int (nI K)]))]) [1] rfl
        have hDc := hD.sub (ws' := [(kl, .inr (6, [.int km, .ref kd, .int (nI K)]))]) [1] (by decide) rfl
        have hFc := va_free (wc := [(kl, .inr (6, [.int km, .ref kd, .int (nI K)]))]) hD (va_S_up hS hA) hA [1] rfl
        refine va_calli (va_runV (As := []) (rest := [.int (nI i0)]) ⟨hx, hb, hml, hown, hts⟩ (c_Jx4a65c_size_8abf5 l D kl km kd K H.size ) (cwV 0 hts (gi_V q_1263 q_1264 q_1265 q_107 q_1266) rfl rfl rfl (by decide +kernel) ⟨Nat.le_of_ble_eq_true rfl, Nat.le_of_ble_eq_true rfl⟩) ⟨cPre_blind, va_recv hK hP (ci := 6) (q0 := 1) rfl rfl, cPre_mk hPc hK hDc hN (lwZ_for hZ (va_S_up hS hA) hFc)⟩ rfl rfl hl.1 rfl (lv_room (Nat.le_of_ble_eq_true rfl)) dX7_able_12 ⟨(Nat.le_of_ble_eq_true rfl), (Nat.le_of_ble_eq_true rfl)⟩) hS (fun q h1 h2 => absurd h2 (Nat.not_le.mpr h1)) (fun q h => Nat.le_trans hS.1 h) (fun r_12 u t H1 locs ht hvm hw hBk hz1 hk1 hS => ?_)
        have hP := va_P_ro hP hk1
        subst hw
        clear hBk hvm ht u hz1 hk1
        clear hPc hDc hFc; clear t
        generalize H1 = H at hP hS ⊢
        refine lv_icmp_ge (tgt := 68) hx hb dX7_able_15 (by decide) (fun c_2 => ?_) (fun c_2 => ?_)
        · exact absurd c_2 (nI_ge (a := i0) (b := K) (by omega) (by omega))
        · refine lv_aload_n hx hb dX7_able_18 rfl (lv_at hl 0 rfl) ?_
          refine va_get (D := D) (ci := 14) (v := .int br) (C := RX7) (T := TX7) (N := 18) hx hb hts in_X7 hown hK hP 0 rfl rfl 6 (by decide) (hts _ q_1274) (fun _ h9 => h9) rfl dX7_able_19 ?_
          refine lv_iload_n hx hb dX7_able_22 rfl (lv_at hl 2 rfl) ?_
          refine lv_aload_n hx hb dX7_able_23 rfl (lv_at hl 0 rfl) ?_
          refine va_get (D := D) (ci := 14) (v := .int (nI C)) (C := RX7) (T := TX7) (N := 18) hx hb hts in_X7 hown hK hP 0 rfl rfl 2 (by decide) (hts _ q_1270) (fun _ h9 => h9) rfl dX7_able_24 ?_
          refine lv_idiv hx hb dX7_able_27 (nI_nz hC0 hC) ?_
          have hPc := hP.sub (ws' := []) [] rfl
          have hDc := hD.sub (ws' := []) [] (by decide) rfl
          have hFc := va_free (wc := []) hD (va_S_up hS hA) hA [] rfl
          refine va_calli (va_runS (As := [.int br, .int ((nI i0) / (nI C))]) (rest := []) ⟨hx, hb, hml, hown, hts⟩ (c_X7_has l D br ((nI i0) / (nI C)) H.size ) (cwS 2 hts (gi_S q_1361 q_1362 q_104 q_1363) rfl rfl rfl (by decide +kernel) ⟨Nat.le_of_ble_eq_true rfl, Nat.le_of_ble_eq_true rfl⟩) ⟨cPre_blind, cPre_mk hPc hK hDc hN (lwZ_for hZ (va_S_up hS hA) hFc)⟩ rfl rfl hl.1 rfl (lv_room (Nat.le_of_ble_eq_true rfl)) dX7_able_28 ⟨(Nat.le_of_ble_eq_true rfl), (Nat.le_of_ble_eq_true rfl)⟩) hS (fun q h1 h2 => absurd h2 (Nat.not_le.mpr h1)) (fun q h => Nat.le_trans hS.1 h) (fun r_28 u t H1 locs ht hvm hw hBk hz1 hk1 hS => ?_)
          have hP := va_P_ro hP hk1
          obtain ⟨hw, z_3⟩ := hw
          rw [hw] at z_3
          subst hw
          clear hBk hvm ht u hz1 hk1
          clear hPc hDc hFc; clear t
          generalize H1 = H at hP hS ⊢
          refine lv_if_ne (tgt := 55) hx hb dX7_able_31 (by decide) (fun c_4 => ?_) (fun c_4 => ?_)
          · refine lv_iload_n hx hb dX7_able_55 rfl (lv_at hl 1 rfl) ?_
            refine lv_iload_n hx hb dX7_able_56 rfl (lv_at hl 2 rfl) ?_
            refine lv_iconst (v := 0) hx hb dX7_able_57 (by decide) ?_
            have hPc := hP.sub (ws' := []) [] rfl
            have hDc := hD.sub (ws' := []) [] (by decide) rfl
            have hFc := va_free (wc := []) hD (va_S_up hS hA) hA [] rfl
            refine va_calli (va_runS (As := [.int a0, .int (nI i0), .int 0]) (rest := []) ⟨hx, hb, hml, hown, hts⟩ (c_X7_with l D a0 (nI i0) 0 H.size ) (cwS 3 hts (gi_S q_1346 q_1347 q_104 q_1348) rfl rfl rfl (by decide +kernel) ⟨Nat.le_of_ble_eq_true rfl, Nat.le_of_ble_eq_true rfl⟩) ⟨cPre_blind, cPre_mk hPc hK hDc hN (lwZ_for hZ (va_S_up hS hA) hFc)⟩ rfl rfl hl.1 rfl (lv_room (Nat.le_of_ble_eq_true rfl)) dX7_able_58 ⟨(Nat.le_of_ble_eq_true rfl), (Nat.le_of_ble_eq_true rfl)⟩) hS (fun q h1 h2 => absurd h2 (Nat.not_le.mpr h1)) (fun q h => Nat.le_trans hS.1 h) (fun r_58 u t H1 locs ht hvm hw hBk hz1 hk1 hS => ?_)
            have hP := va_P_ro hP hk1
            subst hw
            clear hBk hvm ht u hz1 hk1
            clear hPc hDc hFc; clear t
            generalize H1 = H at hP hS ⊢
            refine lv_istore_n (lv' := [(1, .int (F_X7_with a0 (nI i0) 0)), (0, .ref hM), (2, .int (nI i0))]) hx hb dX7_able_61 rfl hl (by decide) rfl (fun ls hl => ?_)
            refine lv_iinc (v := nI (i0 + 1)) (lv' := [(2, .int (nI (i0 + 1))), (1, .int (F_X7_with a0 (nI i0) 0)), (0, .ref hM)]) hx hb dX7_able_62 hl (k := 2) rfl (nI_1 _) (by decide) rfl (fun ls hl => ?_)
            refine lv_goto (tgt := 7) hx hb dX7_able_65 (by decide) ?_
            have hE : S_X7_able_7 R C br i0 a0 = F_X7_with a0 (nI i0) 0 := (by unfold S_X7_able_7; rw [if_neg c_4])
            have hl : lv_has ls 3 [(0, .ref hM), (1, .int (F_X7_with a0 (nI i0) 0)), (2, .int (nI (i0 + 1)))] := lv_sub hl [2, 1, 0] rfl
            have hP := hP.sub (ws' := [(hM, .inr (14, [.int th, .int (nI R), .int (nI C), .int fi, .int di, .int he, .int br, .int pa, .int gu, .int (nI sc), .int cl, .int se, .int lo, .int lu, .int rf, .ref kl, .ref kc, .ref hB])), (kl, .inr (6, [.int km, .ref kd, .int (nI K)]))]) [0, 1] rfl
            have hD := hD.sub (ws' := [(hM, .inr (14, [.int th, .int (nI R), .int (nI C), .int fi, .int di, .int he, .int br, .int pa, .int gu, .int (nI sc), .int cl, .int se, .int lo, .int lu, .int rf, .ref kl, .ref kc, .ref hB])), (kl, .inr (6, [.int km, .ref kd, .int (nI K)]))]) [0, 1] (by decide) rfl
            exact ih0 (i0 + 1) (by omega) (S_X7_able_7 R C br i0 a0) H locs ls (by (try rw [hE]); exact hP) (by (try rw [hE]); exact hD) hS (by (try rw [hE]); exact hl) kon
          · refine lv_aload_n hx hb dX7_able_34 rfl (lv_at hl 0 rfl) ?_
            refine va_get (D := D) (ci := 14) (v := .int br) (C := RX7) (T := TX7) (N := 18) hx hb hts in_X7 hown hK hP 0 rfl rfl 6 (by decide) (hts _ q_1274) (fun _ h9 => h9) rfl dX7_able_35 ?_
            refine lv_aload_n hx hb dX7_able_38 rfl (lv_at hl 0 rfl) ?_
            refine va_get (D := D) (ci := 14) (v := .int (nI R)) (C := RX7) (T := TX7) (N := 18) hx hb hts in_X7 hown hK hP 0 rfl rfl 1 (by decide) (hts _ q_1269) (fun _ h9 => h9) rfl dX7_able_39 ?_
            refine lv_iload_n hx hb dX7_able_42 rfl (lv_at hl 2 rfl) ?_
            refine lv_aload_n hx hb dX7_able_43 rfl (lv_at hl 0 rfl) ?_
            refine va_get (D := D) (ci := 14) (v := .int (nI C)) (C := RX7) (T := TX7) (N := 18) hx hb hts in_X7 hown hK hP 0 rfl rfl 2 (by decide) (hts _ q_1270) (fun _ h9 => h9) rfl dX7_able_44 ?_
            refine lv_irem hx hb dX7_able_47 (nI_nz hC0 hC) ?_
            refine lv_iadd hx hb dX7_able_48 ?_
            have hPc := hP.sub (ws' := []) [] rfl
            have hDc := hD.sub (ws' := []) [] (by decide) rfl
            have hFc := va_free (wc := []) hD (va_S_up hS hA) hA [] rfl
            refine va_calli (va_runS (As := [.int br, .int ((nI R) + ((nI i0) - (nI i0) / (nI C) * (nI C)))]) (rest := []) ⟨hx, hb, hml, hown, hts⟩ (c_X7_has l D br ((nI R) + ((nI i0) - (nI i0) / (nI C) * (nI C))) H.size ) (cwS 2 hts (gi_S q_1361 q_1362 q_104 q_1363) rfl rfl rfl (by decide +kernel) ⟨Nat.le_of_ble_eq_true rfl, Nat.le_of_ble_eq_true rfl⟩) ⟨cPre_blind, cPre_mk hPc hK hDc hN (lwZ_for hZ (va_S_up hS hA) hFc)⟩ rfl rfl hl.1 rfl (lv_room (Nat.le_of_ble_eq_true rfl)) dX7_able_49 ⟨(Nat.le_of_ble_eq_true rfl), (Nat.le_of_ble_eq_true rfl)⟩) hS (fun q h1 h2 => absurd h2 (Nat.not_le.mpr h1)) (fun q h => Nat.le_trans hS.1 h) (fun r_49 u t H1 locs ht hvm hw hBk hz1 hk1 hS => ?_)
            have hP := va_P_ro hP hk1
            obtain ⟨hw, z_5⟩ := hw
            rw [hw] at z_5
            subst hw
            clear hBk hvm ht u hz1 hk1
            clear hPc hDc hFc; clear t
            generalize H1 = H at hP hS ⊢
            refine lv_if_eq (tgt := 62) hx hb dX7_able_52 (by decide) (fun c_6 => ?_) (fun c_6 => ?_)
            · refine lv_iinc (v := nI (i0 + 1)) (lv' := [(2, .int (nI (i0 + 1))), (0, .ref hM), (1, .int a0)]) hx hb dX7_able_62 hl (k := 2) rfl (nI_1 _) (by decide) rfl (fun ls hl => ?_)
              refine lv_goto (tgt := 7) hx hb dX7_able_65 (by decide) ?_
              have hE : S_X7_able_7 R C br i0 a0 = a0 := (by unfold S_X7_able_7; rw [if_pos c_4, if_pos c_6])
              have hl : lv_has ls 3 [(0, .ref hM), (1, .int a0), (2, .int (nI (i0 + 1)))] := lv_sub hl [1, 2, 0] rfl
              have hP := hP.sub (ws' := [(hM, .inr (14, [.int th, .int (nI R), .int (nI C), .int fi, .int di, .int he, .int br, .int pa, .int gu, .int (nI sc), .int cl, .int se, .int lo, .int lu, .int rf, .ref kl, .ref kc, .ref hB])), (kl, .inr (6, [.int km, .ref kd, .int (nI K)]))]) [0, 1] rfl
              have hD := hD.sub (ws' := [(hM, .inr (14, [.int th, .int (nI R), .int (nI C), .int fi, .int di, .int he, .int br, .int pa, .int gu, .int (nI sc), .int cl, .int se, .int lo, .int lu, .int rf, .ref kl, .ref kc, .ref hB])), (kl, .inr (6, [.int km, .ref kd, .int (nI K)]))]) [0, 1] (by decide) rfl
              exact ih0 (i0 + 1) (by omega) (S_X7_able_7 R C br i0 a0) H locs ls (by (try rw [hE]); exact hP) (by (try rw [hE]); exact hD) hS (by (try rw [hE]); exact hl) kon
            · refine lv_iload_n hx hb dX7_able_55 rfl (lv_at hl 1 rfl) ?_
              refine lv_iload_n hx hb dX7_able_56 rfl (lv_at hl 2 rfl) ?_
              refine lv_iconst (v := 0) hx hb dX7_able_57 (by decide) ?_
              have hPc := hP.sub (ws' := []) [] rfl
              have hDc := hD.sub (ws' := []) [] (by decide) rfl
              have hFc := va_free (wc := []) hD (va_S_up hS hA) hA [] rfl
              refine va_calli (va_runS (As := [.int a0, .int (nI i0), .int 0]) (rest := []) ⟨hx, hb, hml, hown, hts⟩ (c_X7_with l D a0 (nI i0) 0 H.size ) (cwS 3 hts (gi_S q_1346 q_1347 q_104 q_1348) rfl rfl rfl (by decide +kernel) ⟨Nat.le_of_ble_eq_true rfl, Nat.le_of_ble_eq_true rfl⟩) ⟨cPre_blind, cPre_mk hPc hK hDc hN (lwZ_for hZ (va_S_up hS hA) hFc)⟩ rfl rfl hl.1 rfl (lv_room (Nat.le_of_ble_eq_true rfl)) dX7_able_58 ⟨(Nat.le_of_ble_eq_true rfl), (Nat.le_of_ble_eq_true rfl)⟩) hS (fun q h1 h2 => absurd h2 (Nat.not_le.mpr h1)) (fun q h => Nat.le_trans hS.1 h) (fun r_58 u t H1 locs ht hvm hw hBk hz1 hk1 hS => ?_)
              have hP := va_P_ro hP hk1
              subst hw
              clear hBk hvm ht u hz1 hk1
              clear hPc hDc hFc; clear t
              generalize H1 = H at hP hS ⊢
              refine lv_istore_n (lv' := [(1, .int (F_X7_with a0 (nI i0) 0)), (0, .ref hM), (2, .int (nI i0))]) hx hb dX7_able_61 rfl hl (by decide) rfl (fun ls hl => ?_)
              refine lv_iinc (v := nI (i0 + 1)) (lv' := [(2, .int (nI (i0 + 1))), (1, .int (F_X7_with a0 (nI i0) 0)), (0, .ref hM)]) hx hb dX7_able_62 hl (k := 2) rfl (nI_1 _) (by decide) rfl (fun ls hl => ?_)
              refine lv_goto (tgt := 7) hx hb dX7_able_65 (by decide) ?_
              have hE : S_X7_able_7 R C br i0 a0 = F_X7_with a0 (nI i0) 0 := (by unfold S_X7_able_7; rw [if_pos c_4, if_neg c_6])
              have hl : lv_has ls 3 [(0, .ref hM), (1, .int (F_X7_with a0 (nI i0) 0)), (2, .int (nI (i0 + 1)))] := lv_sub hl [2, 1, 0] rfl
              have hP := hP.sub (ws' := [(hM, .inr (14, [.int th, .int (nI R), .int (nI C), .int fi, .int di, .int he, .int br, .int pa, .int gu, .int (nI sc), .int cl, .int se, .int lo, .int lu, .int rf, .ref kl, .ref kc, .ref hB])), (kl, .inr (6, [.int km, .ref kd, .int (nI K)]))]) [0, 1] rfl
              have hD := hD.sub (ws' := [(hM, .inr (14, [.int th, .int (nI R), .int (nI C), .int fi, .int di, .int he, .int br, .int pa, .int gu, .int (nI sc), .int cl, .int se, .int lo, .int lu, .int rf, .ref kl, .ref kc, .ref hB])), (kl, .inr (6, [.int km, .ref kd, .int (nI K)]))]) [0, 1] (by decide) rfl
              exact ih0 (i0 + 1) (by omega) (S_X7_able_7 R C br i0 a0) H locs ls (by (try rw [hE]); exact hP) (by (try rw [hE]); exact hD) hS (by (try rw [hE]); exact hl) kon
    have hl : lv_has ls 3 [(0, .ref hM), (1, .int fi), (2, .int (nI 0))] := lv_sub hl [2, 1, 0] rfl
    refine lp_7 K 0 (by omega) fi H locs ls hP hD hS hl ?_
    clear lp_7 hP hD hS hl
    intro H locs ls hP hD hS hl
    refine lv_iload_n hx hb dX7_able_68 rfl (lv_at hl 1 rfl) ?_
    subst hQe
    exact W.iret (v := (itr (fun i a => S_X7_able_7 R C br i a) K 0 fi)) hx hb hr (fun t ht hW => ⟨⟨(itr (fun i a => S_X7_able_7 R C br i a) K 0 fi), (), rfl, (by rfl), trivial⟩, hS.F ht⟩) hS.2.2 dX7_able_69
  rw [hHe, hLe] at hgoal
  exact hgoal

def T_X7_seenOf_6 (R : Nat) (C : Nat) (fi : Int32) (br : Int32) (K : Nat) (x1 : Int32) : Int32 := x1 &&& (F_X7_able R C fi br K)
def T_X7_seenOf_12 (R : Nat) (C : Nat) (fi : Int32) (br : Int32) (K : Nat) (x1 : Int32) (x2 : Int32) : Int32 := (T_X7_seenOf_6 R C fi br K x1) &&& (x2 ^^^ (-1))
def S_X7_seenOf_46 (R : Nat) (C : Nat) (fi : Int32) (br : Int32) (K : Nat) (x1 : Int32) (x2 : Int32) (i1 : Nat) (i2 : Nat) (a2 : Int32) : Int32 := (if ((F_X7_rowOf C a2 (nI i1)) &&& (F_X7_rowOf C (T_X7_seenOf_12 R C fi br K x1 x2) (nI i2))) = 0 then a2 else a2 ||| ((F_X7_rowOf C (T_X7_seenOf_6 R C fi br K x1) (nI i2)) <<< (((nI i1) * (nI C)) &&& 31)))
def S_X7_seenOf_34 (R : Nat) (C : Nat) (fi : Int32) (br : Int32) (K : Nat) (x1 : Int32) (x2 : Int32) (i1 : Nat) (a1 : Int32) : Int32 := (itr (fun i a => S_X7_seenOf_46 R C fi br K x1 x2 i1 i a) R 0 a1)
def L_X7_seenOf_20 (R : Nat) (C : Nat) (fi : Int32) (br : Int32) (K : Nat) (x1 : Int32) (x2 : Int32) : Nat → Nat → (Int32 × Int32) → Int32
  | 0, i0, a0 => a0.1 &&& fi
  | n0 + 1, i0, a0 => (if a0.2 = a0.1 then a0.1 &&& fi else L_X7_seenOf_20 R C fi br K x1 x2 n0 (i0 + 1) ((itr (fun i a => S_X7_seenOf_34 R C fi br K x1 x2 i a) R 0 a0.1), a0.1))
def F_X7_seenOf (R : Nat) (C : Nat) (fi : Int32) (br : Int32) (K : Nat) (x1 : Int32) (x2 : Int32) : Int32 := L_X7_seenOf_20 R C fi br K x1 x2 33 0 (T_X7_seenOf_6 R C fi br K x1, (-1))
theorem sn_up {R C : Nat} {fi br : Int32} {K : Nat} {x1 x2 : Int32} (a : Int32) : ∀ j, bt a j = true → bt (itr (fun i a => S_X7_seenOf_34 R C fi br K x1 x2 i a) R 0 a) j = true :=
  itr_up (fun i1 a1 j hj => by
    show bt (itr (fun i a => S_X7_seenOf_46 R C fi br K x1 x2 i1 i a) R 0 a1) j = true
    refine itr_up (fun i2 a2 j hj => ?_) R 0 a1 j hj
    unfold S_X7_seenOf_46
    split
    · exact hj
    · rw [bt_or, hj, Bool.true_or]) R 0 a
set_option maxHeartbeats 4000000 in
set_option maxRecDepth 100000 in
theorem c_X7_seenOf (l : Launch) (D : va_G) (hM : Nat) (th : Int32) (R : Nat) (C : Nat) (fi : Int32) (di : Int32) (he : Int32) (br : Int32) (pa : Int32) (gu : Int32) (sc : Nat) (cl : Int32) (se : Int32) (lo : Int32) (lu : Int32) (rf : Int32) (kl : Nat) (kc : Nat) (hB : Nat) (km : Int32) (kd : Nat) (K : Nat) (x1 : Int32) (x2 : Int32) (sz : Nat) (hR : R ≤ 5) (hC : C ≤ 5) (hC0 : 0 < C) (hKb : K ≤ 25) : Met l yX7_seenOf (Cond.code yX7_seenOf cX7_seenOf 9 (some .int) :: lwAll) ({ frames := 2, cells := 0, slots := 0, locals := 44 } : Room) (va_Pc [.ref hM, .int x1, .int x2] (cPre D (lwTY D) [(hM, .inr (14, [.int th, .int (nI R), .int (nI C), .int fi, .int di, .int he, .int br, .int pa, .int gu, .int (nI sc), .int cl, .int se, .int lo, .int lu, .int rf, .ref kl, .ref kc, .ref hB])), (kl, .inr (6, [.int km, .ref kd, .int (nI K)]))] sz)) (va_Qi (fun (r : Int32) (_ : Unit) => r = (F_X7_seenOf R C fi br K x1 x2)) (fun _ _ => True) (fun q : Nat => sz ≤ q)) 0 0 (fun q : Nat => sz ≤ q) := by
  refine Met.ofW (cc := cX7_seenOf) (maxL := 9) (ret := (some .int)) (by decide) rfl ?_
  intro p e s m args below meth c s₁ B hml hv
  obtain ⟨rfl, hsz, hP, hK, hD0, hN, hZ⟩ := hv
  have hx := B.exec
  have hb := B.bytes
  have hr := B.returns
  have hts : ∀ wd ∈ lwAll, wd.before ([.ref hM, .int x1, .int x2] : List Value).toArray s = true := fun wd h => atoms_spec (ws := (Cond.code yX7_seenOf cX7_seenOf 9 (some .int) :: lwAll)) B.pre wd (List.mem_cons_of_mem _ h)
  have hown : s.vm.findClass RX7 = some m.cls := findClass_of_methodNamed B.named
  have hlocks := B.notSynchronized
  subst hsz
  have hD := hD0.self (sz := s.heap.size)
  have hl := lv_entry ([.ref hM, .int x1, .int x2]) (n := 9) (Nat.le_of_ble_eq_true rfl)
  rw [lg_entry_eq]
  generalize (lg_sl ([.ref hM, .int x1, .int x2]) ++ List.replicate (9 - (lg_sl ([.ref hM, .int x1, .int x2])).length) Slot.unset).toArray = ls at hl ⊢
  have hl : lv_has ls 9 [(0, .ref hM), (1, .int x1), (2, .int x2)] := hl
  have hS : va_S (fun q : Nat => s.heap.size ≤ q) s.heap s.heap [] := va_S.rf
  generalize hQe : MQ below (va_Qi (fun (r : Int32) (_ : Unit) => r = (F_X7_seenOf R C fi br K x1 x2)) (fun _ _ => True) (fun q : Nat => s.heap.size ≤ q)) ([.ref hM, .int x1, .int x2] : List Value).toArray s 0 0 (fun q : Nat => s.heap.size ≤ q) = Q
  have hP : va_P D vwCl [(hM, .inr (14, [.int th, .int (nI R), .int (nI C), .int fi, .int di, .int he, .int br, .int pa, .int gu, .int (nI sc), .int cl, .int se, .int lo, .int lu, .int rf, .ref kl, .ref kc, .ref hB])), (kl, .inr (6, [.int km, .ref kd, .int (nI K)]))] s.heap := hP
  obtain ⟨A, hAe⟩ : ∃ A, A = va_A [(hM, .inr (14, [.int th, .int (nI R), .int (nI C), .int fi, .int di, .int he, .int br, .int pa, .int gu, .int (nI sc), .int cl, .int se, .int lo, .int lu, .int rf, .ref kl, .ref kc, .ref hB])), (kl, .inr (6, [.int km, .ref kd, .int (nI K)]))] s.heap.size := ⟨_, rfl⟩
  rw [← hAe] at hD hZ
  have hA : ∀ q : Nat, s.heap.size ≤ q → A q := fun q h => by rw [hAe]; exact Or.inr h
  obtain ⟨H, hHe⟩ : ∃ H, H = s.heap := ⟨_, rfl⟩
  obtain ⟨locs, hLe⟩ : ∃ L : List Loc, L = [] := ⟨_, rfl⟩
  have hP : va_P D vwCl [(hM, .inr (14, [.int th, .int (nI R), .int (nI C), .int fi, .int di, .int he, .int br, .int pa, .int gu, .int (nI sc), .int cl, .int se, .int lo, .int lu, .int rf, .ref kl, .ref kc, .ref hB])), (kl, .inr (6, [.int km, .ref kd, .int (nI K)]))] H := by rw [hHe]; exact hP
  have hS : va_S (fun q : Nat => s.heap.size ≤ q) s.heap H locs := by rw [hHe, hLe]; exact hS
  have hgoal : W p l e ({ frames := 2, cells := 0, slots := 0, locals := 44 } : Room) s m ([.ref hM, .int x1, .int x2] : List Value).toArray below meth c H locs 0 0 Q (F0 m 0 ls []) := by
    clear hHe hLe
    refine lv_iload_n hx hb dX7_seenOf_0 rfl (lv_at hl 1 rfl) ?_
    refine lv_aload_n hx hb dX7_seenOf_1 rfl (lv_at hl 0 rfl) ?_
    have hPc := hP.sub (ws' := [(hM, .inr (14, [.int th, .int (nI R), .int (nI C), .int fi, .int di, .int he, .int br, .int pa, .int gu, .int (nI sc), .int cl, .int se, .int lo, .int lu, .int rf, .ref kl, .ref kc, .ref hB])), (kl, .inr (6, [.int km, .ref kd, .int (nI K)]))]) [0, 1] rfl
    have hDc := hD.sub (ws' := [(hM, .inr (14, [.int th, .int (nI R), .int (nI C), .int fi, .int di, .int he, .int br, .int pa, .int gu, .int (nI sc), .int cl, .int se, .int lo, .int lu, .int rf, .ref kl, .ref kc, .ref hB])), (kl, .inr (6, [.int km, .ref kd, .int (nI K)]))]) [0, 1] (by decide) rfl
    have hFc := va_free (wc := [(hM, .inr (14, [.int th, .int (nI R), .int (nI C), .int fi, .int di, .int he, .int br, .int pa, .int gu, .int (nI sc), .int cl, .int se, .int lo, .int lu, .int rf, .ref kl, .ref kc, .ref hB])), (kl, .inr (6, [.int km, .ref kd, .int (nI K)]))]) hD (va_S_up hS hA) hA [0, 1] rfl
    refine va_calli (va_runV (As := []) (rest := [.int x1]) ⟨hx, hb, hml, hown, hts⟩ (c_X7_able l D hM th R C fi di he br pa gu sc cl se lo lu rf kl kc hB km kd K H.size (show R ≤ 5 from hR) (show C ≤ 5 from hC) (show 0 < C from hC0) (show K ≤ 25 from hKb)) (cwV 0 hts (gi_V q_1411 q_1413 q_60 q_104 q_1414) rfl rfl rfl (by decide +kernel) ⟨Nat.le_of_ble_eq_true rfl, Nat.le_of_ble_eq_true rfl⟩) ⟨cPre_blind, va_recv hK hP (ci := 14) (q0 := 0) rfl rfl, cPre_mk hPc hK hDc hN (lwZ_for hZ (va_S_up hS hA) hFc)⟩ rfl rfl hl.1 rfl (lv_room (Nat.le_of_ble_eq_true rfl)) dX7_seenOf_2 ⟨(Nat.le_of_ble_eq_true rfl), (Nat.le_of_ble_eq_true rfl)⟩) hS (fun q h1 h2 => absurd h2 (Nat.not_le.mpr h1)) (fun q h => Nat.le_trans hS.1 h) (fun r_2 u t H1 locs ht hvm hw hBk hz1 hk1 hS => ?_)
    have hP := va_P_ro hP hk1
    subst hw
    clear hBk hvm ht u hz1 hk1
    clear hPc hDc hFc; clear t
    generalize H1 = H at hP hS ⊢
    refine lv_iand hx hb dX7_seenOf_5 ?_
    refine lv_istore_n (lv' := [(3, .int (x1 &&& (F_X7_able R C fi br K))), (0, .ref hM), (1, .int x1), (2, .int x2)]) hx hb dX7_seenOf_6 rfl hl (by decide) rfl (fun ls hl => ?_)
    have hl : lv_has ls 9 [(3, .int (T_X7_seenOf_6 R C fi br K x1)), (0, .ref hM), (1, .int x1), (2, .int x2)] := hl
    refine lv_iload_n hx hb dX7_seenOf_7 rfl (lv_at hl 0 rfl) ?_
    refine lv_iload_n hx hb dX7_seenOf_8 rfl (lv_at hl 3 rfl) ?_
    refine lv_iconst (v := (-1)) hx hb dX7_seenOf_9 (by decide) ?_
    refine lv_ixor hx hb dX7_seenOf_10 ?_
    refine lv_iand hx hb dX7_seenOf_11 ?_
    refine lv_istore (lv' := [(4, .int ((T_X7_seenOf_6 R C fi br K x1) &&& (x2 ^^^ (-1)))), (3, .int (T_X7_seenOf_6 R C fi br K x1)), (0, .ref hM), (1, .int x1), (2, .int x2)]) hx hb dX7_seenOf_12 hl (by decide) rfl (fun ls hl => ?_)
    have hl : lv_has ls 9 [(4, .int (T_X7_seenOf_12 R C fi br K x1 x2)), (3, .int (T_X7_seenOf_6 R C fi br K x1)), (0, .ref hM), (1, .int x1), (2, .int x2)] := hl
    refine lv_iload_n hx hb dX7_seenOf_14 rfl (lv_at hl 1 rfl) ?_
    refine lv_istore (lv' := [(5, .int (T_X7_seenOf_6 R C fi br K x1)), (4, .int (T_X7_seenOf_12 R C fi br K x1 x2)), (3, .int (T_X7_seenOf_6 R C fi br K x1)), (0, .ref hM), (1, .int x1), (2, .int x2)]) hx hb dX7_seenOf_15 hl (by decide) rfl (fun ls hl => ?_)
    refine lv_iconst (v := (-1)) hx hb dX7_seenOf_17 (by decide) ?_
    refine lv_istore (lv' := [(6, .int (-1)), (5, .int (T_X7_seenOf_6 R C fi br K x1)), (4, .int (T_X7_seenOf_12 R C fi br K x1 x2)), (3, .int (T_X7_seenOf_6 R C fi br K x1)), (0, .ref hM), (1, .int x1), (2, .int x2)]) hx hb dX7_seenOf_18 hl (by decide) rfl (fun ls hl => ?_)
    have lp_20 : ∀ (n0 i0 : Nat), i0 + n0 = 33 → ∀ (a0 : Int32 × Int32) (H : Heap) (locs : List Loc) (ls : Array Slot), va_P D vwCl [(hM, .inr (14, [.int th, .int (nI R), .int (nI C), .int fi, .int di, .int he, .int br, .int pa, .int gu, .int (nI sc), .int cl, .int se, .int lo, .int lu, .int rf, .ref kl, .ref kc, .ref hB])), (kl, .inr (6, [.int km, .ref kd, .int (nI K)]))] H → va_D A [(hM, .inr (14, [.int th, .int (nI R), .int (nI C), .int fi, .int di, .int he, .int br, .int pa, .int gu, .int (nI sc), .int cl, .int se, .int lo, .int lu, .int rf, .ref kl, .ref kc, .ref hB])), (kl, .inr (6, [.int km, .ref kd, .int (nI K)]))] → va_S (fun q : Nat => s.heap.size ≤ q) s.heap H locs → lv_has ls 9 [(0, .ref hM), (1, .int x1), (2, .int x2), (3, .int (T_X7_seenOf_6 R C fi br K x1)), (4, .int (T_X7_seenOf_12 R C fi br K x1 x2)), (5, .int a0.1), (6, .int a0.2)] → (a0.2 = a0.1 ∨ i0 ≤ cn a0.1 32) → (F_X7_seenOf R C fi br K x1 x2) = L_X7_seenOf_20 R C fi br K x1 x2 n0 i0 a0 → W p l e ({ frames := 2, cells := 0, slots := 0, locals := 44 } : Room) s m ([.ref hM, .int x1, .int x2] : List Value).toArray below meth c H locs 0 0 Q (F0 m 20 ls []) := by
      intro n0
      induction n0 with
      | zero =>
        intro i0 hi0 a0 H locs ls hP hD hS hl hv0 hE0
        have he0 : i0 = 33 := by omega
        refine lv_iload hx hb dX7_seenOf_20 (lv_at hl 6 rfl) ?_
        refine lv_iload hx hb dX7_seenOf_22 (lv_at hl 5 rfl) ?_
        refine lv_icmp_eq (tgt := 110) hx hb dX7_seenOf_24 (by decide) (fun c_1 => ?_) (fun c_1 => ?_)
        · refine lv_iload hx hb dX7_seenOf_110 (lv_at hl 5 rfl) ?_
          refine lv_aload_n hx hb dX7_seenOf_112 rfl (lv_at hl 0 rfl) ?_
          refine va_get (D := D) (ci := 14) (v := .int fi) (C := RX7) (T := TX7) (N := 18) hx hb hts in_X7 hown hK hP 0 rfl rfl 3 (by decide) (hts _ q_1271) (fun _ h9 => h9) rfl dX7_seenOf_113 ?_
          refine lv_iand hx hb dX7_seenOf_116 ?_
          subst hQe
          exact W.iret (v := a0.1 &&& fi) hx hb hr (fun t ht hW => ⟨⟨a0.1 &&& fi, (), rfl, (by rw [hE0, L_X7_seenOf_20]), trivial⟩, hS.F ht⟩) hS.2.2 dX7_seenOf_117
        · exact absurd (grow_z (by omega) hv0) c_1
      | succ n0 ih0 =>
        intro i0 hi0 a0 H locs ls hP hD hS hl hv0 hE0
        refine lv_iload hx hb dX7_seenOf_20 (lv_at hl 6 rfl) ?_
        refine lv_iload hx hb dX7_seenOf_22 (lv_at hl 5 rfl) ?_
        refine lv_icmp_eq (tgt := 110) hx hb dX7_seenOf_24 (by decide) (fun c_2 => ?_) (fun c_2 => ?_)
        · refine lv_iload hx hb dX7_seenOf_110 (lv_at hl 5 rfl) ?_
          refine lv_aload_n hx hb dX7_seenOf_112 rfl (lv_at hl 0 rfl) ?_
          refine va_get (D := D) (ci := 14) (v := .int fi) (C := RX7) (T := TX7) (N := 18) hx hb hts in_X7 hown hK hP 0 rfl rfl 3 (by decide) (hts _ q_1271) (fun _ h9 => h9) rfl dX7_seenOf_113 ?_
          refine lv_iand hx hb dX7_seenOf_116 ?_
          subst hQe
          exact W.iret (v := a0.1 &&& fi) hx hb hr (fun t ht hW => ⟨⟨a0.1 &&& fi, (), rfl, (by rw [hE0, L_X7_seenOf_20, if_pos c_2]), trivial⟩, hS.F ht⟩) hS.2.2 dX7_seenOf_117
        · refine lv_iload hx hb dX7_seenOf_27 (lv_at hl 5 rfl) ?_
          refine lv_istore (lv' := [(6, .int a0.1), (0, .ref hM), (1, .int x1), (2, .int x2), (3, .int (T_X7_seenOf_6 R C fi br K x1)), (4, .int (T_X7_seenOf_12 R C fi br K x1 x2)), (5, .int a0.1)]) hx hb dX7_seenOf_29 hl (by decide) rfl (fun ls hl => ?_)
          refine lv_iconst (v := 0) hx hb dX7_seenOf_31 (by decide) ?_
          refine lv_istore (lv' := [(7, .int 0), (6, .int a0.1), (0, .ref hM), (1, .int x1), (2, .int x2), (3, .int (T_X7_seenOf_6 R C fi br K x1)), (4, .int (T_X7_seenOf_12 R C fi br K x1 x2)), (5, .int a0.1)]) hx hb dX7_seenOf_32 hl (by decide) rfl (fun ls hl => ?_)
          have lp_34 : ∀ (n1 i1 : Nat), i1 + n1 = R → ∀ (a1 : Int32) (H : Heap) (locs : List Loc) (ls : Array Slot), va_P D vwCl [(hM, .inr (14, [.int th, .int (nI R), .int (nI C), .int fi, .int di, .int he, .int br, .int pa, .int gu, .int (nI sc), .int cl, .int se, .int lo, .int lu, .int rf, .ref kl, .ref kc, .ref hB])), (kl, .inr (6, [.int km, .ref kd, .int (nI K)]))] H → va_D A [(hM, .inr (14, [.int th, .int (nI R), .int (nI C), .int fi, .int di, .int he, .int br, .int pa, .int gu, .int (nI sc), .int cl, .int se, .int lo, .int lu, .int rf, .ref kl, .ref kc, .ref hB])), (kl, .inr (6, [.int km, .ref kd, .int (nI K)]))] → va_S (fun q : Nat => s.heap.size ≤ q) s.heap H locs → lv_has ls 9 [(0, .ref hM), (1, .int x1), (2, .int x2), (3, .int (T_X7_seenOf_6 R C fi br K x1)), (4, .int (T_X7_seenOf_12 R C fi br K x1 x2)), (5, .int a1), (6, .int a0.1), (7, .int (nI i1))] → (∀ (H : Heap) (locs : List Loc) (ls : Array Slot), va_P D vwCl [(hM, .inr (14, [.int th, .int (nI R), .int (nI C), .int fi, .int di, .int he, .int br, .int pa, .int gu, .int (nI sc), .int cl, .int se, .int lo, .int lu, .int rf, .ref kl, .ref kc, .ref hB])), (kl, .inr (6, [.int km, .ref kd, .int (nI K)]))] H → va_D A [(hM, .inr (14, [.int th, .int (nI R), .int (nI C), .int fi, .int di, .int he, .int br, .int pa, .int gu, .int (nI sc), .int cl, .int se, .int lo, .int lu, .int rf, .ref kl, .ref kc, .ref hB])), (kl, .inr (6, [.int km, .ref kd, .int (nI K)]))] → va_S (fun q : Nat => s.heap.size ≤ q) s.heap H locs → lv_has ls 9 [(0, .ref hM), (1, .int x1), (2, .int x2), (3, .int (T_X7_seenOf_6 R C fi br K x1)), (4, .int (T_X7_seenOf_12 R C fi br K x1 x2)), (5, .int (itr (fun i a => S_X7_seenOf_34 R C fi br K x1 x2 i a) n1 i1 a1)), (6, .int a0.1), (7, .int (nI R))] → W p l e ({ frames := 2, cells := 0, slots := 0, locals := 44 } : Room) s m ([.ref hM, .int x1, .int x2] : List Value).toArray below meth c H locs 0 0 Q (F0 m 107 ls [])) → W p l e ({ frames := 2, cells := 0, slots := 0, locals := 44 } : Room) s m ([.ref hM, .int x1, .int x2] : List Value).toArray below meth c H locs 0 0 Q (F0 m 34 ls []) := by
            intro n1
            induction n1 with
            | zero =>
              intro i1 hi1 a1 H locs ls hP hD hS hl kon
              have he1 : i1 = R := by omega
              refine lv_iload hx hb dX7_seenOf_34 (lv_at hl 7 rfl) ?_
              refine lv_aload_n hx hb dX7_seenOf_36 rfl (lv_at hl 0 rfl) ?_
              refine va_get (D := D) (ci := 14) (v := .int (nI R)) (C := RX7) (T := TX7) (N := 18) hx hb hts in_X7 hown hK hP 0 rfl rfl 1 (by decide) (hts _ q_1269) (fun _ h9 => h9) rfl dX7_seenOf_37 ?_
              refine lv_icmp_ge (tgt := 107) hx hb dX7_seenOf_40 (by decide) (fun c_3 => ?_) (fun c_3 => ?_)
              · subst he1
                exact kon H locs ls hP hD hS (lv_sub hl [0, 1, 2, 3, 4, 5, 6, 7] rfl)
              · exact absurd (nI_le (a := R) (b := i1) (by omega) (by omega)) c_3
            | succ n1 ih1 =>
              intro i1 hi1 a1 H locs ls hP hD hS hl kon
              refine lv_iload hx hb dX7_seenOf_34 (lv_at hl 7 rfl) ?_
              refine lv_aload_n hx hb dX7_seenOf_36 rfl (lv_at hl 0 rfl) ?_
              refine va_get (D := D) (ci := 14) (v := .int (nI R)) (C := RX7) (T := TX7) (N := 18) hx hb hts in_X7 hown hK hP 0 rfl rfl 1 (by decide) (hts _ q_1269) (fun _ h9 => h9) rfl dX7_seenOf_37 ?_
              refine lv_icmp_ge (tgt := 107) hx hb dX7_seenOf_40 (by decide) (fun c_4 => ?_) (fun c_4 => ?_)
              · exact absurd c_4 (nI_ge (a := i1) (b := R) (by omega) (by omega))
              · refine lv_iconst (v := 0) hx hb dX7_seenOf_43 (by decide) ?_
                refine lv_istore (lv' := [(8, .int 0), (0, .ref hM), (1, .int x1), (2, .int x2), (3, .int (T_X7_seenOf_6 R C fi br K x1)), (4, .int (T_X7_seenOf_12 R C fi br K x1 x2)), (5, .int a1), (6, .int a0.1), (7, .int (nI i1))]) hx hb dX7_seenOf_44 hl (by decide) rfl (fun ls hl => ?_)
                have lp_46 : ∀ (n2 i2 : Nat), i2 + n2 = R → ∀ (a2 : Int32) (H : Heap) (locs : List Loc) (ls : Array Slot), va_P D vwCl [(hM, .inr (14, [.int th, .int (nI R), .int (nI C), .int fi, .int di, .int he, .int br, .int pa, .int gu, .int (nI sc), .int cl, .int se, .int lo, .int lu, .int rf, .ref kl, .ref kc, .ref hB])), (kl, .inr (6, [.int km, .ref kd, .int (nI K)]))] H → va_D A [(hM, .inr (14, [.int th, .int (nI R), .int (nI C), .int fi, .int di, .int he, .int br, .int pa, .int gu, .int (nI sc), .int cl, .int se, .int lo, .int lu, .int rf, .ref kl, .ref kc, .ref hB])), (kl, .inr (6, [.int km, .ref kd, .int (nI K)]))] → va_S (fun q : Nat => s.heap.size ≤ q) s.heap H locs → lv_has ls 9 [(0, .ref hM), (1, .int x1), (2, .int x2), (3, .int (T_X7_seenOf_6 R C fi br K x1)), (4, .int (T_X7_seenOf_12 R C fi br K x1 x2)), (5, .int a2), (6, .int a0.1), (7, .int (nI i1)), (8, .int (nI i2))] → (∀ (H : Heap) (locs : List Loc) (ls : Array Slot), va_P D vwCl [(hM, .inr (14, [.int th, .int (nI R), .int (nI C), .int fi, .int di, .int he, .int br, .int pa, .int gu, .int (nI sc), .int cl, .int se, .int lo, .int lu, .int rf, .ref kl, .ref kc, .ref hB])), (kl, .inr (6, [.int km, .ref kd, .int (nI K)]))] H → va_D A [(hM, .inr (14, [.int th, .int (nI R), .int (nI C), .int fi, .int di, .int he, .int br, .int pa, .int gu, .int (nI sc), .int cl, .int se, .int lo, .int lu, .int rf, .ref kl, .ref kc, .ref hB])), (kl, .inr (6, [.int km, .ref kd, .int (nI K)]))] → va_S (fun q : Nat => s.heap.size ≤ q) s.heap H locs → lv_has ls 9 [(0, .ref hM), (1, .int x1), (2, .int x2), (3, .int (T_X7_seenOf_6 R C fi br K x1)), (4, .int (T_X7_seenOf_12 R C fi br K x1 x2)), (5, .int (itr (fun i a => S_X7_seenOf_46 R C fi br K x1 x2 i1 i a) n2 i2 a2)), (6, .int a0.1), (7, .int (nI i1)), (8, .int (nI R))] → W p l e ({ frames := 2, cells := 0, slots := 0, locals := 44 } : Room) s m ([.ref hM, .int x1, .int x2] : List Value).toArray below meth c H locs 0 0 Q (F0 m 101 ls [])) → W p l e ({ frames := 2, cells := 0, slots := 0, locals := 44 } : Room) s m ([.ref hM, .int x1, .int x2] : List Value).toArray below meth c H locs 0 0 Q (F0 m 46 ls []) := by
                  intro n2
                  induction n2 with
                  | zero =>
                    intro i2 hi2 a2 H locs ls hP hD hS hl kon
                    have he2 : i2 = R := by omega
                    refine lv_iload hx hb dX7_seenOf_46 (lv_at hl 8 rfl) ?_
                    refine lv_aload_n hx hb dX7_seenOf_48 rfl (lv_at hl 0 rfl) ?_
                    refine va_get (D := D) (ci := 14) (v := .int (nI R)) (C := RX7) (T := TX7) (N := 18) hx hb hts in_X7 hown hK hP 0 rfl rfl 1 (by decide) (hts _ q_1269) (fun _ h9 => h9) rfl dX7_seenOf_49 ?_
                    refine lv_icmp_ge (tgt := 101) hx hb dX7_seenOf_52 (by decide) (fun c_5 => ?_) (fun c_5 => ?_)
                    · subst he2
                      exact kon H locs ls hP hD hS (lv_sub hl [0, 1, 2, 3, 4, 5, 6, 7, 8] rfl)
                    · exact absurd (nI_le (a := R) (b := i2) (by omega) (by omega)) c_5
                  | succ n2 ih2 =>
                    intro i2 hi2 a2 H locs ls hP hD hS hl kon
                    refine lv_iload hx hb dX7_seenOf_46 (lv_at hl 8 rfl) ?_
                    refine lv_aload_n hx hb dX7_seenOf_48 rfl (lv_at hl 0 rfl) ?_
                    refine va_get (D := D) (ci := 14) (v := .int (nI R)) (C := RX7) (T := TX7) (N := 18) hx hb hts in_X7 hown hK hP 0 rfl rfl 1 (by decide) (hts _ q_1269) (fun _ h9 => h9) rfl dX7_seenOf_49 ?_
                    refine lv_icmp_ge (tgt := 101) hx hb dX7_seenOf_52 (by decide) (fun c_6 => ?_) (fun c_6 => ?_)
                    · exact absurd c_6 (nI_ge (a := i2) (b := R) (by omega) (by omega))
                    · refine lv_aload_n hx hb dX7_seenOf_55 rfl (lv_at hl 0 rfl) ?_
                      refine lv_iload hx hb dX7_seenOf_56 (lv_at hl 5 rfl) ?_
                      refine lv_iload hx hb dX7_seenOf_58 (lv_at hl 7 rfl) ?_
                      have hPc := hP.sub (ws' := [(hM, .inr (14, [.int th, .int (nI R), .int (nI C), .int fi, .int di, .int he, .int br, .int pa, .int gu, .int (nI sc), .int cl, .int se, .int lo, .int lu, .int rf, .ref kl, .ref kc, .ref hB]))]) [0] rfl
                      have hDc := hD.sub (ws' := [(hM, .inr (14, [.int th, .int (nI R), .int (nI C), .int fi, .int di, .int he, .int br, .int pa, .int gu, .int (nI sc), .int cl, .int se, .int lo, .int lu, .int rf, .ref kl, .ref kc, .ref hB]))]) [0] (by decide) rfl
                      have hFc := va_free (wc := [(hM, .inr (14, [.int th, .int (nI R), .int (nI C), .int fi, .int di, .int he, .int br, .int pa, .int gu, .int (nI sc), .int cl, .int se, .int lo, .int lu, .int rf, .ref kl, .ref kc, .ref hB]))]) hD (va_S_up hS hA) hA [0] rfl
                      refine va_calli (va_runV (As := [.int a2, .int (nI i1)]) (rest := []) ⟨hx, hb, hml, hown, hts⟩ (c_X7_rowOf l D hM th R C fi di he br pa gu sc cl se lo lu rf kl kc hB a2 (nI i1) H.size ) (cwV 2 hts (gi_V q_1415 q_1417 q_61 q_104 q_1418) rfl rfl rfl (by decide +kernel) ⟨Nat.le_of_ble_eq_true rfl, Nat.le_of_ble_eq_true rfl⟩) ⟨cPre_blind, va_recv hK hP (ci := 14) (q0 := 0) rfl rfl, cPre_mk hPc hK hDc hN (lwZ_for hZ (va_S_up hS hA) hFc)⟩ rfl rfl hl.1 rfl (lv_room (Nat.le_of_ble_eq_true rfl)) dX7_seenOf_60 ⟨(Nat.le_of_ble_eq_true rfl), (Nat.le_of_ble_eq_true rfl)⟩) hS (fun q h1 h2 => absurd h2 (Nat.not_le.mpr h1)) (fun q h => Nat.le_trans hS.1 h) (fun r_60 u t H1 locs ht hvm hw hBk hz1 hk1 hS => ?_)
                      have hP := va_P_ro hP hk1
                      subst hw
                      clear hBk hvm ht u hz1 hk1
                      clear hPc hDc hFc; clear t
                      generalize H1 = H at hP hS ⊢
                      refine lv_aload_n hx hb dX7_seenOf_63 rfl (lv_at hl 0 rfl) ?_
                      refine lv_iload hx hb dX7_seenOf_64 (lv_at hl 4 rfl) ?_
                      refine lv_iload hx hb dX7_seenOf_66 (lv_at hl 8 rfl) ?_
                      have hPc := hP.sub (ws' := [(hM, .inr (14, [.int th, .int (nI R), .int (nI C), .int fi, .int di, .int he, .int br, .int pa, .int gu, .int (nI sc), .int cl, .int se, .int lo, .int lu, .int rf, .ref kl, .ref kc, .ref hB]))]) [0] rfl
                      have hDc := hD.sub (ws' := [(hM, .inr (14, [.int th, .int (nI R), .int (nI C), .int fi, .int di, .int he, .int br, .int pa, .int gu, .int (nI sc), .int cl, .int se, .int lo, .int lu, .int rf, .ref kl, .ref kc, .ref hB]))]) [0] (by decide) rfl
                      have hFc := va_free (wc := [(hM, .inr (14, [.int th, .int (nI R), .int (nI C), .int fi, .int di, .int he, .int br, .int pa, .int gu, .int (nI sc), .int cl, .int se, .int lo, .int lu, .int rf, .ref kl, .ref kc, .ref hB]))]) hD (va_S_up hS hA) hA [0] rfl
                      refine va_calli (va_runV (As := [.int (T_X7_seenOf_12 R C fi br K x1 x2), .int (nI i2)]) (rest := [.int (F_X7_rowOf C a2 (nI i1))]) ⟨hx, hb, hml, hown, hts⟩ (c_X7_rowOf l D hM th R C fi di he br pa gu sc cl se lo lu rf kl kc hB (T_X7_seenOf_12 R C fi br K x1 x2) (nI i2) H.size ) (cwV 2 hts (gi_V q_1415 q_1417 q_61 q_104 q_1418) rfl rfl rfl (by decide +kernel) ⟨Nat.le_of_ble_eq_true rfl, Nat.le_of_ble_eq_true rfl⟩) ⟨cPre_blind, va_recv hK hP (ci := 14) (q0 := 0) rfl rfl, cPre_mk hPc hK hDc hN (lwZ_for hZ (va_S_up hS hA) hFc)⟩ rfl rfl hl.1 rfl (lv_room (Nat.le_of_ble_eq_true rfl)) dX7_seenOf_68 ⟨(Nat.le_of_ble_eq_true rfl), (Nat.le_of_ble_eq_true rfl)⟩) hS (fun q h1 h2 => absurd h2 (Nat.not_le.mpr h1)) (fun q h => Nat.le_trans hS.1 h) (fun r_68 u t H1 locs ht hvm hw hBk hz1 hk1 hS => ?_)
                      have hP := va_P_ro hP hk1
                      subst hw
                      clear hBk hvm ht u hz1 hk1
                      clear hPc hDc hFc; clear t
                      generalize H1 = H at hP hS ⊢
                      refine lv_iand hx hb dX7_seenOf_71 ?_
                      refine lv_if_eq (tgt := 95) hx hb dX7_seenOf_72 (by decide) (fun c_7 => ?_) (fun c_7 => ?_)
                      · refine lv_iinc (v := nI (i2 + 1)) (lv' := [(8, .int (nI (i2 + 1))), (0, .ref hM), (1, .int x1), (2, .int x2), (3, .int (T_X7_seenOf_6 R C fi br K x1)), (4, .int (T_X7_seenOf_12 R C fi br K x1 x2)), (5, .int a2), (6, .int a0.1), (7, .int (nI i1))]) hx hb dX7_seenOf_95 hl (k := 8) rfl (nI_1 _) (by decide) rfl (fun ls hl => ?_)
                        refine lv_goto (tgt := 46) hx hb dX7_seenOf_98 (by decide) ?_
                        have hE : S_X7_seenOf_46 R C fi br K x1 x2 i1 i2 a2 = a2 := (by unfold S_X7_seenOf_46; rw [if_pos c_7])
                        have hl : lv_has ls 9 [(0, .ref hM), (1, .int x1), (2, .int x2), (3, .int (T_X7_seenOf_6 R C fi br K x1)), (4, .int (T_X7_seenOf_12 R C fi br K x1 x2)), (5, .int a2), (6, .int a0.1), (7, .int (nI i1)), (8, .int (nI (i2 + 1)))] := lv_sub hl [1, 2, 3, 4, 5, 6, 7, 8, 0] rfl
                        have hP := hP.sub (ws' := [(hM, .inr (14, [.int th, .int (nI R), .int (nI C), .int fi, .int di, .int he, .int br, .int pa, .int gu, .int (nI sc), .int cl, .int se, .int lo, .int lu, .int rf, .ref kl, .ref kc, .ref hB])), (kl, .inr (6, [.int km, .ref kd, .int (nI K)]))]) [0, 1] rfl
                        have hD := hD.sub (ws' := [(hM, .inr (14, [.int th, .int (nI R), .int (nI C), .int fi, .int di, .int he, .int br, .int pa, .int gu, .int (nI sc), .int cl, .int se, .int lo, .int lu, .int rf, .ref kl, .ref kc, .ref hB])), (kl, .inr (6, [.int km, .ref kd, .int (nI K)]))]) [0, 1] (by decide) rfl
                        exact ih2 (i2 + 1) (by omega) (S_X7_seenOf_46 R C fi br K x1 x2 i1 i2 a2) H locs ls (by (try rw [hE]); exact hP) (by (try rw [hE]); exact hD) hS (by (try rw [hE]); exact hl) kon
                      · refine lv_iload hx hb dX7_seenOf_75 (lv_at hl 5 rfl) ?_
                        refine lv_aload_n hx hb dX7_seenOf_77 rfl (lv_at hl 0 rfl) ?_
                        refine lv_iload_n hx hb dX7_seenOf_78 rfl (lv_at hl 3 rfl) ?_
                        refine lv_iload hx hb dX7_seenOf_79 (lv_at hl 8 rfl) ?_
                        have hPc := hP.sub (ws' := [(hM, .inr (14, [.int th, .int (nI R), .int (nI C), .int fi, .int di, .int he, .int br, .int pa, .int gu, .int (nI sc), .int cl, .int se, .int lo, .int lu, .int rf, .ref kl, .ref kc, .ref hB]))]) [0] rfl
                        have hDc := hD.sub (ws' := [(hM, .inr (14, [.int th, .int (nI R), .int (nI C), .int fi, .int di, .int he, .int br, .int pa, .int gu, .int (nI sc), .int cl, .int se, .int lo, .int lu, .int rf, .ref kl, .ref kc, .ref hB]))]) [0] (by decide) rfl
                        have hFc := va_free (wc := [(hM, .inr (14, [.int th, .int (nI R), .int (nI C), .int fi, .int di, .int he, .int br, .int pa, .int gu, .int (nI sc), .int cl, .int se, .int lo, .int lu, .int rf, .ref kl, .ref kc, .ref hB]))]) hD (va_S_up hS hA) hA [0] rfl
                        refine va_calli (va_runV (As := [.int (T_X7_seenOf_6 R C fi br K x1), .int (nI i2)]) (rest := [.int a2]) ⟨hx, hb, hml, hown, hts⟩ (c_X7_rowOf l D hM th R C fi di he br pa gu sc cl se lo lu rf kl kc hB (T_X7_seenOf_6 R C fi br K x1) (nI i2) H.size ) (cwV 2 hts (gi_V q_1415 q_1417 q_61 q_104 q_1418) rfl rfl rfl (by decide +kernel) ⟨Nat.le_of_ble_eq_true rfl, Nat.le_of_ble_eq_true rfl⟩) ⟨cPre_blind, va_recv hK hP (ci := 14) (q0 := 0) rfl rfl, cPre_mk hPc hK hDc hN (lwZ_for hZ (va_S_up hS hA) hFc)⟩ rfl rfl hl.1 rfl (lv_room (Nat.le_of_ble_eq_true rfl)) dX7_seenOf_81 ⟨(Nat.le_of_ble_eq_true rfl), (Nat.le_of_ble_eq_true rfl)⟩) hS (fun q h1 h2 => absurd h2 (Nat.not_le.mpr h1)) (fun q h => Nat.le_trans hS.1 h) (fun r_81 u t H1 locs ht hvm hw hBk hz1 hk1 hS => ?_)
                        have hP := va_P_ro hP hk1
                        subst hw
                        clear hBk hvm ht u hz1 hk1
                        clear hPc hDc hFc; clear t
                        generalize H1 = H at hP hS ⊢
                        refine lv_iload hx hb dX7_seenOf_84 (lv_at hl 7 rfl) ?_
                        refine lv_aload_n hx hb dX7_seenOf_86 rfl (lv_at hl 0 rfl) ?_
                        refine va_get (D := D) (ci := 14) (v := .int (nI C)) (C := RX7) (T := TX7) (N := 18) hx hb hts in_X7 hown hK hP 0 rfl rfl 2 (by decide) (hts _ q_1270) (fun _ h9 => h9) rfl dX7_seenOf_87 ?_
                        refine lv_imul hx hb dX7_seenOf_90 ?_
                        refine lv_ishl hx hb dX7_seenOf_91 ?_
                        refine lv_ior hx hb dX7_seenOf_92 ?_
                        refine lv_istore (lv' := [(5, .int (a2 ||| ((F_X7_rowOf C (T_X7_seenOf_6 R C fi br K x1) (nI i2)) <<< (((nI i1) * (nI C)) &&& 31)))), (0, .ref hM), (1, .int x1), (2, .int x2), (3, .int (T_X7_seenOf_6 R C fi br K x1)), (4, .int (T_X7_seenOf_12 R C fi br K x1 x2)), (6, .int a0.1), (7, .int (nI i1)), (8, .int (nI i2))]) hx hb dX7_seenOf_93 hl (by decide) rfl (fun ls hl => ?_)
                        refine lv_iinc (v := nI (i2 + 1)) (lv' := [(8, .int (nI (i2 + 1))), (5, .int (a2 ||| ((F_X7_rowOf C (T_X7_seenOf_6 R C fi br K x1) (nI i2)) <<< (((nI i1) * (nI C)) &&& 31)))), (0, .ref hM), (1, .int x1), (2, .int x2), (3, .int (T_X7_seenOf_6 R C fi br K x1)), (4, .int (T_X7_seenOf_12 R C fi br K x1 x2)), (6, .int a0.1), (7, .int (nI i1))]) hx hb dX7_seenOf_95 hl (k := 8) rfl (nI_1 _) (by decide) rfl (fun ls hl => ?_)
                        refine lv_goto (tgt := 46) hx hb dX7_seenOf_98 (by decide) ?_
                        have hE : S_X7_seenOf_46 R C fi br K x1 x2 i1 i2 a2 = a2 ||| ((F_X7_rowOf C (T_X7_seenOf_6 R C fi br K x1) (nI i2)) <<< (((nI i1) * (nI C)) &&& 31)) := (by unfold S_X7_seenOf_46; rw [if_neg c_7])
                        have hl : lv_has ls 9 [(0, .ref hM), (1, .int x1), (2, .int x2), (3, .int (T_X7_seenOf_6 R C fi br K x1)), (4, .int (T_X7_seenOf_12 R C fi br K x1 x2)), (5, .int (a2 ||| ((F_X7_rowOf C (T_X7_seenOf_6 R C fi br K x1) (nI i2)) <<< (((nI i1) * (nI C)) &&& 31)))), (6, .int a0.1), (7, .int (nI i1)), (8, .int (nI (i2 + 1)))] := lv_sub hl [2, 3, 4, 5, 6, 1, 7, 8, 0] rfl
                        have hP := hP.sub (ws' := [(hM, .inr (14, [.int th, .int (nI R), .int (nI C), .int fi, .int di, .int he, .int br, .int pa, .int gu, .int (nI sc), .int cl, .int se, .int lo, .int lu, .int rf, .ref kl, .ref kc, .ref hB])), (kl, .inr (6, [.int km, .ref kd, .int (nI K)]))]) [0, 1] rfl
                        have hD := hD.sub (ws' := [(hM, .inr (14, [.int th, .int (nI R), .int (nI C), .int fi, .int di, .int he, .int br, .int pa, .int gu, .int (nI sc), .int cl, .int se, .int lo, .int lu, .int rf, .ref kl, .ref kc, .ref hB])), (kl, .inr (6, [.int km, .ref kd, .int (nI K)]))]) [0, 1] (by decide) rfl
                        exact ih2 (i2 + 1) (by omega) (S_X7_seenOf_46 R C fi br K x1 x2 i1 i2 a2) H locs ls (by (try rw [hE]); exact hP) (by (try rw [hE]); exact hD) hS (by (try rw [hE]); exact hl) kon
                have hl : lv_has ls 9 [(0, .ref hM), (1, .int x1), (2, .int x2), (3, .int (T_X7_seenOf_6 R C fi br K x1)), (4, .int (T_X7_seenOf_12 R C fi br K x1 x2)), (5, .int a1), (6, .int a0.1), (7, .int (nI i1)), (8, .int (nI 0))] := lv_sub hl [1, 2, 3, 4, 5, 6, 7, 8, 0] rfl
                refine lp_46 R 0 (by omega) a1 H locs ls hP hD hS hl ?_
                clear lp_46 hP hD hS hl
                intro H locs ls hP hD hS hl
                refine lv_iinc (v := nI (i1 + 1)) (lv' := [(7, .int (nI (i1 + 1))), (0, .ref hM), (1, .int x1), (2, .int x2), (3, .int (T_X7_seenOf_6 R C fi br K x1)), (4, .int (T_X7_seenOf_12 R C fi br K x1 x2)), (5, .int (itr (fun i a => S_X7_seenOf_46 R C fi br K x1 x2 i1 i a) R 0 a1)), (6, .int a0.1), (8, .int (nI R))]) hx hb dX7_seenOf_101 hl (k := 7) rfl (nI_1 _) (by decide) rfl (fun ls hl => ?_)
                refine lv_goto (tgt := 34) hx hb dX7_seenOf_104 (by decide) ?_
                have hE : S_X7_seenOf_34 R C fi br K x1 x2 i1 a1 = (itr (fun i a => S_X7_seenOf_46 R C fi br K x1 x2 i1 i a) R 0 a1) := (by rfl)
                have hl : lv_has ls 9 [(0, .ref hM), (1, .int x1), (2, .int x2), (3, .int (T_X7_seenOf_6 R C fi br K x1)), (4, .int (T_X7_seenOf_12 R C fi br K x1 x2)), (5, .int (itr (fun i a => S_X7_seenOf_46 R C fi br K x1 x2 i1 i a) R 0 a1)), (6, .int a0.1), (7, .int (nI (i1 + 1)))] := lv_sub hl [1, 2, 3, 4, 5, 6, 7, 0] rfl
                have hP := hP.sub (ws' := [(hM, .inr (14, [.int th, .int (nI R), .int (nI C), .int fi, .int di, .int he, .int br, .int pa, .int gu, .int (nI sc), .int cl, .int se, .int lo, .int lu, .int rf, .ref kl, .ref kc, .ref hB])), (kl, .inr (6, [.int km, .ref kd, .int (nI K)]))]) [0, 1] rfl
                have hD := hD.sub (ws' := [(hM, .inr (14, [.int th, .int (nI R), .int (nI C), .int fi, .int di, .int he, .int br, .int pa, .int gu, .int (nI sc), .int cl, .int se, .int lo, .int lu, .int rf, .ref kl, .ref kc, .ref hB])), (kl, .inr (6, [.int km, .ref kd, .int (nI K)]))]) [0, 1] (by decide) rfl
                exact ih1 (i1 + 1) (by omega) (S_X7_seenOf_34 R C fi br K x1 x2 i1 a1) H locs ls (by (try rw [hE]); exact hP) (by (try rw [hE]); exact hD) hS (by (try rw [hE]); exact hl) kon
          have hl : lv_has ls 9 [(0, .ref hM), (1, .int x1), (2, .int x2), (3, .int (T_X7_seenOf_6 R C fi br K x1)), (4, .int (T_X7_seenOf_12 R C fi br K x1 x2)), (5, .int a0.1), (6, .int a0.1), (7, .int (nI 0))] := lv_sub hl [2, 3, 4, 5, 6, 7, 1, 0] rfl
          refine lp_34 R 0 (by omega) a0.1 H locs ls hP hD hS hl ?_
          clear lp_34 hP hD hS hl
          intro H locs ls hP hD hS hl
          refine lv_goto (tgt := 20) hx hb dX7_seenOf_107 (by decide) ?_
          have hl : lv_has ls 9 [(0, .ref hM), (1, .int x1), (2, .int x2), (3, .int (T_X7_seenOf_6 R C fi br K x1)), (4, .int (T_X7_seenOf_12 R C fi br K x1 x2)), (5, .int (itr (fun i a => S_X7_seenOf_34 R C fi br K x1 x2 i a) R 0 a0.1)), (6, .int a0.1)] := lv_sub hl [0, 1, 2, 3, 4, 5, 6] rfl
          have hP := hP.sub (ws' := [(hM, .inr (14, [.int th, .int (nI R), .int (nI C), .int fi, .int di, .int he, .int br, .int pa, .int gu, .int (nI sc), .int cl, .int se, .int lo, .int lu, .int rf, .ref kl, .ref kc, .ref hB])), (kl, .inr (6, [.int km, .ref kd, .int (nI K)]))]) [0, 1] rfl
          have hD := hD.sub (ws' := [(hM, .inr (14, [.int th, .int (nI R), .int (nI C), .int fi, .int di, .int he, .int br, .int pa, .int gu, .int (nI sc), .int cl, .int se, .int lo, .int lu, .int rf, .ref kl, .ref kc, .ref hB])), (kl, .inr (6, [.int km, .ref kd, .int (nI K)]))]) [0, 1] (by decide) rfl
          exact ih0 (i0 + 1) (by omega) ((itr (fun i a => S_X7_seenOf_34 R C fi br K x1 x2 i a) R 0 a0.1), a0.1) H locs ls hP hD hS hl (grow_s hv0 (by assumption) (sn_up _)) (by rw [hE0, L_X7_seenOf_20, if_neg c_2])
    have hl : lv_has ls 9 [(0, .ref hM), (1, .int x1), (2, .int x2), (3, .int (T_X7_seenOf_6 R C fi br K x1)), (4, .int (T_X7_seenOf_12 R C fi br K x1 x2)), (5, .int (T_X7_seenOf_6 R C fi br K x1)), (6, .int (-1))] := lv_sub hl [4, 5, 6, 3, 2, 1, 0] rfl
    exact lp_20 33 0 (by omega) (T_X7_seenOf_6 R C fi br K x1, (-1)) H locs ls hP hD hS hl (Or.inr (Nat.zero_le _)) (by rfl)
  rw [hHe, hLe] at hgoal
  exact hgoal

def F_X7_isExact (R : Nat) (C : Nat) (fi : Int32) (br : Int32) (K : Nat) (x1 : Int32) (x2 : Int32) : Int32 := (if ((F_X7_seenOf R C fi br K x1 x2) &&& (x1 ^^^ (-1))) = 0 then 1 else 0)
set_option maxHeartbeats 4000000 in
set_option maxRecDepth 100000 in
theorem c_X7_isExact (l : Launch) (D : va_G) (hM : Nat) (th : Int32) (R : Nat) (C : Nat) (fi : Int32) (di : Int32) (he : Int32) (br : Int32) (pa : Int32) (gu : Int32) (sc : Nat) (cl : Int32) (se : Int32) (lo : Int32) (lu : Int32) (rf : Int32) (kl : Nat) (kc : Nat) (hB : Nat) (km : Int32) (kd : Nat) (K : Nat) (x1 : Int32) (x2 : Int32) (sz : Nat) (hR : R ≤ 5) (hC : C ≤ 5) (hC0 : 0 < C) (hKb : K ≤ 25) : Met l yX7_isExact (Cond.code yX7_isExact cX7_isExact 3 (some .boolean) :: lwAll) ({ frames := 3, cells := 0, slots := 0, locals := 72 } : Room) (va_Pc [.ref hM, .int x1, .int x2] (cPre D (lwTY D) [(hM, .inr (14, [.int th, .int (nI R), .int (nI C), .int fi, .int di, .int he, .int br, .int pa, .int gu, .int (nI sc), .int cl, .int se, .int lo, .int lu, .int rf, .ref kl, .ref kc, .ref hB])), (kl, .inr (6, [.int km, .ref kd, .int (nI K)]))] sz)) (va_Qi (fun (r : Int32) (_ : Unit) => r = (F_X7_isExact R C fi br K x1 x2) ∧ (r = 0 ∨ r = 1)) (fun _ _ => True) (fun q : Nat => sz ≤ q)) 0 0 (fun q : Nat => sz ≤ q) := by
  refine Met.ofW (cc := cX7_isExact) (maxL := 3) (ret := (some .boolean)) (by decide) rfl ?_
  intro p e s m args below meth c s₁ B hml hv
  obtain ⟨rfl, hsz, hP, hK, hD0, hN, hZ⟩ := hv
  have hx := B.exec
  have hb := B.bytes
  have hr := B.returns
  have hts : ∀ wd ∈ lwAll, wd.before ([.ref hM, .int x1, .int x2] : List Value).toArray s = true := fun wd h => atoms_spec (ws := (Cond.code yX7_isExact cX7_isExact 3 (some .boolean) :: lwAll)) B.pre wd (List.mem_cons_of_mem _ h)
  have hown : s.vm.findClass RX7 = some m.cls := findClass_of_methodNamed B.named
  have hlocks := B.notSynchronized
  subst hsz
  have hD := hD0.self (sz := s.heap.size)
  have hl := lv_entry ([.ref hM, .int x1, .int x2]) (n := 3) (Nat.le_of_ble_eq_true rfl)
  rw [lg_entry_eq]
  generalize (lg_sl ([.ref hM, .int x1, .int x2]) ++ List.replicate (3 - (lg_sl ([.ref hM, .int x1, .int x2])).length) Slot.unset).toArray = ls at hl ⊢
  have hl : lv_has ls 3 [(0, .ref hM), (1, .int x1), (2, .int x2)] := hl
  have hS : va_S (fun q : Nat => s.heap.size ≤ q) s.heap s.heap [] := va_S.rf
  generalize hQe : MQ below (va_Qi (fun (r : Int32) (_ : Unit) => r = (F_X7_isExact R C fi br K x1 x2) ∧ (r = 0 ∨ r = 1)) (fun _ _ => True) (fun q : Nat => s.heap.size ≤ q)) ([.ref hM, .int x1, .int x2] : List Value).toArray s 0 0 (fun q : Nat => s.heap.size ≤ q) = Q
  have hP : va_P D vwCl [(hM, .inr (14, [.int th, .int (nI R), .int (nI C), .int fi, .int di, .int he, .int br, .int pa, .int gu, .int (nI sc), .int cl, .int se, .int lo, .int lu, .int rf, .ref kl, .ref kc, .ref hB])), (kl, .inr (6, [.int km, .ref kd, .int (nI K)]))] s.heap := hP
  obtain ⟨A, hAe⟩ : ∃ A, A = va_A [(hM, .inr (14, [.int th, .int (nI R), .int (nI C), .int fi, .int di, .int he, .int br, .int pa, .int gu, .int (nI sc), .int cl, .int se, .int lo, .int lu, .int rf, .ref kl, .ref kc, .ref hB])), (kl, .inr (6, [.int km, .ref kd, .int (nI K)]))] s.heap.size := ⟨_, rfl⟩
  rw [← hAe] at hD hZ
  have hA : ∀ q : Nat, s.heap.size ≤ q → A q := fun q h => by rw [hAe]; exact Or.inr h
  obtain ⟨H, hHe⟩ : ∃ H, H = s.heap := ⟨_, rfl⟩
  obtain ⟨locs, hLe⟩ : ∃ L : List Loc, L = [] := ⟨_, rfl⟩
  have hP : va_P D vwCl [(hM, .inr (14, [.int th, .int (nI R), .int (nI C), .int fi, .int di, .int he, .int br, .int pa, .int gu, .int (nI sc), .int cl, .int se, .int lo, .int lu, .int rf, .ref kl, .ref kc, .ref hB])), (kl, .inr (6, [.int km, .ref kd, .int (nI K)]))] H := by rw [hHe]; exact hP
  have hS : va_S (fun q : Nat => s.heap.size ≤ q) s.heap H locs := by rw [hHe, hLe]; exact hS
  have hgoal : W p l e ({ frames := 3, cells := 0, slots := 0, locals := 72 } : Room) s m ([.ref hM, .int x1, .int x2] : List Value).toArray below meth c H locs 0 0 Q (F0 m 0 ls []) := by
    clear hHe hLe
    refine lv_aload_n hx hb dX7_isExact_0 rfl (lv_at hl 0 rfl) ?_
    refine lv_iload_n hx hb dX7_isExact_1 rfl (lv_at hl 1 rfl) ?_
    refine lv_iload_n hx hb dX7_isExact_2 rfl (lv_at hl 2 rfl) ?_
    have hPc := hP.sub (ws' := [(hM, .inr (14, [.int th, .int (nI R), .int (nI C), .int fi, .int di, .int he, .int br, .int pa, .int gu, .int (nI sc), .int cl, .int se, .int lo, .int lu, .int rf, .ref kl, .ref kc, .ref hB])), (kl, .inr (6, [.int km, .ref kd, .int (nI K)]))]) [0, 1] rfl
    have hDc := hD.sub (ws' := [(hM, .inr (14, [.int th, .int (nI R), .int (nI C), .int fi, .int di, .int he, .int br, .int pa, .int gu, .int (nI sc), .int cl, .int se, .int lo, .int lu, .int rf, .ref kl, .ref kc, .ref hB])), (kl, .inr (6, [.int km, .ref kd, .int (nI K)]))]) [0, 1] (by decide) rfl
    have hFc := va_free (wc := [(hM, .inr (14, [.int th, .int (nI R), .int (nI C), .int fi, .int di, .int he, .int br, .int pa, .int gu, .int (nI sc), .int cl, .int se, .int lo, .int lu, .int rf, .ref kl, .ref kc, .ref hB])), (kl, .inr (6, [.int km, .ref kd, .int (nI K)]))]) hD (va_S_up hS hA) hA [0, 1] rfl
    refine va_calli (va_runV (As := [.int x1, .int x2]) (rest := []) ⟨hx, hb, hml, hown, hts⟩ (c_X7_seenOf l D hM th R C fi di he br pa gu sc cl se lo lu rf kl kc hB km kd K x1 x2 H.size (show R ≤ 5 from hR) (show C ≤ 5 from hC) (show 0 < C from hC0) (show K ≤ 25 from hKb)) (cwV 2 hts (gi_V q_1407 q_1409 q_59 q_104 q_1410) rfl rfl rfl (by decide +kernel) ⟨Nat.le_of_ble_eq_true rfl, Nat.le_of_ble_eq_true rfl⟩) ⟨cPre_blind, va_recv hK hP (ci := 14) (q0 := 0) rfl rfl, cPre_mk hPc hK hDc hN (lwZ_for hZ (va_S_up hS hA) hFc)⟩ rfl rfl hl.1 rfl (lv_room (Nat.le_of_ble_eq_true rfl)) dX7_isExact_3 ⟨(Nat.le_of_ble_eq_true rfl), (Nat.le_of_ble_eq_true rfl)⟩) hS (fun q h1 h2 => absurd h2 (Nat.not_le.mpr h1)) (fun q h => Nat.le_trans hS.1 h) (fun r_3 u t H1 locs ht hvm hw hBk hz1 hk1 hS => ?_)
    have hP := va_P_ro hP hk1
    subst hw
    clear hBk hvm ht u hz1 hk1
    clear hPc hDc hFc; clear t
    generalize H1 = H at hP hS ⊢
    refine lv_iload_n hx hb dX7_isExact_6 rfl (lv_at hl 1 rfl) ?_
    refine lv_iconst (v := (-1)) hx hb dX7_isExact_7 (by decide) ?_
    refine lv_ixor hx hb dX7_isExact_8 ?_
    refine lv_iand hx hb dX7_isExact_9 ?_
    refine lv_if_ne (tgt := 17) hx hb dX7_isExact_10 (by decide) (fun c_1 => ?_) (fun c_1 => ?_)
    · refine lv_iconst (v := 0) hx hb dX7_isExact_17 (by decide) ?_
      subst hQe
      exact W.zret (ty := .boolean) (v := 0) hx hb hr (zb_narrow zb_0) (fun t ht hW => ⟨⟨0, (), rfl, ⟨(by unfold F_X7_isExact; rw [if_neg c_1]), zb_0⟩, trivial⟩, hS.F ht⟩) hS.2.2 dX7_isExact_18
    · refine lv_iconst (v := 1) hx hb dX7_isExact_13 (by decide) ?_
      refine lv_goto (tgt := 18) hx hb dX7_isExact_14 (by decide) ?_
      subst hQe
      exact W.zret (ty := .boolean) (v := 1) hx hb hr (zb_narrow zb_1) (fun t ht hW => ⟨⟨1, (), rfl, ⟨(by unfold F_X7_isExact; rw [if_pos c_1]), zb_1⟩, trivial⟩, hS.F ht⟩) hS.2.2 dX7_isExact_18
  rw [hHe, hLe] at hgoal
  exact hgoal

def L_X7_isClear_2 (R : Nat) (C : Nat) (fi : Int32) (di : Int32) (br : Int32) (K : Nat) : Nat → Nat → (Unit) → Int32
  | 0, i0, a0 => 1
  | n0 + 1, i0, a0 => (if (F_X7_has fi (nI i0)) = 0 then L_X7_isClear_2 R C fi di br K n0 (i0 + 1) () else (if (F_X7_has (F_X7_seenOf R C fi br K (F_X7_with fi (nI i0) 0) di) (nI i0)) = 0 then L_X7_isClear_2 R C fi di br K n0 (i0 + 1) () else 0))
def F_X7_isClear (R : Nat) (C : Nat) (fi : Int32) (di : Int32) (br : Int32) (K : Nat) : Int32 := L_X7_isClear_2 R C fi di br K K 0 ()
set_option maxHeartbeats 4000000 in
set_option maxRecDepth 100000 in
theorem c_X7_isClear (l : Launch) (D : va_G) (hM : Nat) (th : Int32) (R : Nat) (C : Nat) (fi : Int32) (di : Int32) (he : Int32) (br : Int32) (pa : Int32) (gu : Int32) (sc : Nat) (cl : Int32) (se : Int32) (lo : Int32) (lu : Int32) (rf : Int32) (kl : Nat) (kc : Nat) (hB : Nat) (km : Int32) (kd : Nat) (K : Nat) (sz : Nat) (hR : R ≤ 5) (hC : C ≤ 5) (hC0 : 0 < C) (hKb : K ≤ 25) : Met l yX7_isClear (Cond.code yX7_isClear cX7_isClear 2 (some .boolean) :: lwAll) ({ frames := 3, cells := 0, slots := 0, locals := 72 } : Room) (va_Pc [.ref hM] (cPre D (lwTY D) [(hM, .inr (14, [.int th, .int (nI R), .int (nI C), .int fi, .int di, .int he, .int br, .int pa, .int gu, .int (nI sc), .int cl, .int se, .int lo, .int lu, .int rf, .ref kl, .ref kc, .ref hB])), (kl, .inr (6, [.int km, .ref kd, .int (nI K)]))] sz)) (va_Qi (fun (r : Int32) (_ : Unit) => r = (F_X7_isClear R C fi di br K) ∧ (r = 0 ∨ r = 1)) (fun _ _ => True) (fun q : Nat => sz ≤ q)) 0 0 (fun q : Nat => sz ≤ q) := by
  refine Met.ofW (cc := cX7_isClear) (maxL := 2) (ret := (some .boolean)) (by decide) rfl ?_
  intro p e s m args below meth c s₁ B hml hv
  obtain ⟨rfl, hsz, hP, hK, hD0, hN, hZ⟩ := hv
  have hx := B.exec
  have hb := B.bytes
  have hr := B.returns
  have hts : ∀ wd ∈ lwAll, wd.before ([.ref hM] : List Value).toArray s = true := fun wd h => atoms_spec (ws := (Cond.code yX7_isClear cX7_isClear 2 (some .boolean) :: lwAll)) B.pre wd (List.mem_cons_of_mem _ h)
  have hown : s.vm.findClass RX7 = some m.cls := findClass_of_methodNamed B.named
  have hlocks := B.notSynchronized
  subst hsz
  have hD := hD0.self (sz := s.heap.size)
  have hl := lv_entry ([.ref hM]) (n := 2) (Nat.le_of_ble_eq_true rfl)
  rw [lg_entry_eq]
  generalize (lg_sl ([.ref hM]) ++ List.replicate (2 - (lg_sl ([.ref hM])).length) Slot.unset).toArray = ls at hl ⊢
  have hl : lv_has ls 2 [(0, .ref hM)] := hl
  have hS : va_S (fun q : Nat => s.heap.size ≤ q) s.heap s.heap [] := va_S.rf
  generalize hQe : MQ below (va_Qi (fun (r : Int32) (_ : Unit) => r = (F_X7_isClear R C fi di br K) ∧ (r = 0 ∨ r = 1)) (fun _ _ => True) (fun q : Nat => s.heap.size ≤ q)) ([.ref hM] : List Value).toArray s 0 0 (fun q : Nat => s.heap.size ≤ q) = Q
  have hP : va_P D vwCl [(hM, .inr (14, [.int th, .int (nI R), .int (nI C), .int fi, .int di, .int he, .int br, .int pa, .int gu, .int (nI sc), .int cl, .int se, .int lo, .int lu, .int rf, .ref kl, .ref kc, .ref hB])), (kl, .inr (6, [.int km, .ref kd, .int (nI K)]))] s.heap := hP
  obtain ⟨A, hAe⟩ : ∃ A, A = va_A [(hM, .inr (14, [.int th, .int (nI R), .int (nI C), .int fi, .int di, .int he, .int br, .int pa, .int gu, .int (nI sc), .int cl, .int se, .int lo, .int lu, .int rf, .ref kl, .ref kc, .ref hB])), (kl, .inr (6, [.int km, .ref kd, .int (nI K)]))] s.heap.size := ⟨_, rfl⟩
  rw [← hAe] at hD hZ
  have hA : ∀ q : Nat, s.heap.size ≤ q → A q := fun q h => by rw [hAe]; exact Or.inr h
  obtain ⟨H, hHe⟩ : ∃ H, H = s.heap := ⟨_, rfl⟩
  obtain ⟨locs, hLe⟩ : ∃ L : List Loc, L = [] := ⟨_, rfl⟩
  have hP : va_P D vwCl [(hM, .inr (14, [.int th, .int (nI R), .int (nI C), .int fi, .int di, .int he, .int br, .int pa, .int gu, .int (nI sc), .int cl, .int se, .int lo, .int lu, .int rf, .ref kl, .ref kc, .ref hB])), (kl, .inr (6, [.int km, .ref kd, .int (nI K)]))] H := by rw [hHe]; exact hP
  have hS : va_S (fun q : Nat => s.heap.size ≤ q) s.heap H locs := by rw [hHe, hLe]; exact hS
  have hgoal : W p l e ({ frames := 3, cells := 0, slots := 0, locals := 72 } : Room) s m ([.ref hM] : List Value).toArray below meth c H locs 0 0 Q (F0 m 0 ls []) := by
    clear hHe hLe
    refine lv_iconst (v := 0) hx hb dX7_isClear_0 (by decide) ?_
    refine lv_istore_n (lv' := [(1, .int 0), (0, .ref hM)]) hx hb dX7_isClear_1 rfl hl (by decide) rfl (fun ls hl => ?_)
    have lp_2 : ∀ (n0 i0 : Nat), i0 + n0 = K → ∀ (a0 : Unit) (H : Heap) (locs : List Loc) (ls : Array Slot), va_P D vwCl [(hM, .inr (14, [.int th, .int (nI R), .int (nI C), .int fi, .int di, .int he, .int br, .int pa, .int gu, .int (nI sc), .int cl, .int se, .int lo, .int lu, .int rf, .ref kl, .ref kc, .ref hB])), (kl, .inr (6, [.int km, .ref kd, .int (nI K)]))] H → va_D A [(hM, .inr (14, [.int th, .int (nI R), .int (nI C), .int fi, .int di, .int he, .int br, .int pa, .int gu, .int (nI sc), .int cl, .int se, .int lo, .int lu, .int rf, .ref kl, .ref kc, .ref hB])), (kl, .inr (6, [.int km, .ref kd, .int (nI K)]))] → va_S (fun q : Nat => s.heap.size ≤ q) s.heap H locs → lv_has ls 2 [(0, .ref hM), (1, .int (nI i0))] → (F_X7_isClear R C fi di br K) = L_X7_isClear_2 R C fi di br K n0 i0 a0 → W p l e ({ frames := 3, cells := 0, slots := 0, locals := 72 } : Room) s m ([.ref hM] : List Value).toArray below meth c H locs 0 0 Q (F0 m 2 ls []) := by
      intro n0
      induction n0 with
      | zero =>
        intro i0 hi0 a0 H locs ls hP hD hS hl hE0
        have he0 : i0 = K := by omega
        refine lv_iload_n hx hb dX7_isClear_2 rfl (lv_at hl 1 rfl) ?_
        refine lv_aload_n hx hb dX7_isClear_3 rfl (lv_at hl 0 rfl) ?_
        refine va_get (D := D) (ci := 14) (v := .ref kl) (C := RX7) (T := TX7) (N := 18) hx hb hts in_X7 hown hK hP 0 rfl rfl 15 (by decide) (hts _ q_1283) (fun _ h9 => h9) rfl dX7_isClear_4 ?_
        have hPc := hP.sub (ws' := [(kl, .inr (6, [.int km, .ref kd, .int (nI K)]))]) [1] rfl
        have hDc := hD.sub (ws' := [(kl, .inr (6, [.int km, .ref kd, .int (nI K)]))]) [1] (by decide) rfl
        have hFc := va_free (wc := [(kl, .inr (6, [.int km, .ref kd, .int (nI K)]))]) hD (va_S_up hS hA) hA [1] rfl
        refine va_calli (va_runV (As := []) (rest := [.int (nI i0)]) ⟨hx, hb, hml, hown, hts⟩ (c_Jx4a65c_size_8abf5 l D kl km kd K H.size ) (cwV 0 hts (gi_V q_1263 q_1264 q_1265 q_107 q_1266) rfl rfl rfl (by decide +kernel) ⟨Nat.le_of_ble_eq_true rfl, Nat.le_of_ble_eq_true rfl⟩) ⟨cPre_blind, va_recv hK hP (ci := 6) (q0 := 1) rfl rfl, cPre_mk hPc hK hDc hN (lwZ_for hZ (va_S_up hS hA) hFc)⟩ rfl rfl hl.1 rfl (lv_room (Nat.le_of_ble_eq_true rfl)) dX7_isClear_7 ⟨(Nat.le_of_ble_eq_true rfl), (Nat.le_of_ble_eq_true rfl)⟩) hS (fun q h1 h2 => absurd h2 (Nat.not_le.mpr h1)) (fun q h => Nat.le_trans hS.1 h) (fun r_7 u t H1 locs ht hvm hw hBk hz1 hk1 hS => ?_)
        have hP := va_P_ro hP hk1
        subst hw
        clear hBk hvm ht u hz1 hk1
        clear hPc hDc hFc; clear t
        generalize H1 = H at hP hS ⊢
        refine lv_icmp_ge (tgt := 56) hx hb dX7_isClear_10 (by decide) (fun c_1 => ?_) (fun c_1 => ?_)
        · refine lv_iconst (v := 1) hx hb dX7_isClear_56 (by decide) ?_
          subst hQe
          exact W.zret (ty := .boolean) (v := 1) hx hb hr (zb_narrow zb_1) (fun t ht hW => ⟨⟨1, (), rfl, ⟨(by rw [hE0, L_X7_isClear_2]), zb_1⟩, trivial⟩, hS.F ht⟩) hS.2.2 dX7_isClear_57
        · exact absurd (nI_le (a := K) (b := i0) (by omega) (by omega)) c_1
      | succ n0 ih0 =>
        intro i0 hi0 a0 H locs ls hP hD hS hl hE0
        refine lv_iload_n hx hb dX7_isClear_2 rfl (lv_at hl 1 rfl) ?_
        refine lv_aload_n hx hb dX7_isClear_3 rfl (lv_at hl 0 rfl) ?_
        refine va_get (D := D) (ci := 14) (v := .ref kl) (C := RX7) (T := TX7) (N := 18) hx hb hts in_X7 hown hK hP 0 rfl rfl 15 (by decide) (hts _ q_1283) (fun _ h9 => h9) rfl dX7_isClear_4 ?_
        have hPc := hP.sub (ws' := [(kl, .inr (6, [.int km, .ref kd, .int (nI K)]))]) [1] rfl
        have hDc := hD.sub (ws' := [(kl, .inr (6, [.int km, .ref kd, .int (nI K)]))]) [1] (by decide) rfl
        have hFc := va_free (wc := [(kl, .inr (6, [.int km, .ref kd, .int (nI K)]))]) hD (va_S_up hS hA) hA [1] rfl
        refine va_calli (va_runV (As := []) (rest := [.int (nI i0)]) ⟨hx, hb, hml, hown, hts⟩ (c_Jx4a65c_size_8abf5 l D kl km kd K H.size ) (cwV 0 hts (gi_V q_1263 q_1264 q_1265 q_107 q_1266) rfl rfl rfl (by decide +kernel) ⟨Nat.le_of_ble_eq_true rfl, Nat.le_of_ble_eq_true rfl⟩) ⟨cPre_blind, va_recv hK hP (ci := 6) (q0 := 1) rfl rfl, cPre_mk hPc hK hDc hN (lwZ_for hZ (va_S_up hS hA) hFc)⟩ rfl rfl hl.1 rfl (lv_room (Nat.le_of_ble_eq_true rfl)) dX7_isClear_7 ⟨(Nat.le_of_ble_eq_true rfl), (Nat.le_of_ble_eq_true rfl)⟩) hS (fun q h1 h2 => absurd h2 (Nat.not_le.mpr h1)) (fun q h => Nat.le_trans hS.1 h) (fun r_7 u t H1 locs ht hvm hw hBk hz1 hk1 hS => ?_)
        have hP := va_P_ro hP hk1
        subst hw
        clear hBk hvm ht u hz1 hk1
        clear hPc hDc hFc; clear t
        generalize H1 = H at hP hS ⊢
        refine lv_icmp_ge (tgt := 56) hx hb dX7_isClear_10 (by decide) (fun c_2 => ?_) (fun c_2 => ?_)
        · exact absurd c_2 (nI_ge (a := i0) (b := K) (by omega) (by omega))
        · refine lv_aload_n hx hb dX7_isClear_13 rfl (lv_at hl 0 rfl) ?_
          refine va_get (D := D) (ci := 14) (v := .int fi) (C := RX7) (T := TX7) (N := 18) hx hb hts in_X7 hown hK hP 0 rfl rfl 3 (by decide) (hts _ q_1271) (fun _ h9 => h9) rfl dX7_isClear_14 ?_
          refine lv_iload_n hx hb dX7_isClear_17 rfl (lv_at hl 1 rfl) ?_
          have hPc := hP.sub (ws' := []) [] rfl
          have hDc := hD.sub (ws' := []) [] (by decide) rfl
          have hFc := va_free (wc := []) hD (va_S_up hS hA) hA [] rfl
          refine va_calli (va_runS (As := [.int fi, .int (nI i0)]) (rest := []) ⟨hx, hb, hml, hown, hts⟩ (c_X7_has l D fi (nI i0) H.size ) (cwS 2 hts (gi_S q_1361 q_1362 q_104 q_1363) rfl rfl rfl (by decide +kernel) ⟨Nat.le_of_ble_eq_true rfl, Nat.le_of_ble_eq_true rfl⟩) ⟨cPre_blind, cPre_mk hPc hK hDc hN (lwZ_for hZ (va_S_up hS hA) hFc)⟩ rfl rfl hl.1 rfl (lv_room (Nat.le_of_ble_eq_true rfl)) dX7_isClear_18 ⟨(Nat.le_of_ble_eq_true rfl), (Nat.le_of_ble_eq_true rfl)⟩) hS (fun q h1 h2 => absurd h2 (Nat.not_le.mpr h1)) (fun q h => Nat.le_trans hS.1 h) (fun r_18 u t H1 locs ht hvm hw hBk hz1 hk1 hS => ?_)
          have hP := va_P_ro hP hk1
          obtain ⟨hw, z_3⟩ := hw
          rw [hw] at z_3
          subst hw
          clear hBk hvm ht u hz1 hk1
          clear hPc hDc hFc; clear t
          generalize H1 = H at hP hS ⊢
          refine lv_if_eq (tgt := 50) hx hb dX7_isClear_21 (by decide) (fun c_4 => ?_) (fun c_4 => ?_)
          · refine lv_iinc (v := nI (i0 + 1)) (lv' := [(1, .int (nI (i0 + 1))), (0, .ref hM)]) hx hb dX7_isClear_50 hl (k := 1) rfl (nI_1 _) (by decide) rfl (fun ls hl => ?_)
            refine lv_goto (tgt := 2) hx hb dX7_isClear_53 (by decide) ?_
            have hl : lv_has ls 2 [(0, .ref hM), (1, .int (nI (i0 + 1)))] := lv_sub hl [1, 0] rfl
            have hP := hP.sub (ws' := [(hM, .inr (14, [.int th, .int (nI R), .int (nI C), .int fi, .int di, .int he, .int br, .int pa, .int gu, .int (nI sc), .int cl, .int se, .int lo, .int lu, .int rf, .ref kl, .ref kc, .ref hB])), (kl, .inr (6, [.int km, .ref kd, .int (nI K)]))]) [0, 1] rfl
            have hD := hD.sub (ws' := [(hM, .inr (14, [.int th, .int (nI R), .int (nI C), .int fi, .int di, .int he, .int br, .int pa, .int gu, .int (nI sc), .int cl, .int se, .int lo, .int lu, .int rf, .ref kl, .ref kc, .ref hB])), (kl, .inr (6, [.int km, .ref kd, .int (nI K)]))]) [0, 1] (by decide) rfl
            exact ih0 (i0 + 1) (by omega) () H locs ls hP hD hS hl (by rw [hE0, L_X7_isClear_2, if_pos c_4])
          · refine lv_aload_n hx hb dX7_isClear_24 rfl (lv_at hl 0 rfl) ?_
            refine lv_aload_n hx hb dX7_isClear_25 rfl (lv_at hl 0 rfl) ?_
            refine va_get (D := D) (ci := 14) (v := .int fi) (C := RX7) (T := TX7) (N := 18) hx hb hts in_X7 hown hK hP 0 rfl rfl 3 (by decide) (hts _ q_1271) (fun _ h9 => h9) rfl dX7_isClear_26 ?_
            refine lv_iload_n hx hb dX7_isClear_29 rfl (lv_at hl 1 rfl) ?_
            refine lv_iconst (v := 0) hx hb dX7_isClear_30 (by decide) ?_
            have hPc := hP.sub (ws' := []) [] rfl
            have hDc := hD.sub (ws' := []) [] (by decide) rfl
            have hFc := va_free (wc := []) hD (va_S_up hS hA) hA [] rfl
            refine va_calli (va_runS (As := [.int fi, .int (nI i0), .int 0]) (rest := [.ref hM]) ⟨hx, hb, hml, hown, hts⟩ (c_X7_with l D fi (nI i0) 0 H.size ) (cwS 3 hts (gi_S q_1346 q_1347 q_104 q_1348) rfl rfl rfl (by decide +kernel) ⟨Nat.le_of_ble_eq_true rfl, Nat.le_of_ble_eq_true rfl⟩) ⟨cPre_blind, cPre_mk hPc hK hDc hN (lwZ_for hZ (va_S_up hS hA) hFc)⟩ rfl rfl hl.1 rfl (lv_room (Nat.le_of_ble_eq_true rfl)) dX7_isClear_31 ⟨(Nat.le_of_ble_eq_true rfl), (Nat.le_of_ble_eq_true rfl)⟩) hS (fun q h1 h2 => absurd h2 (Nat.not_le.mpr h1)) (fun q h => Nat.le_trans hS.1 h) (fun r_31 u t H1 locs ht hvm hw hBk hz1 hk1 hS => ?_)
            have hP := va_P_ro hP hk1
            subst hw
            clear hBk hvm ht u hz1 hk1
            clear hPc hDc hFc; clear t
            generalize H1 = H at hP hS ⊢
            refine lv_aload_n hx hb dX7_isClear_34 rfl (lv_at hl 0 rfl) ?_
            refine va_get (D := D) (ci := 14) (v := .int di) (C := RX7) (T := TX7) (N := 18) hx hb hts in_X7 hown hK hP 0 rfl rfl 4 (by decide) (hts _ q_1272) (fun _ h9 => h9) rfl dX7_isClear_35 ?_
            have hPc := hP.sub (ws' := [(hM, .inr (14, [.int th, .int (nI R), .int (nI C), .int fi, .int di, .int he, .int br, .int pa, .int gu, .int (nI sc), .int cl, .int se, .int lo, .int lu, .int rf, .ref kl, .ref kc, .ref hB])), (kl, .inr (6, [.int km, .ref kd, .int (nI K)]))]) [0, 1] rfl
            have hDc := hD.sub (ws' := [(hM, .inr (14, [.int th, .int (nI R), .int (nI C), .int fi, .int di, .int he, .int br, .int pa, .int gu, .int (nI sc), .int cl, .int se, .int lo, .int lu, .int rf, .ref kl, .ref kc, .ref hB])), (kl, .inr (6, [.int km, .ref kd, .int (nI K)]))]) [0, 1] (by decide) rfl
            have hFc := va_free (wc := [(hM, .inr (14, [.int th, .int (nI R), .int (nI C), .int fi, .int di, .int he, .int br, .int pa, .int gu, .int (nI sc), .int cl, .int se, .int lo, .int lu, .int rf, .ref kl, .ref kc, .ref hB])), (kl, .inr (6, [.int km, .ref kd, .int (nI K)]))]) hD (va_S_up hS hA) hA [0, 1] rfl
            refine va_calli (va_runV (As := [.int (F_X7_with fi (nI i0) 0), .int di]) (rest := []) ⟨hx, hb, hml, hown, hts⟩ (c_X7_seenOf l D hM th R C fi di he br pa gu sc cl se lo lu rf kl kc hB km kd K (F_X7_with fi (nI i0) 0) di H.size (show R ≤ 5 from hR) (show C ≤ 5 from hC) (show 0 < C from hC0) (show K ≤ 25 from hKb)) (cwV 2 hts (gi_V q_1407 q_1409 q_59 q_104 q_1410) rfl rfl rfl (by decide +kernel) ⟨Nat.le_of_ble_eq_true rfl, Nat.le_of_ble_eq_true rfl⟩) ⟨cPre_blind, va_recv hK hP (ci := 14) (q0 := 0) rfl rfl, cPre_mk hPc hK hDc hN (lwZ_for hZ (va_S_up hS hA) hFc)⟩ rfl rfl hl.1 rfl (lv_room (Nat.le_of_ble_eq_true rfl)) dX7_isClear_38 ⟨(Nat.le_of_ble_eq_true rfl), (Nat.le_of_ble_eq_true rfl)⟩) hS (fun q h1 h2 => absurd h2 (Nat.not_le.mpr h1)) (fun q h => Nat.le_trans hS.1 h) (fun r_38 u t H1 locs ht hvm hw hBk hz1 hk1 hS => ?_)
            have hP := va_P_ro hP hk1
            subst hw
            clear hBk hvm ht u hz1 hk1
            clear hPc hDc hFc; clear t
            generalize H1 = H at hP hS ⊢
            refine lv_iload_n hx hb dX7_isClear_41 rfl (lv_at hl 1 rfl) ?_
            have hPc := hP.sub (ws' := []) [] rfl
            have hDc := hD.sub (ws' := []) [] (by decide) rfl
            have hFc := va_free (wc := []) hD (va_S_up hS hA) hA [] rfl
            refine va_calli (va_runS (As := [.int (F_X7_seenOf R C fi br K (F_X7_with fi (nI i0) 0) di), .int (nI i0)]) (rest := []) ⟨hx, hb, hml, hown, hts⟩ (c_X7_has l D (F_X7_seenOf R C fi br K (F_X7_with fi (nI i0) 0) di) (nI i0) H.size ) (cwS 2 hts (gi_S q_1361 q_1362 q_104 q_1363) rfl rfl rfl (by decide +kernel) ⟨Nat.le_of_ble_eq_true rfl, Nat.le_of_ble_eq_true rfl⟩) ⟨cPre_blind, cPre_mk hPc hK hDc hN (lwZ_for hZ (va_S_up hS hA) hFc)⟩ rfl rfl hl.1 rfl (lv_room (Nat.le_of_ble_eq_true rfl)) dX7_isClear_42 ⟨(Nat.le_of_ble_eq_true rfl), (Nat.le_of_ble_eq_true rfl)⟩) hS (fun q h1 h2 => absurd h2 (Nat.not_le.mpr h1)) (fun q h => Nat.le_trans hS.1 h) (fun r_42 u t H1 locs ht hvm hw hBk hz1 hk1 hS => ?_)
            have hP := va_P_ro hP hk1
            obtain ⟨hw, z_5⟩ := hw
            rw [hw] at z_5
            subst hw
            clear hBk hvm ht u hz1 hk1
            clear hPc hDc hFc; clear t
            generalize H1 = H at hP hS ⊢
            refine lv_if_eq (tgt := 50) hx hb dX7_isClear_45 (by decide) (fun c_6 => ?_) (fun c_6 => ?_)
            · refine lv_iinc (v := nI (i0 + 1)) (lv' := [(1, .int (nI (i0 + 1))), (0, .ref hM)]) hx hb dX7_isClear_50 hl (k := 1) rfl (nI_1 _) (by decide) rfl (fun ls hl => ?_)
              refine lv_goto (tgt := 2) hx hb dX7_isClear_53 (by decide) ?_
              have hl : lv_has ls 2 [(0, .ref hM), (1, .int (nI (i0 + 1)))] := lv_sub hl [1, 0] rfl
              have hP := hP.sub (ws' := [(hM, .inr (14, [.int th, .int (nI R), .int (nI C), .int fi, .int di, .int he, .int br, .int pa, .int gu, .int (nI sc), .int cl, .int se, .int lo, .int lu, .int rf, .ref kl, .ref kc, .ref hB])), (kl, .inr (6, [.int km, .ref kd, .int (nI K)]))]) [0, 1] rfl
              have hD := hD.sub (ws' := [(hM, .inr (14, [.int th, .int (nI R), .int (nI C), .int fi, .int di, .int he, .int br, .int pa, .int gu, .int (nI sc), .int cl, .int se, .int lo, .int lu, .int rf, .ref kl, .ref kc, .ref hB])), (kl, .inr (6, [.int km, .ref kd, .int (nI K)]))]) [0, 1] (by decide) rfl
              exact ih0 (i0 + 1) (by omega) () H locs ls hP hD hS hl (by rw [hE0, L_X7_isClear_2, if_neg c_4, if_pos c_6])
            · refine lv_iconst (v := 0) hx hb dX7_isClear_48 (by decide) ?_
              subst hQe
              exact W.zret (ty := .boolean) (v := 0) hx hb hr (zb_narrow zb_0) (fun t ht hW => ⟨⟨0, (), rfl, ⟨(by rw [hE0, L_X7_isClear_2, if_neg c_4, if_neg c_6]), zb_0⟩, trivial⟩, hS.F ht⟩) hS.2.2 dX7_isClear_49
    have hl : lv_has ls 2 [(0, .ref hM), (1, .int (nI 0))] := lv_sub hl [1, 0] rfl
    exact lp_2 K 0 (by omega) () H locs ls hP hD hS hl (by rfl)
  rw [hHe, hLe] at hgoal
  exact hgoal

def T_X7_stepsTo_9 (R : Nat) (C : Nat) (fi : Int32) (br : Int32) (K : Nat) (kk : Nat) : Int32 := F_X7_with (F_X7_able R C fi br K) (nI kk) 0
def S_X7_stepsTo_50 (R : Nat) (C : Nat) (fi : Int32) (br : Int32) (K : Nat) (kk : Nat) (x2 : Int32) (a0 : Int32 × Int32) (i1 : Nat) (a1 : Int32) : Int32 := (if ((F_X7_rowOf C ((T_X7_stepsTo_9 R C fi br K kk) &&& (x2 ^^^ (-1))) (nI i1)) &&& a0.1) = 0 then a1 else a1 ||| (F_X7_rowOf C (T_X7_stepsTo_9 R C fi br K kk) (nI i1)))
def L_X7_stepsTo_26 (R : Nat) (C : Nat) (fi : Int32) (br : Int32) (K : Nat) (kk : Nat) (x2 : Int32) : Nat → Nat → (Int32 × Int32) → Int32
  | 0, i0, a0 => a0.2
  | n0 + 1, i0, a0 => (if (F_X7_has a0.1 ((nI kk) - (nI kk) / (nI C) * (nI C))) = 0 then (if (itr (fun i a => S_X7_stepsTo_50 R C fi br K kk x2 a0 i a) R 0 a0.1) = a0.1 then (-1) else L_X7_stepsTo_26 R C fi br K kk x2 n0 (i0 + 1) ((itr (fun i a => S_X7_stepsTo_50 R C fi br K kk x2 a0 i a) R 0 a0.1), a0.2 + 2)) else a0.2)
def F_X7_stepsTo (R : Nat) (C : Nat) (fi : Int32) (br : Int32) (K : Nat) (kk : Nat) (x2 : Int32) : Int32 := L_X7_stepsTo_26 R C fi br K kk x2 33 0 (F_X7_rowOf C (T_X7_stepsTo_9 R C fi br K kk) ((nI kk) / (nI C)), 1)
theorem grow_no {x : Int32} {i : Nat} (hi : i = 33) (h : i ≤ cn x 32) : False := by
  have := cn_le x 32
  omega
theorem grow_n {r r2 : Int32} {i : Nat} (h : i ≤ cn r 32) (hne : ¬ r2 = r) (hup : ∀ j, bt r j = true → bt r2 j = true) : i + 1 ≤ cn r2 32 := by
  have h1 := grow_s (was := r2) (made := r) (made2 := r2) (i := i) (Or.inr h) hne hup
  exact h1.resolve_left (fun e => hne e.symm)
theorem st_up {R C : Nat} {fi br : Int32} {K kk : Nat} {x2 : Int32} {a0 : Int32 × Int32} (a : Int32) : ∀ j, bt a j = true → bt (itr (fun i a1 => S_X7_stepsTo_50 R C fi br K kk x2 a0 i a1) R 0 a) j = true :=
  itr_up (fun i1 a1 j hj => by
    unfold S_X7_stepsTo_50
    split
    · exact hj
    · rw [bt_or, hj, Bool.true_or]) R 0 a
set_option maxHeartbeats 4000000 in
set_option maxRecDepth 100000 in
theorem c_X7_stepsTo (l : Launch) (D : va_G) (hM : Nat) (th : Int32) (R : Nat) (C : Nat) (fi : Int32) (di : Int32) (he : Int32) (br : Int32) (pa : Int32) (gu : Int32) (sc : Nat) (cl : Int32) (se : Int32) (lo : Int32) (lu : Int32) (rf : Int32) (kl : Nat) (kc : Nat) (hB : Nat) (km : Int32) (kd : Nat) (K : Nat) (kk : Nat) (x2 : Int32) (x1 : Int32) (sz : Nat) (hR : R ≤ 5) (hC : C ≤ 5) (hC0 : 0 < C) (hKb : K ≤ 25) (hkk : kk < 25) (hx1 : x1 = nI kk) : Met l yX7_stepsTo (Cond.code yX7_stepsTo cX7_stepsTo 8 (some .int) :: lwAll) ({ frames := 2, cells := 0, slots := 0, locals := 44 } : Room) (va_Pc [.ref hM, .int x1, .int x2] (cPre D (lwTY D) [(hM, .inr (14, [.int th, .int (nI R), .int (nI C), .int fi, .int di, .int he, .int br, .int pa, .int gu, .int (nI sc), .int cl, .int se, .int lo, .int lu, .int rf, .ref kl, .ref kc, .ref hB])), (kl, .inr (6, [.int km, .ref kd, .int (nI K)]))] sz)) (va_Qi (fun (r : Int32) (_ : Unit) => r = (F_X7_stepsTo R C fi br K kk x2)) (fun _ _ => True) (fun q : Nat => sz ≤ q)) 0 0 (fun q : Nat => sz ≤ q) := by
  subst hx1
  refine Met.ofW (cc := cX7_stepsTo) (maxL := 8) (ret := (some .int)) (by decide) rfl ?_
  intro p e s m args below meth c s₁ B hml hv
  obtain ⟨rfl, hsz, hP, hK, hD0, hN, hZ⟩ := hv
  have hx := B.exec
  have hb := B.bytes
  have hr := B.returns
  have hts : ∀ wd ∈ lwAll, wd.before ([.ref hM, .int (nI kk), .int x2] : List Value).toArray s = true := fun wd h => atoms_spec (ws := (Cond.code yX7_stepsTo cX7_stepsTo 8 (some .int) :: lwAll)) B.pre wd (List.mem_cons_of_mem _ h)
  have hown : s.vm.findClass RX7 = some m.cls := findClass_of_methodNamed B.named
  have hlocks := B.notSynchronized
  subst hsz
  have hD := hD0.self (sz := s.heap.size)
  have hl := lv_entry ([.ref hM, .int (nI kk), .int x2]) (n := 8) (Nat.le_of_ble_eq_true rfl)
  rw [lg_entry_eq]
  generalize (lg_sl ([.ref hM, .int (nI kk), .int x2]) ++ List.replicate (8 - (lg_sl ([.ref hM, .int (nI kk), .int x2])).length) Slot.unset).toArray = ls at hl ⊢
  have hl : lv_has ls 8 [(0, .ref hM), (1, .int (nI kk)), (2, .int x2)] := hl
  have hS : va_S (fun q : Nat => s.heap.size ≤ q) s.heap s.heap [] := va_S.rf
  generalize hQe : MQ below (va_Qi (fun (r : Int32) (_ : Unit) => r = (F_X7_stepsTo R C fi br K kk x2)) (fun _ _ => True) (fun q : Nat => s.heap.size ≤ q)) ([.ref hM, .int (nI kk), .int x2] : List Value).toArray s 0 0 (fun q : Nat => s.heap.size ≤ q) = Q
  have hP : va_P D vwCl [(hM, .inr (14, [.int th, .int (nI R), .int (nI C), .int fi, .int di, .int he, .int br, .int pa, .int gu, .int (nI sc), .int cl, .int se, .int lo, .int lu, .int rf, .ref kl, .ref kc, .ref hB])), (kl, .inr (6, [.int km, .ref kd, .int (nI K)]))] s.heap := hP
  obtain ⟨A, hAe⟩ : ∃ A, A = va_A [(hM, .inr (14, [.int th, .int (nI R), .int (nI C), .int fi, .int di, .int he, .int br, .int pa, .int gu, .int (nI sc), .int cl, .int se, .int lo, .int lu, .int rf, .ref kl, .ref kc, .ref hB])), (kl, .inr (6, [.int km, .ref kd, .int (nI K)]))] s.heap.size := ⟨_, rfl⟩
  rw [← hAe] at hD hZ
  have hA : ∀ q : Nat, s.heap.size ≤ q → A q := fun q h => by rw [hAe]; exact Or.inr h
  obtain ⟨H, hHe⟩ : ∃ H, H = s.heap := ⟨_, rfl⟩
  obtain ⟨locs, hLe⟩ : ∃ L : List Loc, L = [] := ⟨_, rfl⟩
  have hP : va_P D vwCl [(hM, .inr (14, [.int th, .int (nI R), .int (nI C), .int fi, .int di, .int he, .int br, .int pa, .int gu, .int (nI sc), .int cl, .int se, .int lo, .int lu, .int rf, .ref kl, .ref kc, .ref hB])), (kl, .inr (6, [.int km, .ref kd, .int (nI K)]))] H := by rw [hHe]; exact hP
  have hS : va_S (fun q : Nat => s.heap.size ≤ q) s.heap H locs := by rw [hHe, hLe]; exact hS
  have hgoal : W p l e ({ frames := 2, cells := 0, slots := 0, locals := 44 } : Room) s m ([.ref hM, .int (nI kk), .int x2] : List Value).toArray below meth c H locs 0 0 Q (F0 m 0 ls []) := by
    clear hHe hLe
    refine lv_aload_n hx hb dX7_stepsTo_0 rfl (lv_at hl 0 rfl) ?_
    have hPc := hP.sub (ws' := [(hM, .inr (14, [.int th, .int (nI R), .int (nI C), .int fi, .int di, .int he, .int br, .int pa, .int gu, .int (nI sc), .int cl, .int se, .int lo, .int lu, .int rf, .ref kl, .ref kc, .ref hB])), (kl, .inr (6, [.int km, .ref kd, .int (nI K)]))]) [0, 1] rfl
    have hDc := hD.sub (ws' := [(hM, .inr (14, [.int th, .int (nI R), .int (nI C), .int fi, .int di, .int he, .int br, .int pa, .int gu, .int (nI sc), .int cl, .int se, .int lo, .int lu, .int rf, .ref kl, .ref kc, .ref hB])), (kl, .inr (6, [.int km, .ref kd, .int (nI K)]))]) [0, 1] (by decide) rfl
    have hFc := va_free (wc := [(hM, .inr (14, [.int th, .int (nI R), .int (nI C), .int fi, .int di, .int he, .int br, .int pa, .int gu, .int (nI sc), .int cl, .int se, .int lo, .int lu, .int rf, .ref kl, .ref kc, .ref hB])), (kl, .inr (6, [.int km, .ref kd, .int (nI K)]))]) hD (va_S_up hS hA) hA [0, 1] rfl
    refine va_calli (va_runV (As := []) (rest := []) ⟨hx, hb, hml, hown, hts⟩ (c_X7_able l D hM th R C fi di he br pa gu sc cl se lo lu rf kl kc hB km kd K H.size (show R ≤ 5 from hR) (show C ≤ 5 from hC) (show 0 < C from hC0) (show K ≤ 25 from hKb)) (cwV 0 hts (gi_V q_1411 q_1413 q_60 q_104 q_1414) rfl rfl rfl (by decide +kernel) ⟨Nat.le_of_ble_eq_true rfl, Nat.le_of_ble_eq_true rfl⟩) ⟨cPre_blind, va_recv hK hP (ci := 14) (q0 := 0) rfl rfl, cPre_mk hPc hK hDc hN (lwZ_for hZ (va_S_up hS hA) hFc)⟩ rfl rfl hl.1 rfl (lv_room (Nat.le_of_ble_eq_true rfl)) dX7_stepsTo_1 ⟨(Nat.le_of_ble_eq_true rfl), (Nat.le_of_ble_eq_true rfl)⟩) hS (fun q h1 h2 => absurd h2 (Nat.not_le.mpr h1)) (fun q h => Nat.le_trans hS.1 h) (fun r_1 u t H1 locs ht hvm hw hBk hz1 hk1 hS => ?_)
    have hP := va_P_ro hP hk1
    subst hw
    clear hBk hvm ht u hz1 hk1
    clear hPc hDc hFc; clear t
    generalize H1 = H at hP hS ⊢
    refine lv_iload_n hx hb dX7_stepsTo_4 rfl (lv_at hl 1 rfl) ?_
    refine lv_iconst (v := 0) hx hb dX7_stepsTo_5 (by decide) ?_
    have hPc := hP.sub (ws' := []) [] rfl
    have hDc := hD.sub (ws' := []) [] (by decide) rfl
    have hFc := va_free (wc := []) hD (va_S_up hS hA) hA [] rfl
    refine va_calli (va_runS (As := [.int (F_X7_able R C fi br K), .int (nI kk), .int 0]) (rest := []) ⟨hx, hb, hml, hown, hts⟩ (c_X7_with l D (F_X7_able R C fi br K) (nI kk) 0 H.size ) (cwS 3 hts (gi_S q_1346 q_1347 q_104 q_1348) rfl rfl rfl (by decide +kernel) ⟨Nat.le_of_ble_eq_true rfl, Nat.le_of_ble_eq_true rfl⟩) ⟨cPre_blind, cPre_mk hPc hK hDc hN (lwZ_for hZ (va_S_up hS hA) hFc)⟩ rfl rfl hl.1 rfl (lv_room (Nat.le_of_ble_eq_true rfl)) dX7_stepsTo_6 ⟨(Nat.le_of_ble_eq_true rfl), (Nat.le_of_ble_eq_true rfl)⟩) hS (fun q h1 h2 => absurd h2 (Nat.not_le.mpr h1)) (fun q h => Nat.le_trans hS.1 h) (fun r_6 u t H1 locs ht hvm hw hBk hz1 hk1 hS => ?_)
    have hP := va_P_ro hP hk1
    subst hw
    clear hBk hvm ht u hz1 hk1
    clear hPc hDc hFc; clear t
    generalize H1 = H at hP hS ⊢
    refine lv_istore_n (lv' := [(3, .int (F_X7_with (F_X7_able R C fi br K) (nI kk) 0)), (0, .ref hM), (1, .int (nI kk)), (2, .int x2)]) hx hb dX7_stepsTo_9 rfl hl (by decide) rfl (fun ls hl => ?_)
    have hl : lv_has ls 8 [(3, .int (T_X7_stepsTo_9 R C fi br K kk)), (0, .ref hM), (1, .int (nI kk)), (2, .int x2)] := hl
    refine lv_aload_n hx hb dX7_stepsTo_10 rfl (lv_at hl 1 rfl) ?_
    refine lv_iload_n hx hb dX7_stepsTo_11 rfl (lv_at hl 0 rfl) ?_
    refine lv_iload_n hx hb dX7_stepsTo_12 rfl (lv_at hl 2 rfl) ?_
    refine lv_aload_n hx hb dX7_stepsTo_13 rfl (lv_at hl 1 rfl) ?_
    refine va_get (D := D) (ci := 14) (v := .int (nI C)) (C := RX7) (T := TX7) (N := 18) hx hb hts in_X7 hown hK hP 0 rfl rfl 2 (by decide) (hts _ q_1270) (fun _ h9 => h9) rfl dX7_stepsTo_14 ?_
    refine lv_idiv hx hb dX7_stepsTo_17 (nI_nz hC0 hC) ?_
    have hPc := hP.sub (ws' := [(hM, .inr (14, [.int th, .int (nI R), .int (nI C), .int fi, .int di, .int he, .int br, .int pa, .int gu, .int (nI sc), .int cl, .int se, .int lo, .int lu, .int rf, .ref kl, .ref kc, .ref hB]))]) [0] rfl
    have hDc := hD.sub (ws' := [(hM, .inr (14, [.int th, .int (nI R), .int (nI C), .int fi, .int di, .int he, .int br, .int pa, .int gu, .int (nI sc), .int cl, .int se, .int lo, .int lu, .int rf, .ref kl, .ref kc, .ref hB]))]) [0] (by decide) rfl
    have hFc := va_free (wc := [(hM, .inr (14, [.int th, .int (nI R), .int (nI C), .int fi, .int di, .int he, .int br, .int pa, .int gu, .int (nI sc), .int cl, .int se, .int lo, .int lu, .int rf, .ref kl, .ref kc, .ref hB]))]) hD (va_S_up hS hA) hA [0] rfl
    refine va_calli (va_runV (As := [.int (T_X7_stepsTo_9 R C fi br K kk), .int ((nI kk) / (nI C))]) (rest := []) ⟨hx, hb, hml, hown, hts⟩ (c_X7_rowOf l D hM th R C fi di he br pa gu sc cl se lo lu rf kl kc hB (T_X7_stepsTo_9 R C fi br K kk) ((nI kk) / (nI C)) H.size ) (cwV 2 hts (gi_V q_1415 q_1417 q_61 q_104 q_1418) rfl rfl rfl (by decide +kernel) ⟨Nat.le_of_ble_eq_true rfl, Nat.le_of_ble_eq_true rfl⟩) ⟨cPre_blind, va_recv hK hP (ci := 14) (q0 := 0) rfl rfl, cPre_mk hPc hK hDc hN (lwZ_for hZ (va_S_up hS hA) hFc)⟩ rfl rfl hl.1 rfl (lv_room (Nat.le_of_ble_eq_true rfl)) dX7_stepsTo_18 ⟨(Nat.le_of_ble_eq_true rfl), (Nat.le_of_ble_eq_true rfl)⟩) hS (fun q h1 h2 => absurd h2 (Nat.not_le.mpr h1)) (fun q h => Nat.le_trans hS.1 h) (fun r_18 u t H1 locs ht hvm hw hBk hz1 hk1 hS => ?_)
    have hP := va_P_ro hP hk1
    subst hw
    clear hBk hvm ht u hz1 hk1
    clear hPc hDc hFc; clear t
    generalize H1 = H at hP hS ⊢
    refine lv_istore (lv' := [(4, .int (F_X7_rowOf C (T_X7_stepsTo_9 R C fi br K kk) ((nI kk) / (nI C)))), (3, .int (T_X7_stepsTo_9 R C fi br K kk)), (0, .ref hM), (1, .int (nI kk)), (2, .int x2)]) hx hb dX7_stepsTo_21 hl (by decide) rfl (fun ls hl => ?_)
    refine lv_iconst (v := 1) hx hb dX7_stepsTo_23 (by decide) ?_
    refine lv_istore (lv' := [(5, .int 1), (4, .int (F_X7_rowOf C (T_X7_stepsTo_9 R C fi br K kk) ((nI kk) / (nI C)))), (3, .int (T_X7_stepsTo_9 R C fi br K kk)), (0, .ref hM), (1, .int (nI kk)), (2, .int x2)]) hx hb dX7_stepsTo_24 hl (by decide) rfl (fun ls hl => ?_)
    have lp_26 : ∀ (n0 i0 : Nat), i0 + n0 = 33 → ∀ (a0 : Int32 × Int32) (H : Heap) (locs : List Loc) (ls : Array Slot), va_P D vwCl [(hM, .inr (14, [.int th, .int (nI R), .int (nI C), .int fi, .int di, .int he, .int br, .int pa, .int gu, .int (nI sc), .int cl, .int se, .int lo, .int lu, .int rf, .ref kl, .ref kc, .ref hB])), (kl, .inr (6, [.int km, .ref kd, .int (nI K)]))] H → va_D A [(hM, .inr (14, [.int th, .int (nI R), .int (nI C), .int fi, .int di, .int he, .int br, .int pa, .int gu, .int (nI sc), .int cl, .int se, .int lo, .int lu, .int rf, .ref kl, .ref kc, .ref hB])), (kl, .inr (6, [.int km, .ref kd, .int (nI K)]))] → va_S (fun q : Nat => s.heap.size ≤ q) s.heap H locs → lv_has ls 8 [(0, .ref hM), (1, .int (nI kk)), (2, .int x2), (3, .int (T_X7_stepsTo_9 R C fi br K kk)), (4, .int a0.1), (5, .int a0.2)] → i0 ≤ cn a0.1 32 → (F_X7_stepsTo R C fi br K kk x2) = L_X7_stepsTo_26 R C fi br K kk x2 n0 i0 a0 → W p l e ({ frames := 2, cells := 0, slots := 0, locals := 44 } : Room) s m ([.ref hM, .int (nI kk), .int x2] : List Value).toArray below meth c H locs 0 0 Q (F0 m 26 ls []) := by
      intro n0
      induction n0 with
      | zero =>
        intro i0 hi0 a0 H locs ls hP hD hS hl hv0 hE0
        have he0 : i0 = 33 := by omega
        refine lv_iload hx hb dX7_stepsTo_26 (lv_at hl 4 rfl) ?_
        refine lv_iload_n hx hb dX7_stepsTo_28 rfl (lv_at hl 1 rfl) ?_
        refine lv_aload_n hx hb dX7_stepsTo_29 rfl (lv_at hl 0 rfl) ?_
        refine va_get (D := D) (ci := 14) (v := .int (nI C)) (C := RX7) (T := TX7) (N := 18) hx hb hts in_X7 hown hK hP 0 rfl rfl 2 (by decide) (hts _ q_1270) (fun _ h9 => h9) rfl dX7_stepsTo_30 ?_
        refine lv_irem hx hb dX7_stepsTo_33 (nI_nz hC0 hC) ?_
        have hPc := hP.sub (ws' := []) [] rfl
        have hDc := hD.sub (ws' := []) [] (by decide) rfl
        have hFc := va_free (wc := []) hD (va_S_up hS hA) hA [] rfl
        refine va_calli (va_runS (As := [.int a0.1, .int ((nI kk) - (nI kk) / (nI C) * (nI C))]) (rest := []) ⟨hx, hb, hml, hown, hts⟩ (c_X7_has l D a0.1 ((nI kk) - (nI kk) / (nI C) * (nI C)) H.size ) (cwS 2 hts (gi_S q_1361 q_1362 q_104 q_1363) rfl rfl rfl (by decide +kernel) ⟨Nat.le_of_ble_eq_true rfl, Nat.le_of_ble_eq_true rfl⟩) ⟨cPre_blind, cPre_mk hPc hK hDc hN (lwZ_for hZ (va_S_up hS hA) hFc)⟩ rfl rfl hl.1 rfl (lv_room (Nat.le_of_ble_eq_true rfl)) dX7_stepsTo_34 ⟨(Nat.le_of_ble_eq_true rfl), (Nat.le_of_ble_eq_true rfl)⟩) hS (fun q h1 h2 => absurd h2 (Nat.not_le.mpr h1)) (fun q h => Nat.le_trans hS.1 h) (fun r_34 u t H1 locs ht hvm hw hBk hz1 hk1 hS => ?_)
        have hP := va_P_ro hP hk1
        obtain ⟨hw, z_1⟩ := hw
        rw [hw] at z_1
        subst hw
        clear hBk hvm ht u hz1 hk1
        clear hPc hDc hFc; clear t
        generalize H1 = H at hP hS ⊢
        refine lv_if_eq (tgt := 43) hx hb dX7_stepsTo_37 (by decide) (fun c_2 => ?_) (fun c_2 => ?_)
        · exact absurd c_2 (fun _ => grow_no (by omega) hv0)
        · refine lv_iload hx hb dX7_stepsTo_40 (lv_at hl 5 rfl) ?_
          subst hQe
          exact W.iret (v := a0.2) hx hb hr (fun t ht hW => ⟨⟨a0.2, (), rfl, (by rw [hE0, L_X7_stepsTo_26]), trivial⟩, hS.F ht⟩) hS.2.2 dX7_stepsTo_42
      | succ n0 ih0 =>
        intro i0 hi0 a0 H locs ls hP hD hS hl hv0 hE0
        refine lv_iload hx hb dX7_stepsTo_26 (lv_at hl 4 rfl) ?_
        refine lv_iload_n hx hb dX7_stepsTo_28 rfl (lv_at hl 1 rfl) ?_
        refine lv_aload_n hx hb dX7_stepsTo_29 rfl (lv_at hl 0 rfl) ?_
        refine va_get (D := D) (ci := 14) (v := .int (nI C)) (C := RX7) (T := TX7) (N := 18) hx hb hts in_X7 hown hK hP 0 rfl rfl 2 (by decide) (hts _ q_1270) (fun _ h9 => h9) rfl dX7_stepsTo_30 ?_
        refine lv_irem hx hb dX7_stepsTo_33 (nI_nz hC0 hC) ?_
        have hPc := hP.sub (ws' := []) [] rfl
        have hDc := hD.sub (ws' := []) [] (by decide) rfl
        have hFc := va_free (wc := []) hD (va_S_up hS hA) hA [] rfl
        refine va_calli (va_runS (As := [.int a0.1, .int ((nI kk) - (nI kk) / (nI C) * (nI C))]) (rest := []) ⟨hx, hb, hml, hown, hts⟩ (c_X7_has l D a0.1 ((nI kk) - (nI kk) / (nI C) * (nI C)) H.size ) (cwS 2 hts (gi_S q_1361 q_1362 q_104 q_1363) rfl rfl rfl (by decide +kernel) ⟨Nat.le_of_ble_eq_true rfl, Nat.le_of_ble_eq_true rfl⟩) ⟨cPre_blind, cPre_mk hPc hK hDc hN (lwZ_for hZ (va_S_up hS hA) hFc)⟩ rfl rfl hl.1 rfl (lv_room (Nat.le_of_ble_eq_true rfl)) dX7_stepsTo_34 ⟨(Nat.le_of_ble_eq_true rfl), (Nat.le_of_ble_eq_true rfl)⟩) hS (fun q h1 h2 => absurd h2 (Nat.not_le.mpr h1)) (fun q h => Nat.le_trans hS.1 h) (fun r_34 u t H1 locs ht hvm hw hBk hz1 hk1 hS => ?_)
        have hP := va_P_ro hP hk1
        obtain ⟨hw, z_3⟩ := hw
        rw [hw] at z_3
        subst hw
        clear hBk hvm ht u hz1 hk1
        clear hPc hDc hFc; clear t
        generalize H1 = H at hP hS ⊢
        refine lv_if_eq (tgt := 43) hx hb dX7_stepsTo_37 (by decide) (fun c_4 => ?_) (fun c_4 => ?_)
        · refine lv_iload hx hb dX7_stepsTo_43 (lv_at hl 4 rfl) ?_
          refine lv_istore (lv' := [(6, .int a0.1), (0, .ref hM), (1, .int (nI kk)), (2, .int x2), (3, .int (T_X7_stepsTo_9 R C fi br K kk)), (4, .int a0.1), (5, .int a0.2)]) hx hb dX7_stepsTo_45 hl (by decide) rfl (fun ls hl => ?_)
          refine lv_iconst (v := 0) hx hb dX7_stepsTo_47 (by decide) ?_
          refine lv_istore (lv' := [(7, .int 0), (6, .int a0.1), (0, .ref hM), (1, .int (nI kk)), (2, .int x2), (3, .int (T_X7_stepsTo_9 R C fi br K kk)), (4, .int a0.1), (5, .int a0.2)]) hx hb dX7_stepsTo_48 hl (by decide) rfl (fun ls hl => ?_)
          have lp_50 : ∀ (n1 i1 : Nat), i1 + n1 = R → ∀ (a1 : Int32) (H : Heap) (locs : List Loc) (ls : Array Slot), va_P D vwCl [(hM, .inr (14, [.int th, .int (nI R), .int (nI C), .int fi, .int di, .int he, .int br, .int pa, .int gu, .int (nI sc), .int cl, .int se, .int lo, .int lu, .int rf, .ref kl, .ref kc, .ref hB])), (kl, .inr (6, [.int km, .ref kd, .int (nI K)]))] H → va_D A [(hM, .inr (14, [.int th, .int (nI R), .int (nI C), .int fi, .int di, .int he, .int br, .int pa, .int gu, .int (nI sc), .int cl, .int se, .int lo, .int lu, .int rf, .ref kl, .ref kc, .ref hB])), (kl, .inr (6, [.int km, .ref kd, .int (nI K)]))] → va_S (fun q : Nat => s.heap.size ≤ q) s.heap H locs → lv_has ls 8 [(0, .ref hM), (1, .int (nI kk)), (2, .int x2), (3, .int (T_X7_stepsTo_9 R C fi br K kk)), (4, .int a0.1), (5, .int a0.2), (6, .int a1), (7, .int (nI i1))] → (∀ (H : Heap) (locs : List Loc) (ls : Array Slot), va_P D vwCl [(hM, .inr (14, [.int th, .int (nI R), .int (nI C), .int fi, .int di, .int he, .int br, .int pa, .int gu, .int (nI sc), .int cl, .int se, .int lo, .int lu, .int rf, .ref kl, .ref kc, .ref hB])), (kl, .inr (6, [.int km, .ref kd, .int (nI K)]))] H → va_D A [(hM, .inr (14, [.int th, .int (nI R), .int (nI C), .int fi, .int di, .int he, .int br, .int pa, .int gu, .int (nI sc), .int cl, .int se, .int lo, .int lu, .int rf, .ref kl, .ref kc, .ref hB])), (kl, .inr (6, [.int km, .ref kd, .int (nI K)]))] → va_S (fun q : Nat => s.heap.size ≤ q) s.heap H locs → lv_has ls 8 [(0, .ref hM), (1, .int (nI kk)), (2, .int x2), (3, .int (T_X7_stepsTo_9 R C fi br K kk)), (4, .int a0.1), (5, .int a0.2), (6, .int (itr (fun i a => S_X7_stepsTo_50 R C fi br K kk x2 a0 i a) n1 i1 a1)), (7, .int (nI R))] → W p l e ({ frames := 2, cells := 0, slots := 0, locals := 44 } : Room) s m ([.ref hM, .int (nI kk), .int x2] : List Value).toArray below meth c H locs 0 0 Q (F0 m 94 ls [])) → W p l e ({ frames := 2, cells := 0, slots := 0, locals := 44 } : Room) s m ([.ref hM, .int (nI kk), .int x2] : List Value).toArray below meth c H locs 0 0 Q (F0 m 50 ls []) := by
            intro n1
            induction n1 with
            | zero =>
              intro i1 hi1 a1 H locs ls hP hD hS hl kon
              have he1 : i1 = R := by omega
              refine lv_iload hx hb dX7_stepsTo_50 (lv_at hl 7 rfl) ?_
              refine lv_aload_n hx hb dX7_stepsTo_52 rfl (lv_at hl 0 rfl) ?_
              refine va_get (D := D) (ci := 14) (v := .int (nI R)) (C := RX7) (T := TX7) (N := 18) hx hb hts in_X7 hown hK hP 0 rfl rfl 1 (by decide) (hts _ q_1269) (fun _ h9 => h9) rfl dX7_stepsTo_53 ?_
              refine lv_icmp_ge (tgt := 94) hx hb dX7_stepsTo_56 (by decide) (fun c_5 => ?_) (fun c_5 => ?_)
              · subst he1
                exact kon H locs ls hP hD hS (lv_sub hl [0, 1, 2, 3, 4, 5, 6, 7] rfl)
              · exact absurd (nI_le (a := R) (b := i1) (by omega) (by omega)) c_5
            | succ n1 ih1 =>
              intro i1 hi1 a1 H locs ls hP hD hS hl kon
              refine lv_iload hx hb dX7_stepsTo_50 (lv_at hl 7 rfl) ?_
              refine lv_aload_n hx hb dX7_stepsTo_52 rfl (lv_at hl 0 rfl) ?_
              refine va_get (D := D) (ci := 14) (v := .int (nI R)) (C := RX7) (T := TX7) (N := 18) hx hb hts in_X7 hown hK hP 0 rfl rfl 1 (by decide) (hts _ q_1269) (fun _ h9 => h9) rfl dX7_stepsTo_53 ?_
              refine lv_icmp_ge (tgt := 94) hx hb dX7_stepsTo_56 (by decide) (fun c_6 => ?_) (fun c_6 => ?_)
              · exact absurd c_6 (nI_ge (a := i1) (b := R) (by omega) (by omega))
              · refine lv_aload_n hx hb dX7_stepsTo_59 rfl (lv_at hl 0 rfl) ?_
                refine lv_iload_n hx hb dX7_stepsTo_60 rfl (lv_at hl 3 rfl) ?_
                refine lv_iload_n hx hb dX7_stepsTo_61 rfl (lv_at hl 2 rfl) ?_
                refine lv_iconst (v := (-1)) hx hb dX7_stepsTo_62 (by decide) ?_
                refine lv_ixor hx hb dX7_stepsTo_63 ?_
                refine lv_iand hx hb dX7_stepsTo_64 ?_
                refine lv_iload hx hb dX7_stepsTo_65 (lv_at hl 7 rfl) ?_
                have hPc := hP.sub (ws' := [(hM, .inr (14, [.int th, .int (nI R), .int (nI C), .int fi, .int di, .int he, .int br, .int pa, .int gu, .int (nI sc), .int cl, .int se, .int lo, .int lu, .int rf, .ref kl, .ref kc, .ref hB]))]) [0] rfl
                have hDc := hD.sub (ws' := [(hM, .inr (14, [.int th, .int (nI R), .int (nI C), .int fi, .int di, .int he, .int br, .int pa, .int gu, .int (nI sc), .int cl, .int se, .int lo, .int lu, .int rf, .ref kl, .ref kc, .ref hB]))]) [0] (by decide) rfl
                have hFc := va_free (wc := [(hM, .inr (14, [.int th, .int (nI R), .int (nI C), .int fi, .int di, .int he, .int br, .int pa, .int gu, .int (nI sc), .int cl, .int se, .int lo, .int lu, .int rf, .ref kl, .ref kc, .ref hB]))]) hD (va_S_up hS hA) hA [0] rfl
                refine va_calli (va_runV (As := [.int ((T_X7_stepsTo_9 R C fi br K kk) &&& (x2 ^^^ (-1))), .int (nI i1)]) (rest := []) ⟨hx, hb, hml, hown, hts⟩ (c_X7_rowOf l D hM th R C fi di he br pa gu sc cl se lo lu rf kl kc hB ((T_X7_stepsTo_9 R C fi br K kk) &&& (x2 ^^^ (-1))) (nI i1) H.size ) (cwV 2 hts (gi_V q_1415 q_1417 q_61 q_104 q_1418) rfl rfl rfl (by decide +kernel) ⟨Nat.le_of_ble_eq_true rfl, Nat.le_of_ble_eq_true rfl⟩) ⟨cPre_blind, va_recv hK hP (ci := 14) (q0 := 0) rfl rfl, cPre_mk hPc hK hDc hN (lwZ_for hZ (va_S_up hS hA) hFc)⟩ rfl rfl hl.1 rfl (lv_room (Nat.le_of_ble_eq_true rfl)) dX7_stepsTo_67 ⟨(Nat.le_of_ble_eq_true rfl), (Nat.le_of_ble_eq_true rfl)⟩) hS (fun q h1 h2 => absurd h2 (Nat.not_le.mpr h1)) (fun q h => Nat.le_trans hS.1 h) (fun r_67 u t H1 locs ht hvm hw hBk hz1 hk1 hS => ?_)
                have hP := va_P_ro hP hk1
                subst hw
                clear hBk hvm ht u hz1 hk1
                clear hPc hDc hFc; clear t
                generalize H1 = H at hP hS ⊢
                refine lv_iload hx hb dX7_stepsTo_70 (lv_at hl 4 rfl) ?_
                refine lv_iand hx hb dX7_stepsTo_72 ?_
                refine lv_if_eq (tgt := 88) hx hb dX7_stepsTo_73 (by decide) (fun c_7 => ?_) (fun c_7 => ?_)
                · refine lv_iinc (v := nI (i1 + 1)) (lv' := [(7, .int (nI (i1 + 1))), (0, .ref hM), (1, .int (nI kk)), (2, .int x2), (3, .int (T_X7_stepsTo_9 R C fi br K kk)), (4, .int a0.1), (5, .int a0.2), (6, .int a1)]) hx hb dX7_stepsTo_88 hl (k := 7) rfl (nI_1 _) (by decide) rfl (fun ls hl => ?_)
                  refine lv_goto (tgt := 50) hx hb dX7_stepsTo_91 (by decide) ?_
                  have hE : S_X7_stepsTo_50 R C fi br K kk x2 a0 i1 a1 = a1 := (by unfold S_X7_stepsTo_50; rw [if_pos c_7])
                  have hl : lv_has ls 8 [(0, .ref hM), (1, .int (nI kk)), (2, .int x2), (3, .int (T_X7_stepsTo_9 R C fi br K kk)), (4, .int a0.1), (5, .int a0.2), (6, .int a1), (7, .int (nI (i1 + 1)))] := lv_sub hl [1, 2, 3, 4, 5, 6, 7, 0] rfl
                  have hP := hP.sub (ws' := [(hM, .inr (14, [.int th, .int (nI R), .int (nI C), .int fi, .int di, .int he, .int br, .int pa, .int gu, .int (nI sc), .int cl, .int se, .int lo, .int lu, .int rf, .ref kl, .ref kc, .ref hB])), (kl, .inr (6, [.int km, .ref kd, .int (nI K)]))]) [0, 1] rfl
                  have hD := hD.sub (ws' := [(hM, .inr (14, [.int th, .int (nI R), .int (nI C), .int fi, .int di, .int he, .int br, .int pa, .int gu, .int (nI sc), .int cl, .int se, .int lo, .int lu, .int rf, .ref kl, .ref kc, .ref hB])), (kl, .inr (6, [.int km, .ref kd, .int (nI K)]))]) [0, 1] (by decide) rfl
                  exact ih1 (i1 + 1) (by omega) (S_X7_stepsTo_50 R C fi br K kk x2 a0 i1 a1) H locs ls (by (try rw [hE]); exact hP) (by (try rw [hE]); exact hD) hS (by (try rw [hE]); exact hl) kon
                · refine lv_iload hx hb dX7_stepsTo_76 (lv_at hl 6 rfl) ?_
                  refine lv_aload_n hx hb dX7_stepsTo_78 rfl (lv_at hl 0 rfl) ?_
                  refine lv_iload_n hx hb dX7_stepsTo_79 rfl (lv_at hl 3 rfl) ?_
                  refine lv_iload hx hb dX7_stepsTo_80 (lv_at hl 7 rfl) ?_
                  have hPc := hP.sub (ws' := [(hM, .inr (14, [.int th, .int (nI R), .int (nI C), .int fi, .int di, .int he, .int br, .int pa, .int gu, .int (nI sc), .int cl, .int se, .int lo, .int lu, .int rf, .ref kl, .ref kc, .ref hB]))]) [0] rfl
                  have hDc := hD.sub (ws' := [(hM, .inr (14, [.int th, .int (nI R), .int (nI C), .int fi, .int di, .int he, .int br, .int pa, .int gu, .int (nI sc), .int cl, .int se, .int lo, .int lu, .int rf, .ref kl, .ref kc, .ref hB]))]) [0] (by decide) rfl
                  have hFc := va_free (wc := [(hM, .inr (14, [.int th, .int (nI R), .int (nI C), .int fi, .int di, .int he, .int br, .int pa, .int gu, .int (nI sc), .int cl, .int se, .int lo, .int lu, .int rf, .ref kl, .ref kc, .ref hB]))]) hD (va_S_up hS hA) hA [0] rfl
                  refine va_calli (va_runV (As := [.int (T_X7_stepsTo_9 R C fi br K kk), .int (nI i1)]) (rest := [.int a1]) ⟨hx, hb, hml, hown, hts⟩ (c_X7_rowOf l D hM th R C fi di he br pa gu sc cl se lo lu rf kl kc hB (T_X7_stepsTo_9 R C fi br K kk) (nI i1) H.size ) (cwV 2 hts (gi_V q_1415 q_1417 q_61 q_104 q_1418) rfl rfl rfl (by decide +kernel) ⟨Nat.le_of_ble_eq_true rfl, Nat.le_of_ble_eq_true rfl⟩) ⟨cPre_blind, va_recv hK hP (ci := 14) (q0 := 0) rfl rfl, cPre_mk hPc hK hDc hN (lwZ_for hZ (va_S_up hS hA) hFc)⟩ rfl rfl hl.1 rfl (lv_room (Nat.le_of_ble_eq_true rfl)) dX7_stepsTo_82 ⟨(Nat.le_of_ble_eq_true rfl), (Nat.le_of_ble_eq_true rfl)⟩) hS (fun q h1 h2 => absurd h2 (Nat.not_le.mpr h1)) (fun q h => Nat.le_trans hS.1 h) (fun r_82 u t H1 locs ht hvm hw hBk hz1 hk1 hS => ?_)
                  have hP := va_P_ro hP hk1
                  subst hw
                  clear hBk hvm ht u hz1 hk1
                  clear hPc hDc hFc; clear t
                  generalize H1 = H at hP hS ⊢
                  refine lv_ior hx hb dX7_stepsTo_85 ?_
                  refine lv_istore (lv' := [(6, .int (a1 ||| (F_X7_rowOf C (T_X7_stepsTo_9 R C fi br K kk) (nI i1)))), (0, .ref hM), (1, .int (nI kk)), (2, .int x2), (3, .int (T_X7_stepsTo_9 R C fi br K kk)), (4, .int a0.1), (5, .int a0.2), (7, .int (nI i1))]) hx hb dX7_stepsTo_86 hl (by decide) rfl (fun ls hl => ?_)
                  refine lv_iinc (v := nI (i1 + 1)) (lv' := [(7, .int (nI (i1 + 1))), (6, .int (a1 ||| (F_X7_rowOf C (T_X7_stepsTo_9 R C fi br K kk) (nI i1)))), (0, .ref hM), (1, .int (nI kk)), (2, .int x2), (3, .int (T_X7_stepsTo_9 R C fi br K kk)), (4, .int a0.1), (5, .int a0.2)]) hx hb dX7_stepsTo_88 hl (k := 7) rfl (nI_1 _) (by decide) rfl (fun ls hl => ?_)
                  refine lv_goto (tgt := 50) hx hb dX7_stepsTo_91 (by decide) ?_
                  have hE : S_X7_stepsTo_50 R C fi br K kk x2 a0 i1 a1 = a1 ||| (F_X7_rowOf C (T_X7_stepsTo_9 R C fi br K kk) (nI i1)) := (by unfold S_X7_stepsTo_50; rw [if_neg c_7])
                  have hl : lv_has ls 8 [(0, .ref hM), (1, .int (nI kk)), (2, .int x2), (3, .int (T_X7_stepsTo_9 R C fi br K kk)), (4, .int a0.1), (5, .int a0.2), (6, .int (a1 ||| (F_X7_rowOf C (T_X7_stepsTo_9 R C fi br K kk) (nI i1)))), (7, .int (nI (i1 + 1)))] := lv_sub hl [2, 3, 4, 5, 6, 7, 1, 0] rfl
                  have hP := hP.sub (ws' := [(hM, .inr (14, [.int th, .int (nI R), .int (nI C), .int fi, .int di, .int he, .int br, .int pa, .int gu, .int (nI sc), .int cl, .int se, .int lo, .int lu, .int rf, .ref kl, .ref kc, .ref hB])), (kl, .inr (6, [.int km, .ref kd, .int (nI K)]))]) [0, 1] rfl
                  have hD := hD.sub (ws' := [(hM, .inr (14, [.int th, .int (nI R), .int (nI C), .int fi, .int di, .int he, .int br, .int pa, .int gu, .int (nI sc), .int cl, .int se, .int lo, .int lu, .int rf, .ref kl, .ref kc, .ref hB])), (kl, .inr (6, [.int km, .ref kd, .int (nI K)]))]) [0, 1] (by decide) rfl
                  exact ih1 (i1 + 1) (by omega) (S_X7_stepsTo_50 R C fi br K kk x2 a0 i1 a1) H locs ls (by (try rw [hE]); exact hP) (by (try rw [hE]); exact hD) hS (by (try rw [hE]); exact hl) kon
          have hl : lv_has ls 8 [(0, .ref hM), (1, .int (nI kk)), (2, .int x2), (3, .int (T_X7_stepsTo_9 R C fi br K kk)), (4, .int a0.1), (5, .int a0.2), (6, .int a0.1), (7, .int (nI 0))] := lv_sub hl [2, 3, 4, 5, 6, 7, 1, 0] rfl
          refine lp_50 R 0 (by omega) a0.1 H locs ls hP hD hS hl ?_
          clear lp_50 hP hD hS hl
          intro H locs ls hP hD hS hl
          refine lv_iload hx hb dX7_stepsTo_94 (lv_at hl 6 rfl) ?_
          refine lv_iload hx hb dX7_stepsTo_96 (lv_at hl 4 rfl) ?_
          refine lv_icmp_ne (tgt := 103) hx hb dX7_stepsTo_98 (by decide) (fun c_8 => ?_) (fun c_8 => ?_)
          · refine lv_iload hx hb dX7_stepsTo_103 (lv_at hl 6 rfl) ?_
            refine lv_istore (lv' := [(4, .int (itr (fun i a => S_X7_stepsTo_50 R C fi br K kk x2 a0 i a) R 0 a0.1)), (0, .ref hM), (1, .int (nI kk)), (2, .int x2), (3, .int (T_X7_stepsTo_9 R C fi br K kk)), (5, .int a0.2), (6, .int (itr (fun i a => S_X7_stepsTo_50 R C fi br K kk x2 a0 i a) R 0 a0.1)), (7, .int (nI R))]) hx hb dX7_stepsTo_105 hl (by decide) rfl (fun ls hl => ?_)
            refine lv_iinc (v := a0.2 + 2) (lv' := [(5, .int (a0.2 + 2)), (4, .int (itr (fun i a => S_X7_stepsTo_50 R C fi br K kk x2 a0 i a) R 0 a0.1)), (0, .ref hM), (1, .int (nI kk)), (2, .int x2), (3, .int (T_X7_stepsTo_9 R C fi br K kk)), (6, .int (itr (fun i a => S_X7_stepsTo_50 R C fi br K kk x2 a0 i a) R 0 a0.1)), (7, .int (nI R))]) hx hb dX7_stepsTo_107 hl (k := 5) rfl (rfl) (by decide) rfl (fun ls hl => ?_)
            refine lv_goto (tgt := 26) hx hb dX7_stepsTo_110 (by decide) ?_
            have hl : lv_has ls 8 [(0, .ref hM), (1, .int (nI kk)), (2, .int x2), (3, .int (T_X7_stepsTo_9 R C fi br K kk)), (4, .int (itr (fun i a => S_X7_stepsTo_50 R C fi br K kk x2 a0 i a) R 0 a0.1)), (5, .int (a0.2 + 2))] := lv_sub hl [2, 3, 4, 5, 1, 0] rfl
            have hP := hP.sub (ws' := [(hM, .inr (14, [.int th, .int (nI R), .int (nI C), .int fi, .int di, .int he, .int br, .int pa, .int gu, .int (nI sc), .int cl, .int se, .int lo, .int lu, .int rf, .ref kl, .ref kc, .ref hB])), (kl, .inr (6, [.int km, .ref kd, .int (nI K)]))]) [0, 1] rfl
            have hD := hD.sub (ws' := [(hM, .inr (14, [.int th, .int (nI R), .int (nI C), .int fi, .int di, .int he, .int br, .int pa, .int gu, .int (nI sc), .int cl, .int se, .int lo, .int lu, .int rf, .ref kl, .ref kc, .ref hB])), (kl, .inr (6, [.int km, .ref kd, .int (nI K)]))]) [0, 1] (by decide) rfl
            exact ih0 (i0 + 1) (by omega) ((itr (fun i a => S_X7_stepsTo_50 R C fi br K kk x2 a0 i a) R 0 a0.1), a0.2 + 2) H locs ls hP hD hS hl (grow_n hv0 (by assumption) (st_up _)) (by rw [hE0, L_X7_stepsTo_26, if_pos c_4, if_neg c_8])
          · refine lv_iconst (v := (-1)) hx hb dX7_stepsTo_101 (by decide) ?_
            subst hQe
            exact W.iret (v := (-1)) hx hb hr (fun t ht hW => ⟨⟨(-1), (), rfl, (by rw [hE0, L_X7_stepsTo_26, if_pos c_4, if_pos c_8]), trivial⟩, hS.F ht⟩) hS.2.2 dX7_stepsTo_102
        · refine lv_iload hx hb dX7_stepsTo_40 (lv_at hl 5 rfl) ?_
          subst hQe
          exact W.iret (v := a0.2) hx hb hr (fun t ht hW => ⟨⟨a0.2, (), rfl, (by rw [hE0, L_X7_stepsTo_26, if_neg c_4]), trivial⟩, hS.F ht⟩) hS.2.2 dX7_stepsTo_42
    have hl : lv_has ls 8 [(0, .ref hM), (1, .int (nI kk)), (2, .int x2), (3, .int (T_X7_stepsTo_9 R C fi br K kk)), (4, .int (F_X7_rowOf C (T_X7_stepsTo_9 R C fi br K kk) ((nI kk) / (nI C)))), (5, .int 1)] := lv_sub hl [3, 4, 5, 2, 1, 0] rfl
    exact lp_26 33 0 (by omega) (F_X7_rowOf C (T_X7_stepsTo_9 R C fi br K kk) ((nI kk) / (nI C)), 1) H locs ls hP hD hS hl (Nat.zero_le _) (by rfl)
  rw [hHe, hLe] at hgoal
  exact hgoal

def S_X7_leastOf_4 (R : Nat) (C : Nat) (fi : Int32) (br : Int32) (K : Nat) (x1 : Int32) (i0 : Nat) (a0 : Int32) : Int32 := (if (F_X7_has fi (nI i0)) = 0 then a0 else (if (F_X7_stepsTo R C fi br K i0 x1) = (-1) then a0 else (if a0 = (-1) then F_X7_stepsTo R C fi br K i0 x1 else (if a0 ≤ (F_X7_stepsTo R C fi br K i0 x1) then a0 else F_X7_stepsTo R C fi br K i0 x1))))
def F_X7_leastOf (R : Nat) (C : Nat) (fi : Int32) (br : Int32) (K : Nat) (x1 : Int32) : Int32 := (itr (fun i a => S_X7_leastOf_4 R C fi br K x1 i a) K 0 (-1))
set_option maxHeartbeats 4000000 in
set_option maxRecDepth 100000 in
theorem c_X7_leastOf (l : Launch) (D : va_G) (hM : Nat) (th : Int32) (R : Nat) (C : Nat) (fi : Int32) (di : Int32) (he : Int32) (br : Int32) (pa : Int32) (gu : Int32) (sc : Nat) (cl : Int32) (se : Int32) (lo : Int32) (lu : Int32) (rf : Int32) (kl : Nat) (kc : Nat) (hB : Nat) (km : Int32) (kd : Nat) (K : Nat) (x1 : Int32) (sz : Nat) (hR : R ≤ 5) (hC : C ≤ 5) (hC0 : 0 < C) (hKb : K ≤ 25) : Met l yX7_leastOf (Cond.code yX7_leastOf cX7_leastOf 5 (some .int) :: lwAll) ({ frames := 3, cells := 0, slots := 0, locals := 71 } : Room) (va_Pc [.ref hM, .int x1] (cPre D (lwTY D) [(hM, .inr (14, [.int th, .int (nI R), .int (nI C), .int fi, .int di, .int he, .int br, .int pa, .int gu, .int (nI sc), .int cl, .int se, .int lo, .int lu, .int rf, .ref kl, .ref kc, .ref hB])), (kl, .inr (6, [.int km, .ref kd, .int (nI K)]))] sz)) (va_Qi (fun (r : Int32) (_ : Unit) => r = (F_X7_leastOf R C fi br K x1)) (fun _ _ => True) (fun q : Nat => sz ≤ q)) 0 0 (fun q : Nat => sz ≤ q) := by
  refine Met.ofW (cc := cX7_leastOf) (maxL := 5) (ret := (some .int)) (by decide) rfl ?_
  intro p e s m args below meth c s₁ B hml hv
  obtain ⟨rfl, hsz, hP, hK, hD0, hN, hZ⟩ := hv
  have hx := B.exec
  have hb := B.bytes
  have hr := B.returns
  have hts : ∀ wd ∈ lwAll, wd.before ([.ref hM, .int x1] : List Value).toArray s = true := fun wd h => atoms_spec (ws := (Cond.code yX7_leastOf cX7_leastOf 5 (some .int) :: lwAll)) B.pre wd (List.mem_cons_of_mem _ h)
  have hown : s.vm.findClass RX7 = some m.cls := findClass_of_methodNamed B.named
  have hlocks := B.notSynchronized
  subst hsz
  have hD := hD0.self (sz := s.heap.size)
  have hl := lv_entry ([.ref hM, .int x1]) (n := 5) (Nat.le_of_ble_eq_true rfl)
  rw [lg_entry_eq]
  generalize (lg_sl ([.ref hM, .int x1]) ++ List.replicate (5 - (lg_sl ([.ref hM, .int x1])).length) Slot.unset).toArray = ls at hl ⊢
  have hl : lv_has ls 5 [(0, .ref hM), (1, .int x1)] := hl
  have hS : va_S (fun q : Nat => s.heap.size ≤ q) s.heap s.heap [] := va_S.rf
  generalize hQe : MQ below (va_Qi (fun (r : Int32) (_ : Unit) => r = (F_X7_leastOf R C fi br K x1)) (fun _ _ => True) (fun q : Nat => s.heap.size ≤ q)) ([.ref hM, .int x1] : List Value).toArray s 0 0 (fun q : Nat => s.heap.size ≤ q) = Q
  have hP : va_P D vwCl [(hM, .inr (14, [.int th, .int (nI R), .int (nI C), .int fi, .int di, .int he, .int br, .int pa, .int gu, .int (nI sc), .int cl, .int se, .int lo, .int lu, .int rf, .ref kl, .ref kc, .ref hB])), (kl, .inr (6, [.int km, .ref kd, .int (nI K)]))] s.heap := hP
  obtain ⟨A, hAe⟩ : ∃ A, A = va_A [(hM, .inr (14, [.int th, .int (nI R), .int (nI C), .int fi, .int di, .int he, .int br, .int pa, .int gu, .int (nI sc), .int cl, .int se, .int lo, .int lu, .int rf, .ref kl, .ref kc, .ref hB])), (kl, .inr (6, [.int km, .ref kd, .int (nI K)]))] s.heap.size := ⟨_, rfl⟩
  rw [← hAe] at hD hZ
  have hA : ∀ q : Nat, s.heap.size ≤ q → A q := fun q h => by rw [hAe]; exact Or.inr h
  obtain ⟨H, hHe⟩ : ∃ H, H = s.heap := ⟨_, rfl⟩
  obtain ⟨locs, hLe⟩ : ∃ L : List Loc, L = [] := ⟨_, rfl⟩
  have hP : va_P D vwCl [(hM, .inr (14, [.int th, .int (nI R), .int (nI C), .int fi, .int di, .int he, .int br, .int pa, .int gu, .int (nI sc), .int cl, .int se, .int lo, .int lu, .int rf, .ref kl, .ref kc, .ref hB])), (kl, .inr (6, [.int km, .ref kd, .int (nI K)]))] H := by rw [hHe]; exact hP
  have hS : va_S (fun q : Nat => s.heap.size ≤ q) s.heap H locs := by rw [hHe, hLe]; exact hS
  have hgoal : W p l e ({ frames := 3, cells := 0, slots := 0, locals := 71 } : Room) s m ([.ref hM, .int x1] : List Value).toArray below meth c H locs 0 0 Q (F0 m 0 ls []) := by
    clear hHe hLe
    refine lv_iconst (v := (-1)) hx hb dX7_leastOf_0 (by decide) ?_
    refine lv_istore_n (lv' := [(2, .int (-1)), (0, .ref hM), (1, .int x1)]) hx hb dX7_leastOf_1 rfl hl (by decide) rfl (fun ls hl => ?_)
    refine lv_iconst (v := 0) hx hb dX7_leastOf_2 (by decide) ?_
    refine lv_istore_n (lv' := [(3, .int 0), (2, .int (-1)), (0, .ref hM), (1, .int x1)]) hx hb dX7_leastOf_3 rfl hl (by decide) rfl (fun ls hl => ?_)
    have lp_4 : ∀ (n0 i0 : Nat), i0 + n0 = K → ∀ (a0 : Int32) (H : Heap) (locs : List Loc) (ls : Array Slot), va_P D vwCl [(hM, .inr (14, [.int th, .int (nI R), .int (nI C), .int fi, .int di, .int he, .int br, .int pa, .int gu, .int (nI sc), .int cl, .int se, .int lo, .int lu, .int rf, .ref kl, .ref kc, .ref hB])), (kl, .inr (6, [.int km, .ref kd, .int (nI K)]))] H → va_D A [(hM, .inr (14, [.int th, .int (nI R), .int (nI C), .int fi, .int di, .int he, .int br, .int pa, .int gu, .int (nI sc), .int cl, .int se, .int lo, .int lu, .int rf, .ref kl, .ref kc, .ref hB])), (kl, .inr (6, [.int km, .ref kd, .int (nI K)]))] → va_S (fun q : Nat => s.heap.size ≤ q) s.heap H locs → lv_has ls 5 [(0, .ref hM), (1, .int x1), (2, .int a0), (3, .int (nI i0))] → (∀ (H : Heap) (locs : List Loc) (ls : Array Slot), va_P D vwCl [(hM, .inr (14, [.int th, .int (nI R), .int (nI C), .int fi, .int di, .int he, .int br, .int pa, .int gu, .int (nI sc), .int cl, .int se, .int lo, .int lu, .int rf, .ref kl, .ref kc, .ref hB])), (kl, .inr (6, [.int km, .ref kd, .int (nI K)]))] H → va_D A [(hM, .inr (14, [.int th, .int (nI R), .int (nI C), .int fi, .int di, .int he, .int br, .int pa, .int gu, .int (nI sc), .int cl, .int se, .int lo, .int lu, .int rf, .ref kl, .ref kc, .ref hB])), (kl, .inr (6, [.int km, .ref kd, .int (nI K)]))] → va_S (fun q : Nat => s.heap.size ≤ q) s.heap H locs → lv_has ls 5 [(0, .ref hM), (1, .int x1), (2, .int (itr (fun i a => S_X7_leastOf_4 R C fi br K x1 i a) n0 i0 a0)), (3, .int (nI K))] → W p l e ({ frames := 3, cells := 0, slots := 0, locals := 71 } : Room) s m ([.ref hM, .int x1] : List Value).toArray below meth c H locs 0 0 Q (F0 m 64 ls [])) → W p l e ({ frames := 3, cells := 0, slots := 0, locals := 71 } : Room) s m ([.ref hM, .int x1] : List Value).toArray below meth c H locs 0 0 Q (F0 m 4 ls []) := by
      intro n0
      induction n0 with
      | zero =>
        intro i0 hi0 a0 H locs ls hP hD hS hl kon
        have he0 : i0 = K := by omega
        refine lv_iload_n hx hb dX7_leastOf_4 rfl (lv_at hl 3 rfl) ?_
        refine lv_aload_n hx hb dX7_leastOf_5 rfl (lv_at hl 0 rfl) ?_
        refine va_get (D := D) (ci := 14) (v := .ref kl) (C := RX7) (T := TX7) (N := 18) hx hb hts in_X7 hown hK hP 0 rfl rfl 15 (by decide) (hts _ q_1283) (fun _ h9 => h9) rfl dX7_leastOf_6 ?_
        have hPc := hP.sub (ws' := [(kl, .inr (6, [.int km, .ref kd, .int (nI K)]))]) [1] rfl
        have hDc := hD.sub (ws' := [(kl, .inr (6, [.int km, .ref kd, .int (nI K)]))]) [1] (by decide) rfl
        have hFc := va_free (wc := [(kl, .inr (6, [.int km, .ref kd, .int (nI K)]))]) hD (va_S_up hS hA) hA [1] rfl
        refine va_calli (va_runV (As := []) (rest := [.int (nI i0)]) ⟨hx, hb, hml, hown, hts⟩ (c_Jx4a65c_size_8abf5 l D kl km kd K H.size ) (cwV 0 hts (gi_V q_1263 q_1264 q_1265 q_107 q_1266) rfl rfl rfl (by decide +kernel) ⟨Nat.le_of_ble_eq_true rfl, Nat.le_of_ble_eq_true rfl⟩) ⟨cPre_blind, va_recv hK hP (ci := 6) (q0 := 1) rfl rfl, cPre_mk hPc hK hDc hN (lwZ_for hZ (va_S_up hS hA) hFc)⟩ rfl rfl hl.1 rfl (lv_room (Nat.le_of_ble_eq_true rfl)) dX7_leastOf_9 ⟨(Nat.le_of_ble_eq_true rfl), (Nat.le_of_ble_eq_true rfl)⟩) hS (fun q h1 h2 => absurd h2 (Nat.not_le.mpr h1)) (fun q h => Nat.le_trans hS.1 h) (fun r_9 u t H1 locs ht hvm hw hBk hz1 hk1 hS => ?_)
        have hP := va_P_ro hP hk1
        subst hw
        clear hBk hvm ht u hz1 hk1
        clear hPc hDc hFc; clear t
        generalize H1 = H at hP hS ⊢
        refine lv_icmp_ge (tgt := 64) hx hb dX7_leastOf_12 (by decide) (fun c_1 => ?_) (fun c_1 => ?_)
        · subst he0
          exact kon H locs ls hP hD hS (lv_sub hl [0, 1, 2, 3] rfl)
        · exact absurd (nI_le (a := K) (b := i0) (by omega) (by omega)) c_1
      | succ n0 ih0 =>
        intro i0 hi0 a0 H locs ls hP hD hS hl kon
        refine lv_iload_n hx hb dX7_leastOf_4 rfl (lv_at hl 3 rfl) ?_
        refine lv_aload_n hx hb dX7_leastOf_5 rfl (lv_at hl 0 rfl) ?_
        refine va_get (D := D) (ci := 14) (v := .ref kl) (C := RX7) (T := TX7) (N := 18) hx hb hts in_X7 hown hK hP 0 rfl rfl 15 (by decide) (hts _ q_1283) (fun _ h9 => h9) rfl dX7_leastOf_6 ?_
        have hPc := hP.sub (ws' := [(kl, .inr (6, [.int km, .ref kd, .int (nI K)]))]) [1] rfl
        have hDc := hD.sub (ws' := [(kl, .inr (6, [.int km, .ref kd, .int (nI K)]))]) [1] (by decide) rfl
        have hFc := va_free (wc := [(kl, .inr (6, [.int km, .ref kd, .int (nI K)]))]) hD (va_S_up hS hA) hA [1] rfl
        refine va_calli (va_runV (As := []) (rest := [.int (nI i0)]) ⟨hx, hb, hml, hown, hts⟩ (c_Jx4a65c_size_8abf5 l D kl km kd K H.size ) (cwV 0 hts (gi_V q_1263 q_1264 q_1265 q_107 q_1266) rfl rfl rfl (by decide +kernel) ⟨Nat.le_of_ble_eq_true rfl, Nat.le_of_ble_eq_true rfl⟩) ⟨cPre_blind, va_recv hK hP (ci := 6) (q0 := 1) rfl rfl, cPre_mk hPc hK hDc hN (lwZ_for hZ (va_S_up hS hA) hFc)⟩ rfl rfl hl.1 rfl (lv_room (Nat.le_of_ble_eq_true rfl)) dX7_leastOf_9 ⟨(Nat.le_of_ble_eq_true rfl), (Nat.le_of_ble_eq_true rfl)⟩) hS (fun q h1 h2 => absurd h2 (Nat.not_le.mpr h1)) (fun q h => Nat.le_trans hS.1 h) (fun r_9 u t H1 locs ht hvm hw hBk hz1 hk1 hS => ?_)
        have hP := va_P_ro hP hk1
        subst hw
        clear hBk hvm ht u hz1 hk1
        clear hPc hDc hFc; clear t
        generalize H1 = H at hP hS ⊢
        refine lv_icmp_ge (tgt := 64) hx hb dX7_leastOf_12 (by decide) (fun c_2 => ?_) (fun c_2 => ?_)
        · exact absurd c_2 (nI_ge (a := i0) (b := K) (by omega) (by omega))
        · refine lv_aload_n hx hb dX7_leastOf_15 rfl (lv_at hl 0 rfl) ?_
          refine va_get (D := D) (ci := 14) (v := .int fi) (C := RX7) (T := TX7) (N := 18) hx hb hts in_X7 hown hK hP 0 rfl rfl 3 (by decide) (hts _ q_1271) (fun _ h9 => h9) rfl dX7_leastOf_16 ?_
          refine lv_iload_n hx hb dX7_leastOf_19 rfl (lv_at hl 3 rfl) ?_
          have hPc := hP.sub (ws' := []) [] rfl
          have hDc := hD.sub (ws' := []) [] (by decide) rfl
          have hFc := va_free (wc := []) hD (va_S_up hS hA) hA [] rfl
          refine va_calli (va_runS (As := [.int fi, .int (nI i0)]) (rest := []) ⟨hx, hb, hml, hown, hts⟩ (c_X7_has l D fi (nI i0) H.size ) (cwS 2 hts (gi_S q_1361 q_1362 q_104 q_1363) rfl rfl rfl (by decide +kernel) ⟨Nat.le_of_ble_eq_true rfl, Nat.le_of_ble_eq_true rfl⟩) ⟨cPre_blind, cPre_mk hPc hK hDc hN (lwZ_for hZ (va_S_up hS hA) hFc)⟩ rfl rfl hl.1 rfl (lv_room (Nat.le_of_ble_eq_true rfl)) dX7_leastOf_20 ⟨(Nat.le_of_ble_eq_true rfl), (Nat.le_of_ble_eq_true rfl)⟩) hS (fun q h1 h2 => absurd h2 (Nat.not_le.mpr h1)) (fun q h => Nat.le_trans hS.1 h) (fun r_20 u t H1 locs ht hvm hw hBk hz1 hk1 hS => ?_)
          have hP := va_P_ro hP hk1
          obtain ⟨hw, z_3⟩ := hw
          rw [hw] at z_3
          subst hw
          clear hBk hvm ht u hz1 hk1
          clear hPc hDc hFc; clear t
          generalize H1 = H at hP hS ⊢
          refine lv_if_eq (tgt := 35) hx hb dX7_leastOf_23 (by decide) (fun c_4 => ?_) (fun c_4 => ?_)
          · refine lv_iconst (v := (-1)) hx hb dX7_leastOf_35 (by decide) ?_
            refine lv_istore (lv' := [(4, .int (-1)), (0, .ref hM), (1, .int x1), (2, .int a0), (3, .int (nI i0))]) hx hb dX7_leastOf_36 hl (by decide) rfl (fun ls hl => ?_)
            refine lv_iload hx hb dX7_leastOf_38 (lv_at hl 0 rfl) ?_
            refine lv_iconst (v := (-1)) hx hb dX7_leastOf_40 (by decide) ?_
            refine lv_icmp_eq (tgt := 58) hx hb dX7_leastOf_41 (by decide) (fun c_5 => ?_) (fun c_5 => ?_)
            · refine lv_iinc (v := nI (i0 + 1)) (lv' := [(3, .int (nI (i0 + 1))), (4, .int (-1)), (0, .ref hM), (1, .int x1), (2, .int a0)]) hx hb dX7_leastOf_58 hl (k := 4) rfl (nI_1 _) (by decide) rfl (fun ls hl => ?_)
              refine lv_goto (tgt := 4) hx hb dX7_leastOf_61 (by decide) ?_
              have hE : S_X7_leastOf_4 R C fi br K x1 i0 a0 = a0 := (by unfold S_X7_leastOf_4; rw [if_pos c_4])
              have hl : lv_has ls 5 [(0, .ref hM), (1, .int x1), (2, .int a0), (3, .int (nI (i0 + 1)))] := lv_sub hl [2, 3, 4, 0] rfl
              have hP := hP.sub (ws' := [(hM, .inr (14, [.int th, .int (nI R), .int (nI C), .int fi, .int di, .int he, .int br, .int pa, .int gu, .int (nI sc), .int cl, .int se, .int lo, .int lu, .int rf, .ref kl, .ref kc, .ref hB])), (kl, .inr (6, [.int km, .ref kd, .int (nI K)]))]) [0, 1] rfl
              have hD := hD.sub (ws' := [(hM, .inr (14, [.int th, .int (nI R), .int (nI C), .int fi, .int di, .int he, .int br, .int pa, .int gu, .int (nI sc), .int cl, .int se, .int lo, .int lu, .int rf, .ref kl, .ref kc, .ref hB])), (kl, .inr (6, [.int km, .ref kd, .int (nI K)]))]) [0, 1] (by decide) rfl
              exact ih0 (i0 + 1) (by omega) (S_X7_leastOf_4 R C fi br K x1 i0 a0) H locs ls (by (try rw [hE]); exact hP) (by (try rw [hE]); exact hD) hS (by (try rw [hE]); exact hl) kon
            · exact absurd (by decide) c_5
          · refine lv_aload_n hx hb dX7_leastOf_26 rfl (lv_at hl 0 rfl) ?_
            refine lv_iload_n hx hb dX7_leastOf_27 rfl (lv_at hl 3 rfl) ?_
            refine lv_iload_n hx hb dX7_leastOf_28 rfl (lv_at hl 1 rfl) ?_
            have hPc := hP.sub (ws' := [(hM, .inr (14, [.int th, .int (nI R), .int (nI C), .int fi, .int di, .int he, .int br, .int pa, .int gu, .int (nI sc), .int cl, .int se, .int lo, .int lu, .int rf, .ref kl, .ref kc, .ref hB])), (kl, .inr (6, [.int km, .ref kd, .int (nI K)]))]) [0, 1] rfl
            have hDc := hD.sub (ws' := [(hM, .inr (14, [.int th, .int (nI R), .int (nI C), .int fi, .int di, .int he, .int br, .int pa, .int gu, .int (nI sc), .int cl, .int se, .int lo, .int lu, .int rf, .ref kl, .ref kc, .ref hB])), (kl, .inr (6, [.int km, .ref kd, .int (nI K)]))]) [0, 1] (by decide) rfl
            have hFc := va_free (wc := [(hM, .inr (14, [.int th, .int (nI R), .int (nI C), .int fi, .int di, .int he, .int br, .int pa, .int gu, .int (nI sc), .int cl, .int se, .int lo, .int lu, .int rf, .ref kl, .ref kc, .ref hB])), (kl, .inr (6, [.int km, .ref kd, .int (nI K)]))]) hD (va_S_up hS hA) hA [0, 1] rfl
            refine va_calli (va_runV (As := [.int (nI i0), .int x1]) (rest := []) ⟨hx, hb, hml, hown, hts⟩ (c_X7_stepsTo l D hM th R C fi di he br pa gu sc cl se lo lu rf kl kc hB km kd K i0 x1 (nI i0) H.size (show R ≤ 5 from hR) (show C ≤ 5 from hC) (show 0 < C from hC0) (show K ≤ 25 from hKb) (show i0 < 25 from (by omega)) (show (nI i0) = nI i0 from rfl)) (cwV 2 hts (gi_V q_1574 q_1576 q_72 q_104 q_1577) rfl rfl rfl (by decide +kernel) ⟨Nat.le_of_ble_eq_true rfl, Nat.le_of_ble_eq_true rfl⟩) ⟨cPre_blind, va_recv hK hP (ci := 14) (q0 := 0) rfl rfl, cPre_mk hPc hK hDc hN (lwZ_for hZ (va_S_up hS hA) hFc)⟩ rfl rfl hl.1 rfl (lv_room (Nat.le_of_ble_eq_true rfl)) dX7_leastOf_29 ⟨(Nat.le_of_ble_eq_true rfl), (Nat.le_of_ble_eq_true rfl)⟩) hS (fun q h1 h2 => absurd h2 (Nat.not_le.mpr h1)) (fun q h => Nat.le_trans hS.1 h) (fun r_29 u t H1 locs ht hvm hw hBk hz1 hk1 hS => ?_)
            have hP := va_P_ro hP hk1
            subst hw
            clear hBk hvm ht u hz1 hk1
            clear hPc hDc hFc; clear t
            generalize H1 = H at hP hS ⊢
            refine lv_goto (tgt := 36) hx hb dX7_leastOf_32 (by decide) ?_
            refine lv_istore (lv' := [(4, .int (F_X7_stepsTo R C fi br K i0 x1)), (0, .ref hM), (1, .int x1), (2, .int a0), (3, .int (nI i0))]) hx hb dX7_leastOf_36 hl (by decide) rfl (fun ls hl => ?_)
            refine lv_iload hx hb dX7_leastOf_38 (lv_at hl 0 rfl) ?_
            refine lv_iconst (v := (-1)) hx hb dX7_leastOf_40 (by decide) ?_
            refine lv_icmp_eq (tgt := 58) hx hb dX7_leastOf_41 (by decide) (fun c_6 => ?_) (fun c_6 => ?_)
            · refine lv_iinc (v := nI (i0 + 1)) (lv' := [(3, .int (nI (i0 + 1))), (4, .int (F_X7_stepsTo R C fi br K i0 x1)), (0, .ref hM), (1, .int x1), (2, .int a0)]) hx hb dX7_leastOf_58 hl (k := 4) rfl (nI_1 _) (by decide) rfl (fun ls hl => ?_)
              refine lv_goto (tgt := 4) hx hb dX7_leastOf_61 (by decide) ?_
              have hE : S_X7_leastOf_4 R C fi br K x1 i0 a0 = a0 := (by unfold S_X7_leastOf_4; rw [if_neg c_4, if_pos c_6])
              have hl : lv_has ls 5 [(0, .ref hM), (1, .int x1), (2, .int a0), (3, .int (nI (i0 + 1)))] := lv_sub hl [2, 3, 4, 0] rfl
              have hP := hP.sub (ws' := [(hM, .inr (14, [.int th, .int (nI R), .int (nI C), .int fi, .int di, .int he, .int br, .int pa, .int gu, .int (nI sc), .int cl, .int se, .int lo, .int lu, .int rf, .ref kl, .ref kc, .ref hB])), (kl, .inr (6, [.int km, .ref kd, .int (nI K)]))]) [0, 1] rfl
              have hD := hD.sub (ws' := [(hM, .inr (14, [.int th, .int (nI R), .int (nI C), .int fi, .int di, .int he, .int br, .int pa, .int gu, .int (nI sc), .int cl, .int se, .int lo, .int lu, .int rf, .ref kl, .ref kc, .ref hB])), (kl, .inr (6, [.int km, .ref kd, .int (nI K)]))]) [0, 1] (by decide) rfl
              exact ih0 (i0 + 1) (by omega) (S_X7_leastOf_4 R C fi br K x1 i0 a0) H locs ls (by (try rw [hE]); exact hP) (by (try rw [hE]); exact hD) hS (by (try rw [hE]); exact hl) kon
            · refine lv_iload_n hx hb dX7_leastOf_44 rfl (lv_at hl 3 rfl) ?_
              refine lv_iconst (v := (-1)) hx hb dX7_leastOf_45 (by decide) ?_
              refine lv_icmp_eq (tgt := 55) hx hb dX7_leastOf_46 (by decide) (fun c_7 => ?_) (fun c_7 => ?_)
              · refine lv_iload hx hb dX7_leastOf_55 (lv_at hl 0 rfl) ?_
                refine lv_istore_n (lv' := [(2, .int (F_X7_stepsTo R C fi br K i0 x1)), (4, .int (F_X7_stepsTo R C fi br K i0 x1)), (0, .ref hM), (1, .int x1), (3, .int (nI i0))]) hx hb dX7_leastOf_57 rfl hl (by decide) rfl (fun ls hl => ?_)
                refine lv_iinc (v := nI (i0 + 1)) (lv' := [(3, .int (nI (i0 + 1))), (2, .int (F_X7_stepsTo R C fi br K i0 x1)), (4, .int (F_X7_stepsTo R C fi br K i0 x1)), (0, .ref hM), (1, .int x1)]) hx hb dX7_leastOf_58 hl (k := 4) rfl (nI_1 _) (by decide) rfl (fun ls hl => ?_)
                refine lv_goto (tgt := 4) hx hb dX7_leastOf_61 (by decide) ?_
                have hE : S_X7_leastOf_4 R C fi br K x1 i0 a0 = F_X7_stepsTo R C fi br K i0 x1 := (by unfold S_X7_leastOf_4; rw [if_neg c_4, if_neg c_6, if_pos c_7])
                have hl : lv_has ls 5 [(0, .ref hM), (1, .int x1), (2, .int (F_X7_stepsTo R C fi br K i0 x1)), (3, .int (nI (i0 + 1)))] := lv_sub hl [3, 4, 1, 0] rfl
                have hP := hP.sub (ws' := [(hM, .inr (14, [.int th, .int (nI R), .int (nI C), .int fi, .int di, .int he, .int br, .int pa, .int gu, .int (nI sc), .int cl, .int se, .int lo, .int lu, .int rf, .ref kl, .ref kc, .ref hB])), (kl, .inr (6, [.int km, .ref kd, .int (nI K)]))]) [0, 1] rfl
                have hD := hD.sub (ws' := [(hM, .inr (14, [.int th, .int (nI R), .int (nI C), .int fi, .int di, .int he, .int br, .int pa, .int gu, .int (nI sc), .int cl, .int se, .int lo, .int lu, .int rf, .ref kl, .ref kc, .ref hB])), (kl, .inr (6, [.int km, .ref kd, .int (nI K)]))]) [0, 1] (by decide) rfl
                exact ih0 (i0 + 1) (by omega) (S_X7_leastOf_4 R C fi br K x1 i0 a0) H locs ls (by (try rw [hE]); exact hP) (by (try rw [hE]); exact hD) hS (by (try rw [hE]); exact hl) kon
              · refine lv_iload hx hb dX7_leastOf_49 (lv_at hl 0 rfl) ?_
                refine lv_iload_n hx hb dX7_leastOf_51 rfl (lv_at hl 3 rfl) ?_
                refine lv_icmp_ge (tgt := 58) hx hb dX7_leastOf_52 (by decide) (fun c_8 => ?_) (fun c_8 => ?_)
                · refine lv_iinc (v := nI (i0 + 1)) (lv' := [(3, .int (nI (i0 + 1))), (4, .int (F_X7_stepsTo R C fi br K i0 x1)), (0, .ref hM), (1, .int x1), (2, .int a0)]) hx hb dX7_leastOf_58 hl (k := 4) rfl (nI_1 _) (by decide) rfl (fun ls hl => ?_)
                  refine lv_goto (tgt := 4) hx hb dX7_leastOf_61 (by decide) ?_
                  have hE : S_X7_leastOf_4 R C fi br K x1 i0 a0 = a0 := (by unfold S_X7_leastOf_4; rw [if_neg c_4, if_neg c_6, if_neg c_7, if_pos c_8])
                  have hl : lv_has ls 5 [(0, .ref hM), (1, .int x1), (2, .int a0), (3, .int (nI (i0 + 1)))] := lv_sub hl [2, 3, 4, 0] rfl
                  have hP := hP.sub (ws' := [(hM, .inr (14, [.int th, .int (nI R), .int (nI C), .int fi, .int di, .int he, .int br, .int pa, .int gu, .int (nI sc), .int cl, .int se, .int lo, .int lu, .int rf, .ref kl, .ref kc, .ref hB])), (kl, .inr (6, [.int km, .ref kd, .int (nI K)]))]) [0, 1] rfl
                  have hD := hD.sub (ws' := [(hM, .inr (14, [.int th, .int (nI R), .int (nI C), .int fi, .int di, .int he, .int br, .int pa, .int gu, .int (nI sc), .int cl, .int se, .int lo, .int lu, .int rf, .ref kl, .ref kc, .ref hB])), (kl, .inr (6, [.int km, .ref kd, .int (nI K)]))]) [0, 1] (by decide) rfl
                  exact ih0 (i0 + 1) (by omega) (S_X7_leastOf_4 R C fi br K x1 i0 a0) H locs ls (by (try rw [hE]); exact hP) (by (try rw [hE]); exact hD) hS (by (try rw [hE]); exact hl) kon
                · refine lv_iload hx hb dX7_leastOf_55 (lv_at hl 0 rfl) ?_
                  refine lv_istore_n (lv' := [(2, .int (F_X7_stepsTo R C fi br K i0 x1)), (4, .int (F_X7_stepsTo R C fi br K i0 x1)), (0, .ref hM), (1, .int x1), (3, .int (nI i0))]) hx hb dX7_leastOf_57 rfl hl (by decide) rfl (fun ls hl => ?_)
                  refine lv_iinc (v := nI (i0 + 1)) (lv' := [(3, .int (nI (i0 + 1))), (2, .int (F_X7_stepsTo R C fi br K i0 x1)), (4, .int (F_X7_stepsTo R C fi br K i0 x1)), (0, .ref hM), (1, .int x1)]) hx hb dX7_leastOf_58 hl (k := 4) rfl (nI_1 _) (by decide) rfl (fun ls hl => ?_)
                  refine lv_goto (tgt := 4) hx hb dX7_leastOf_61 (by decide) ?_
                  have hE : S_X7_leastOf_4 R C fi br K x1 i0 a0 = F_X7_stepsTo R C fi br K i0 x1 := (by unfold S_X7_leastOf_4; rw [if_neg c_4, if_neg c_6, if_neg c_7, if_neg c_8])
                  have hl : lv_has ls 5 [(0, .ref hM), (1, .int x1), (2, .int (F_X7_stepsTo R C fi br K i0 x1)), (3, .int (nI (i0 + 1)))] := lv_sub hl [3, 4, 1, 0] rfl
                  have hP := hP.sub (ws' := [(hM, .inr (14, [.int th, .int (nI R), .int (nI C), .int fi, .int di, .int he, .int br, .int pa, .int gu, .int (nI sc), .int cl, .int se, .int lo, .int lu, .int rf, .ref kl, .ref kc, .ref hB])), (kl, .inr (6, [.int km, .ref kd, .int (nI K)]))]) [0, 1] rfl
                  have hD := hD.sub (ws' := [(hM, .inr (14, [.int th, .int (nI R), .int (nI C), .int fi, .int di, .int he, .int br, .int pa, .int gu, .int (nI sc), .int cl, .int se, .int lo, .int lu, .int rf, .ref kl, .ref kc, .ref hB])), (kl, .inr (6, [.int km, .ref kd, .int (nI K)]))]) [0, 1] (by decide) rfl
                  exact ih0 (i0 + 1) (by omega) (S_X7_leastOf_4 R C fi br K x1 i0 a0) H locs ls (by (try rw [hE]); exact hP) (by (try rw [hE]); exact hD) hS (by (try rw [hE]); exact hl) kon
    have hl : lv_has ls 5 [(0, .ref hM), (1, .int x1), (2, .int (-1)), (3, .int (nI 0))] := lv_sub hl [2, 3, 1, 0] rfl
    refine lp_4 K 0 (by omega) (-1) H locs ls hP hD hS hl ?_
    clear lp_4 hP hD hS hl
    intro H locs ls hP hD hS hl
    refine lv_iload_n hx hb dX7_leastOf_64 rfl (lv_at hl 2 rfl) ?_
    subst hQe
    exact W.iret (v := (itr (fun i a => S_X7_leastOf_4 R C fi br K x1 i a) K 0 (-1))) hx hb hr (fun t ht hW => ⟨⟨(itr (fun i a => S_X7_leastOf_4 R C fi br K x1 i a) K 0 (-1)), (), rfl, (by rfl), trivial⟩, hS.F ht⟩) hS.2.2 dX7_leastOf_65
  rw [hHe, hLe] at hgoal
  exact hgoal

def F_X7_ghostsWith (R : Nat) (C : Nat) (fi : Int32) (di : Int32) (br : Int32) (cl : Int32) (K : Nat) (x1 : Int32) : Int32 := (if (F_X7_has fi x1) = 0 then 0 else (F_X7_seenOf R C fi br K (F_X7_with cl x1 1) di) &&& ((F_X7_with cl x1 1) ^^^ (-1)))
set_option maxHeartbeats 4000000 in
set_option maxRecDepth 100000 in
theorem c_X7_ghostsWith (l : Launch) (D : va_G) (hM : Nat) (th : Int32) (R : Nat) (C : Nat) (fi : Int32) (di : Int32) (he : Int32) (br : Int32) (pa : Int32) (gu : Int32) (sc : Nat) (cl : Int32) (se : Int32) (lo : Int32) (lu : Int32) (rf : Int32) (kl : Nat) (kc : Nat) (hB : Nat) (km : Int32) (kd : Nat) (K : Nat) (x1 : Int32) (sz : Nat) (hR : R ≤ 5) (hC : C ≤ 5) (hC0 : 0 < C) (hKb : K ≤ 25) : Met l yX7_ghostsWith (Cond.code yX7_ghostsWith cX7_ghostsWith 3 (some .int) :: lwAll) ({ frames := 3, cells := 0, slots := 0, locals := 72 } : Room) (va_Pc [.ref hM, .int x1] (cPre D (lwTY D) [(hM, .inr (14, [.int th, .int (nI R), .int (nI C), .int fi, .int di, .int he, .int br, .int pa, .int gu, .int (nI sc), .int cl, .int se, .int lo, .int lu, .int rf, .ref kl, .ref kc, .ref hB])), (kl, .inr (6, [.int km, .ref kd, .int (nI K)]))] sz)) (va_Qi (fun (r : Int32) (_ : Unit) => r = (F_X7_ghostsWith R C fi di br cl K x1)) (fun _ _ => True) (fun q : Nat => sz ≤ q)) 0 0 (fun q : Nat => sz ≤ q) := by
  refine Met.ofW (cc := cX7_ghostsWith) (maxL := 3) (ret := (some .int)) (by decide) rfl ?_
  intro p e s m args below meth c s₁ B hml hv
  obtain ⟨rfl, hsz, hP, hK, hD0, hN, hZ⟩ := hv
  have hx := B.exec
  have hb := B.bytes
  have hr := B.returns
  have hts : ∀ wd ∈ lwAll, wd.before ([.ref hM, .int x1] : List Value).toArray s = true := fun wd h => atoms_spec (ws := (Cond.code yX7_ghostsWith cX7_ghostsWith 3 (some .int) :: lwAll)) B.pre wd (List.mem_cons_of_mem _ h)
  have hown : s.vm.findClass RX7 = some m.cls := findClass_of_methodNamed B.named
  have hlocks := B.notSynchronized
  subst hsz
  have hD := hD0.self (sz := s.heap.size)
  have hl := lv_entry ([.ref hM, .int x1]) (n := 3) (Nat.le_of_ble_eq_true rfl)
  rw [lg_entry_eq]
  generalize (lg_sl ([.ref hM, .int x1]) ++ List.replicate (3 - (lg_sl ([.ref hM, .int x1])).length) Slot.unset).toArray = ls at hl ⊢
  have hl : lv_has ls 3 [(0, .ref hM), (1, .int x1)] := hl
  have hS : va_S (fun q : Nat => s.heap.size ≤ q) s.heap s.heap [] := va_S.rf
  generalize hQe : MQ below (va_Qi (fun (r : Int32) (_ : Unit) => r = (F_X7_ghostsWith R C fi di br cl K x1)) (fun _ _ => True) (fun q : Nat => s.heap.size ≤ q)) ([.ref hM, .int x1] : List Value).toArray s 0 0 (fun q : Nat => s.heap.size ≤ q) = Q
  have hP : va_P D vwCl [(hM, .inr (14, [.int th, .int (nI R), .int (nI C), .int fi, .int di, .int he, .int br, .int pa, .int gu, .int (nI sc), .int cl, .int se, .int lo, .int lu, .int rf, .ref kl, .ref kc, .ref hB])), (kl, .inr (6, [.int km, .ref kd, .int (nI K)]))] s.heap := hP
  obtain ⟨A, hAe⟩ : ∃ A, A = va_A [(hM, .inr (14, [.int th, .int (nI R), .int (nI C), .int fi, .int di, .int he, .int br, .int pa, .int gu, .int (nI sc), .int cl, .int se, .int lo, .int lu, .int rf, .ref kl, .ref kc, .ref hB])), (kl, .inr (6, [.int km, .ref kd, .int (nI K)]))] s.heap.size := ⟨_, rfl⟩
  rw [← hAe] at hD hZ
  have hA : ∀ q : Nat, s.heap.size ≤ q → A q := fun q h => by rw [hAe]; exact Or.inr h
  obtain ⟨H, hHe⟩ : ∃ H, H = s.heap := ⟨_, rfl⟩
  obtain ⟨locs, hLe⟩ : ∃ L : List Loc, L = [] := ⟨_, rfl⟩
  have hP : va_P D vwCl [(hM, .inr (14, [.int th, .int (nI R), .int (nI C), .int fi, .int di, .int he, .int br, .int pa, .int gu, .int (nI sc), .int cl, .int se, .int lo, .int lu, .int rf, .ref kl, .ref kc, .ref hB])), (kl, .inr (6, [.int km, .ref kd, .int (nI K)]))] H := by rw [hHe]; exact hP
  have hS : va_S (fun q : Nat => s.heap.size ≤ q) s.heap H locs := by rw [hHe, hLe]; exact hS
  have hgoal : W p l e ({ frames := 3, cells := 0, slots := 0, locals := 72 } : Room) s m ([.ref hM, .int x1] : List Value).toArray below meth c H locs 0 0 Q (F0 m 0 ls []) := by
    clear hHe hLe
    refine lv_aload_n hx hb dX7_ghostsWith_0 rfl (lv_at hl 0 rfl) ?_
    refine va_get (D := D) (ci := 14) (v := .int cl) (C := RX7) (T := TX7) (N := 18) hx hb hts in_X7 hown hK hP 0 rfl rfl 10 (by decide) (hts _ q_1278) (fun _ h9 => h9) rfl dX7_ghostsWith_1 ?_
    refine lv_iload_n hx hb dX7_ghostsWith_4 rfl (lv_at hl 1 rfl) ?_
    refine lv_iconst (v := 1) hx hb dX7_ghostsWith_5 (by decide) ?_
    have hPc := hP.sub (ws' := []) [] rfl
    have hDc := hD.sub (ws' := []) [] (by decide) rfl
    have hFc := va_free (wc := []) hD (va_S_up hS hA) hA [] rfl
    refine va_calli (va_runS (As := [.int cl, .int x1, .int 1]) (rest := []) ⟨hx, hb, hml, hown, hts⟩ (c_X7_with l D cl x1 1 H.size ) (cwS 3 hts (gi_S q_1346 q_1347 q_104 q_1348) rfl rfl rfl (by decide +kernel) ⟨Nat.le_of_ble_eq_true rfl, Nat.le_of_ble_eq_true rfl⟩) ⟨cPre_blind, cPre_mk hPc hK hDc hN (lwZ_for hZ (va_S_up hS hA) hFc)⟩ rfl rfl hl.1 rfl (lv_room (Nat.le_of_ble_eq_true rfl)) dX7_ghostsWith_6 ⟨(Nat.le_of_ble_eq_true rfl), (Nat.le_of_ble_eq_true rfl)⟩) hS (fun q h1 h2 => absurd h2 (Nat.not_le.mpr h1)) (fun q h => Nat.le_trans hS.1 h) (fun r_6 u t H1 locs ht hvm hw hBk hz1 hk1 hS => ?_)
    have hP := va_P_ro hP hk1
    subst hw
    clear hBk hvm ht u hz1 hk1
    clear hPc hDc hFc; clear t
    generalize H1 = H at hP hS ⊢
    refine lv_istore_n (lv' := [(2, .int (F_X7_with cl x1 1)), (0, .ref hM), (1, .int x1)]) hx hb dX7_ghostsWith_9 rfl hl (by decide) rfl (fun ls hl => ?_)
    refine lv_aload_n hx hb dX7_ghostsWith_10 rfl (lv_at hl 1 rfl) ?_
    refine va_get (D := D) (ci := 14) (v := .int fi) (C := RX7) (T := TX7) (N := 18) hx hb hts in_X7 hown hK hP 0 rfl rfl 3 (by decide) (hts _ q_1271) (fun _ h9 => h9) rfl dX7_ghostsWith_11 ?_
    refine lv_iload_n hx hb dX7_ghostsWith_14 rfl (lv_at hl 2 rfl) ?_
    have hPc := hP.sub (ws' := []) [] rfl
    have hDc := hD.sub (ws' := []) [] (by decide) rfl
    have hFc := va_free (wc := []) hD (va_S_up hS hA) hA [] rfl
    refine va_calli (va_runS (As := [.int fi, .int x1]) (rest := []) ⟨hx, hb, hml, hown, hts⟩ (c_X7_has l D fi x1 H.size ) (cwS 2 hts (gi_S q_1361 q_1362 q_104 q_1363) rfl rfl rfl (by decide +kernel) ⟨Nat.le_of_ble_eq_true rfl, Nat.le_of_ble_eq_true rfl⟩) ⟨cPre_blind, cPre_mk hPc hK hDc hN (lwZ_for hZ (va_S_up hS hA) hFc)⟩ rfl rfl hl.1 rfl (lv_room (Nat.le_of_ble_eq_true rfl)) dX7_ghostsWith_15 ⟨(Nat.le_of_ble_eq_true rfl), (Nat.le_of_ble_eq_true rfl)⟩) hS (fun q h1 h2 => absurd h2 (Nat.not_le.mpr h1)) (fun q h => Nat.le_trans hS.1 h) (fun r_15 u t H1 locs ht hvm hw hBk hz1 hk1 hS => ?_)
    have hP := va_P_ro hP hk1
    obtain ⟨hw, z_1⟩ := hw
    rw [hw] at z_1
    subst hw
    clear hBk hvm ht u hz1 hk1
    clear hPc hDc hFc; clear t
    generalize H1 = H at hP hS ⊢
    refine lv_if_eq (tgt := 37) hx hb dX7_ghostsWith_18 (by decide) (fun c_2 => ?_) (fun c_2 => ?_)
    · refine lv_iconst (v := 0) hx hb dX7_ghostsWith_37 (by decide) ?_
      subst hQe
      exact W.iret (v := 0) hx hb hr (fun t ht hW => ⟨⟨0, (), rfl, (by unfold F_X7_ghostsWith; rw [if_pos c_2]), trivial⟩, hS.F ht⟩) hS.2.2 dX7_ghostsWith_38
    · refine lv_aload_n hx hb dX7_ghostsWith_21 rfl (lv_at hl 1 rfl) ?_
      refine lv_iload_n hx hb dX7_ghostsWith_22 rfl (lv_at hl 0 rfl) ?_
      refine lv_aload_n hx hb dX7_ghostsWith_23 rfl (lv_at hl 1 rfl) ?_
      refine va_get (D := D) (ci := 14) (v := .int di) (C := RX7) (T := TX7) (N := 18) hx hb hts in_X7 hown hK hP 0 rfl rfl 4 (by decide) (hts _ q_1272) (fun _ h9 => h9) rfl dX7_ghostsWith_24 ?_
      have hPc := hP.sub (ws' := [(hM, .inr (14, [.int th, .int (nI R), .int (nI C), .int fi, .int di, .int he, .int br, .int pa, .int gu, .int (nI sc), .int cl, .int se, .int lo, .int lu, .int rf, .ref kl, .ref kc, .ref hB])), (kl, .inr (6, [.int km, .ref kd, .int (nI K)]))]) [0, 1] rfl
      have hDc := hD.sub (ws' := [(hM, .inr (14, [.int th, .int (nI R), .int (nI C), .int fi, .int di, .int he, .int br, .int pa, .int gu, .int (nI sc), .int cl, .int se, .int lo, .int lu, .int rf, .ref kl, .ref kc, .ref hB])), (kl, .inr (6, [.int km, .ref kd, .int (nI K)]))]) [0, 1] (by decide) rfl
      have hFc := va_free (wc := [(hM, .inr (14, [.int th, .int (nI R), .int (nI C), .int fi, .int di, .int he, .int br, .int pa, .int gu, .int (nI sc), .int cl, .int se, .int lo, .int lu, .int rf, .ref kl, .ref kc, .ref hB])), (kl, .inr (6, [.int km, .ref kd, .int (nI K)]))]) hD (va_S_up hS hA) hA [0, 1] rfl
      refine va_calli (va_runV (As := [.int (F_X7_with cl x1 1), .int di]) (rest := []) ⟨hx, hb, hml, hown, hts⟩ (c_X7_seenOf l D hM th R C fi di he br pa gu sc cl se lo lu rf kl kc hB km kd K (F_X7_with cl x1 1) di H.size (show R ≤ 5 from hR) (show C ≤ 5 from hC) (show 0 < C from hC0) (show K ≤ 25 from hKb)) (cwV 2 hts (gi_V q_1407 q_1409 q_59 q_104 q_1410) rfl rfl rfl (by decide +kernel) ⟨Nat.le_of_ble_eq_true rfl, Nat.le_of_ble_eq_true rfl⟩) ⟨cPre_blind, va_recv hK hP (ci := 14) (q0 := 0) rfl rfl, cPre_mk hPc hK hDc hN (lwZ_for hZ (va_S_up hS hA) hFc)⟩ rfl rfl hl.1 rfl (lv_room (Nat.le_of_ble_eq_true rfl)) dX7_ghostsWith_27 ⟨(Nat.le_of_ble_eq_true rfl), (Nat.le_of_ble_eq_true rfl)⟩) hS (fun q h1 h2 => absurd h2 (Nat.not_le.mpr h1)) (fun q h => Nat.le_trans hS.1 h) (fun r_27 u t H1 locs ht hvm hw hBk hz1 hk1 hS => ?_)
      have hP := va_P_ro hP hk1
      subst hw
      clear hBk hvm ht u hz1 hk1
      clear hPc hDc hFc; clear t
      generalize H1 = H at hP hS ⊢
      refine lv_iload_n hx hb dX7_ghostsWith_30 rfl (lv_at hl 0 rfl) ?_
      refine lv_iconst (v := (-1)) hx hb dX7_ghostsWith_31 (by decide) ?_
      refine lv_ixor hx hb dX7_ghostsWith_32 ?_
      refine lv_iand hx hb dX7_ghostsWith_33 ?_
      refine lv_goto (tgt := 38) hx hb dX7_ghostsWith_34 (by decide) ?_
      subst hQe
      exact W.iret (v := (F_X7_seenOf R C fi br K (F_X7_with cl x1 1) di) &&& ((F_X7_with cl x1 1) ^^^ (-1))) hx hb hr (fun t ht hW => ⟨⟨(F_X7_seenOf R C fi br K (F_X7_with cl x1 1) di) &&& ((F_X7_with cl x1 1) ^^^ (-1)), (), rfl, (by unfold F_X7_ghostsWith; rw [if_neg c_2]), trivial⟩, hS.F ht⟩) hS.2.2 dX7_ghostsWith_38
  rw [hHe, hLe] at hgoal
  exact hgoal

def F_X7_unclearOf0 (R : Nat) (C : Nat) (fi : Int32) (br : Int32) (K : Nat) (x3 : Int32) (x4 : Int32) : Int32 := (if (F_X7_isExact R C fi br K x3 x4) = 0 then F_X7_one 1 else F_X7_one 0)
set_option maxHeartbeats 4000000 in
set_option maxRecDepth 100000 in
theorem c_X7_unclearOf0 (l : Launch) (D : va_G) (hM : Nat) (th : Int32) (R : Nat) (C : Nat) (fi : Int32) (di : Int32) (he : Int32) (br : Int32) (pa : Int32) (gu : Int32) (sc : Nat) (cl : Int32) (se : Int32) (lo : Int32) (lu : Int32) (rf : Int32) (kl : Nat) (kc : Nat) (hB : Nat) (km : Int32) (kd : Nat) (K : Nat) (j0 : Nat) (x3 : Int32) (x4 : Int32) (x2 : Int32) (sz : Nat) (hR : R ≤ 5) (hC : C ≤ 5) (hC0 : 0 < C) (hKb : K ≤ 25) (hj0 : j0 ≤ 25) (hx2 : x2 = nI j0) : Met l yX7_unclearOf (Cond.code yX7_unclearOf cX7_unclearOf 7 (some .int) :: lwAll) ({ frames := 4, cells := 0, slots := 0, locals := 94 } : Room) (va_Pc [.ref hM, .int 0, .int x2, .int x3, .int x4] (cPre D (lwTY D) [(hM, .inr (14, [.int th, .int (nI R), .int (nI C), .int fi, .int di, .int he, .int br, .int pa, .int gu, .int (nI sc), .int cl, .int se, .int lo, .int lu, .int rf, .ref kl, .ref kc, .ref hB])), (kl, .inr (6, [.int km, .ref kd, .int (nI K)]))] sz)) (va_Qi (fun (r : Int32) (_ : Unit) => r = (F_X7_unclearOf0 R C fi br K x3 x4)) (fun _ _ => True) (fun q : Nat => sz ≤ q)) 0 0 (fun q : Nat => sz ≤ q) := by
  subst hx2
  refine Met.ofW (cc := cX7_unclearOf) (maxL := 7) (ret := (some .int)) (by decide) rfl ?_
  intro p e s m args below meth c s₁ B hml hv
  obtain ⟨rfl, hsz, hP, hK, hD0, hN, hZ⟩ := hv
  have hx := B.exec
  have hb := B.bytes
  have hr := B.returns
  have hts : ∀ wd ∈ lwAll, wd.before ([.ref hM, .int 0, .int (nI j0), .int x3, .int x4] : List Value).toArray s = true := fun wd h => atoms_spec (ws := (Cond.code yX7_unclearOf cX7_unclearOf 7 (some .int) :: lwAll)) B.pre wd (List.mem_cons_of_mem _ h)
  have hown : s.vm.findClass RX7 = some m.cls := findClass_of_methodNamed B.named
  have hlocks := B.notSynchronized
  subst hsz
  have hD := hD0.self (sz := s.heap.size)
  have hl := lv_entry ([.ref hM, .int 0, .int (nI j0), .int x3, .int x4]) (n := 7) (Nat.le_of_ble_eq_true rfl)
  rw [lg_entry_eq]
  generalize (lg_sl ([.ref hM, .int 0, .int (nI j0), .int x3, .int x4]) ++ List.replicate (7 - (lg_sl ([.ref hM, .int 0, .int (nI j0), .int x3, .int x4])).length) Slot.unset).toArray = ls at hl ⊢
  have hl : lv_has ls 7 [(0, .ref hM), (1, .int 0), (2, .int (nI j0)), (3, .int x3), (4, .int x4)] := hl
  have hS : va_S (fun q : Nat => s.heap.size ≤ q) s.heap s.heap [] := va_S.rf
  generalize hQe : MQ below (va_Qi (fun (r : Int32) (_ : Unit) => r = (F_X7_unclearOf0 R C fi br K x3 x4)) (fun _ _ => True) (fun q : Nat => s.heap.size ≤ q)) ([.ref hM, .int 0, .int (nI j0), .int x3, .int x4] : List Value).toArray s 0 0 (fun q : Nat => s.heap.size ≤ q) = Q
  have hP : va_P D vwCl [(hM, .inr (14, [.int th, .int (nI R), .int (nI C), .int fi, .int di, .int he, .int br, .int pa, .int gu, .int (nI sc), .int cl, .int se, .int lo, .int lu, .int rf, .ref kl, .ref kc, .ref hB])), (kl, .inr (6, [.int km, .ref kd, .int (nI K)]))] s.heap := hP
  obtain ⟨A, hAe⟩ : ∃ A, A = va_A [(hM, .inr (14, [.int th, .int (nI R), .int (nI C), .int fi, .int di, .int he, .int br, .int pa, .int gu, .int (nI sc), .int cl, .int se, .int lo, .int lu, .int rf, .ref kl, .ref kc, .ref hB])), (kl, .inr (6, [.int km, .ref kd, .int (nI K)]))] s.heap.size := ⟨_, rfl⟩
  rw [← hAe] at hD hZ
  have hA : ∀ q : Nat, s.heap.size ≤ q → A q := fun q h => by rw [hAe]; exact Or.inr h
  obtain ⟨H, hHe⟩ : ∃ H, H = s.heap := ⟨_, rfl⟩
  obtain ⟨locs, hLe⟩ : ∃ L : List Loc, L = [] := ⟨_, rfl⟩
  have hP : va_P D vwCl [(hM, .inr (14, [.int th, .int (nI R), .int (nI C), .int fi, .int di, .int he, .int br, .int pa, .int gu, .int (nI sc), .int cl, .int se, .int lo, .int lu, .int rf, .ref kl, .ref kc, .ref hB])), (kl, .inr (6, [.int km, .ref kd, .int (nI K)]))] H := by rw [hHe]; exact hP
  have hS : va_S (fun q : Nat => s.heap.size ≤ q) s.heap H locs := by rw [hHe, hLe]; exact hS
  have hgoal : W p l e ({ frames := 4, cells := 0, slots := 0, locals := 94 } : Room) s m ([.ref hM, .int 0, .int (nI j0), .int x3, .int x4] : List Value).toArray below meth c H locs 0 0 Q (F0 m 0 ls []) := by
    clear hHe hLe
    refine lv_iload_n hx hb dX7_unclearOf_0 rfl (lv_at hl 1 rfl) ?_
    refine lv_if_ne (tgt := 23) hx hb dX7_unclearOf_1 (by decide) (fun c_1 => ?_) (fun c_1 => ?_)
    · exact absurd (by decide) c_1
    · refine lv_aload_n hx hb dX7_unclearOf_4 rfl (lv_at hl 0 rfl) ?_
      refine lv_iload_n hx hb dX7_unclearOf_5 rfl (lv_at hl 3 rfl) ?_
      refine lv_iload hx hb dX7_unclearOf_6 (lv_at hl 4 rfl) ?_
      have hPc := hP.sub (ws' := [(hM, .inr (14, [.int th, .int (nI R), .int (nI C), .int fi, .int di, .int he, .int br, .int pa, .int gu, .int (nI sc), .int cl, .int se, .int lo, .int lu, .int rf, .ref kl, .ref kc, .ref hB])), (kl, .inr (6, [.int km, .ref kd, .int (nI K)]))]) [0, 1] rfl
      have hDc := hD.sub (ws' := [(hM, .inr (14, [.int th, .int (nI R), .int (nI C), .int fi, .int di, .int he, .int br, .int pa, .int gu, .int (nI sc), .int cl, .int se, .int lo, .int lu, .int rf, .ref kl, .ref kc, .ref hB])), (kl, .inr (6, [.int km, .ref kd, .int (nI K)]))]) [0, 1] (by decide) rfl
      have hFc := va_free (wc := [(hM, .inr (14, [.int th, .int (nI R), .int (nI C), .int fi, .int di, .int he, .int br, .int pa, .int gu, .int (nI sc), .int cl, .int se, .int lo, .int lu, .int rf, .ref kl, .ref kc, .ref hB])), (kl, .inr (6, [.int km, .ref kd, .int (nI K)]))]) hD (va_S_up hS hA) hA [0, 1] rfl
      refine va_calli (va_runV (As := [.int x3, .int x4]) (rest := []) ⟨hx, hb, hml, hown, hts⟩ (c_X7_isExact l D hM th R C fi di he br pa gu sc cl se lo lu rf kl kc hB km kd K x3 x4 H.size (show R ≤ 5 from hR) (show C ≤ 5 from hC) (show 0 < C from hC0) (show K ≤ 25 from hKb)) (cwV 2 hts (gi_V q_1605 q_1607 q_74 q_104 q_1608) rfl rfl rfl (by decide +kernel) ⟨Nat.le_of_ble_eq_true rfl, Nat.le_of_ble_eq_true rfl⟩) ⟨cPre_blind, va_recv hK hP (ci := 14) (q0 := 0) rfl rfl, cPre_mk hPc hK hDc hN (lwZ_for hZ (va_S_up hS hA) hFc)⟩ rfl rfl hl.1 rfl (lv_room (Nat.le_of_ble_eq_true rfl)) dX7_unclearOf_8 ⟨(Nat.le_of_ble_eq_true rfl), (Nat.le_of_ble_eq_true rfl)⟩) hS (fun q h1 h2 => absurd h2 (Nat.not_le.mpr h1)) (fun q h => Nat.le_trans hS.1 h) (fun r_8 u t H1 locs ht hvm hw hBk hz1 hk1 hS => ?_)
      have hP := va_P_ro hP hk1
      obtain ⟨hw, z_2⟩ := hw
      rw [hw] at z_2
      subst hw
      clear hBk hvm ht u hz1 hk1
      clear hPc hDc hFc; clear t
      generalize H1 = H at hP hS ⊢
      refine lv_if_ne (tgt := 18) hx hb dX7_unclearOf_11 (by decide) (fun c_3 => ?_) (fun c_3 => ?_)
      · refine lv_iconst (v := 0) hx hb dX7_unclearOf_18 (by decide) ?_
        have hPc := hP.sub (ws' := []) [] rfl
        have hDc := hD.sub (ws' := []) [] (by decide) rfl
        have hFc := va_free (wc := []) hD (va_S_up hS hA) hA [] rfl
        refine va_calli (va_runS (As := [.int 0]) (rest := []) ⟨hx, hb, hml, hown, hts⟩ (c_X7_one l D 0 H.size ) (cwS 1 hts (gi_S q_1482 q_1483 q_104 q_1484) rfl rfl rfl (by decide +kernel) ⟨Nat.le_of_ble_eq_true rfl, Nat.le_of_ble_eq_true rfl⟩) ⟨cPre_blind, cPre_mk hPc hK hDc hN (lwZ_for hZ (va_S_up hS hA) hFc)⟩ rfl rfl hl.1 rfl (lv_room (Nat.le_of_ble_eq_true rfl)) dX7_unclearOf_19 ⟨(Nat.le_of_ble_eq_true rfl), (Nat.le_of_ble_eq_true rfl)⟩) hS (fun q h1 h2 => absurd h2 (Nat.not_le.mpr h1)) (fun q h => Nat.le_trans hS.1 h) (fun r_19 u t H1 locs ht hvm hw hBk hz1 hk1 hS => ?_)
        have hP := va_P_ro hP hk1
        subst hw
        clear hBk hvm ht u hz1 hk1
        clear hPc hDc hFc; clear t
        generalize H1 = H at hP hS ⊢
        subst hQe
        exact W.iret (v := F_X7_one 0) hx hb hr (fun t ht hW => ⟨⟨F_X7_one 0, (), rfl, (by unfold F_X7_unclearOf0; rw [if_neg c_3]), trivial⟩, hS.F ht⟩) hS.2.2 dX7_unclearOf_22
      · refine lv_iconst (v := 1) hx hb dX7_unclearOf_14 (by decide) ?_
        refine lv_goto (tgt := 19) hx hb dX7_unclearOf_15 (by decide) ?_
        have hPc := hP.sub (ws' := []) [] rfl
        have hDc := hD.sub (ws' := []) [] (by decide) rfl
        have hFc := va_free (wc := []) hD (va_S_up hS hA) hA [] rfl
        refine va_calli (va_runS (As := [.int 1]) (rest := []) ⟨hx, hb, hml, hown, hts⟩ (c_X7_one l D 1 H.size ) (cwS 1 hts (gi_S q_1482 q_1483 q_104 q_1484) rfl rfl rfl (by decide +kernel) ⟨Nat.le_of_ble_eq_true rfl, Nat.le_of_ble_eq_true rfl⟩) ⟨cPre_blind, cPre_mk hPc hK hDc hN (lwZ_for hZ (va_S_up hS hA) hFc)⟩ rfl rfl hl.1 rfl (lv_room (Nat.le_of_ble_eq_true rfl)) dX7_unclearOf_19 ⟨(Nat.le_of_ble_eq_true rfl), (Nat.le_of_ble_eq_true rfl)⟩) hS (fun q h1 h2 => absurd h2 (Nat.not_le.mpr h1)) (fun q h => Nat.le_trans hS.1 h) (fun r_19 u t H1 locs ht hvm hw hBk hz1 hk1 hS => ?_)
        have hP := va_P_ro hP hk1
        subst hw
        clear hBk hvm ht u hz1 hk1
        clear hPc hDc hFc; clear t
        generalize H1 = H at hP hS ⊢
        subst hQe
        exact W.iret (v := F_X7_one 1) hx hb hr (fun t ht hW => ⟨⟨F_X7_one 1, (), rfl, (by unfold F_X7_unclearOf0; rw [if_pos c_3]), trivial⟩, hS.F ht⟩) hS.2.2 dX7_unclearOf_22
  rw [hHe, hLe] at hgoal
  exact hgoal

def S_X7_unclearOf1_29 (R : Nat) (C : Nat) (fi : Int32) (br : Int32) (K : Nat) (j0 : Nat) (x3 : Int32) (x4 : Int32) (i0 : Nat) (a0 : Int32) : Int32 := (if (F_X7_has fi (nI (j0 + i0))) = 0 then a0 else a0 + (F_X7_unclearOf0 R C fi br K (F_X7_with x3 (nI (j0 + i0)) 1) x4))
def F_X7_unclearOf1 (R : Nat) (C : Nat) (fi : Int32) (br : Int32) (K : Nat) (j0 : Nat) (x3 : Int32) (x4 : Int32) : Int32 := (itr (fun i a => S_X7_unclearOf1_29 R C fi br K j0 x3 x4 i a) (K - j0) 0 0)
set_option maxHeartbeats 4000000 in
set_option maxRecDepth 100000 in
theorem c_X7_unclearOf1 (l : Launch) (D : va_G) (hM : Nat) (th : Int32) (R : Nat) (C : Nat) (fi : Int32) (di : Int32) (he : Int32) (br : Int32) (pa : Int32) (gu : Int32) (sc : Nat) (cl : Int32) (se : Int32) (lo : Int32) (lu : Int32) (rf : Int32) (kl : Nat) (kc : Nat) (hB : Nat) (km : Int32) (kd : Nat) (K : Nat) (j0 : Nat) (x3 : Int32) (x4 : Int32) (x2 : Int32) (sz : Nat) (hR : R ≤ 5) (hC : C ≤ 5) (hC0 : 0 < C) (hKb : K ≤ 25) (hj0 : j0 ≤ 25) (hx2 : x2 = nI j0) : Met l yX7_unclearOf (Cond.code yX7_unclearOf cX7_unclearOf 7 (some .int) :: lwAll) ({ frames := 5, cells := 0, slots := 0, locals := 120 } : Room) (va_Pc [.ref hM, .int 1, .int x2, .int x3, .int x4] (cPre D (lwTY D) [(hM, .inr (14, [.int th, .int (nI R), .int (nI C), .int fi, .int di, .int he, .int br, .int pa, .int gu, .int (nI sc), .int cl, .int se, .int lo, .int lu, .int rf, .ref kl, .ref kc, .ref hB])), (kl, .inr (6, [.int km, .ref kd, .int (nI K)]))] sz)) (va_Qi (fun (r : Int32) (_ : Unit) => r = (F_X7_unclearOf1 R C fi br K j0 x3 x4)) (fun _ _ => True) (fun q : Nat => sz ≤ q)) 0 0 (fun q : Nat => sz ≤ q) := by
  subst hx2
  refine Met.ofW (cc := cX7_unclearOf) (maxL := 7) (ret := (some .int)) (by decide) rfl ?_
  intro p e s m args below meth c s₁ B hml hv
  obtain ⟨rfl, hsz, hP, hK, hD0, hN, hZ⟩ := hv
  have hx := B.exec
  have hb := B.bytes
  have hr := B.returns
  have hts : ∀ wd ∈ lwAll, wd.before ([.ref hM, .int 1, .int (nI j0), .int x3, .int x4] : List Value).toArray s = true := fun wd h => atoms_spec (ws := (Cond.code yX7_unclearOf cX7_unclearOf 7 (some .int) :: lwAll)) B.pre wd (List.mem_cons_of_mem _ h)
  have hown : s.vm.findClass RX7 = some m.cls := findClass_of_methodNamed B.named
  have hlocks := B.notSynchronized
  subst hsz
  have hD := hD0.self (sz := s.heap.size)
  have hl := lv_entry ([.ref hM, .int 1, .int (nI j0), .int x3, .int x4]) (n := 7) (Nat.le_of_ble_eq_true rfl)
  rw [lg_entry_eq]
  generalize (lg_sl ([.ref hM, .int 1, .int (nI j0), .int x3, .int x4]) ++ List.replicate (7 - (lg_sl ([.ref hM, .int 1, .int (nI j0), .int x3, .int x4])).length) Slot.unset).toArray = ls at hl ⊢
  have hl : lv_has ls 7 [(0, .ref hM), (1, .int 1), (2, .int (nI j0)), (3, .int x3), (4, .int x4)] := hl
  have hS : va_S (fun q : Nat => s.heap.size ≤ q) s.heap s.heap [] := va_S.rf
  generalize hQe : MQ below (va_Qi (fun (r : Int32) (_ : Unit) => r = (F_X7_unclearOf1 R C fi br K j0 x3 x4)) (fun _ _ => True) (fun q : Nat => s.heap.size ≤ q)) ([.ref hM, .int 1, .int (nI j0), .int x3, .int x4] : List Value).toArray s 0 0 (fun q : Nat => s.heap.size ≤ q) = Q
  have hP : va_P D vwCl [(hM, .inr (14, [.int th, .int (nI R), .int (nI C), .int fi, .int di, .int he, .int br, .int pa, .int gu, .int (nI sc), .int cl, .int se, .int lo, .int lu, .int rf, .ref kl, .ref kc, .ref hB])), (kl, .inr (6, [.int km, .ref kd, .int (nI K)]))] s.heap := hP
  obtain ⟨A, hAe⟩ : ∃ A, A = va_A [(hM, .inr (14, [.int th, .int (nI R), .int (nI C), .int fi, .int di, .int he, .int br, .int pa, .int gu, .int (nI sc), .int cl, .int se, .int lo, .int lu, .int rf, .ref kl, .ref kc, .ref hB])), (kl, .inr (6, [.int km, .ref kd, .int (nI K)]))] s.heap.size := ⟨_, rfl⟩
  rw [← hAe] at hD hZ
  have hA : ∀ q : Nat, s.heap.size ≤ q → A q := fun q h => by rw [hAe]; exact Or.inr h
  obtain ⟨H, hHe⟩ : ∃ H, H = s.heap := ⟨_, rfl⟩
  obtain ⟨locs, hLe⟩ : ∃ L : List Loc, L = [] := ⟨_, rfl⟩
  have hP : va_P D vwCl [(hM, .inr (14, [.int th, .int (nI R), .int (nI C), .int fi, .int di, .int he, .int br, .int pa, .int gu, .int (nI sc), .int cl, .int se, .int lo, .int lu, .int rf, .ref kl, .ref kc, .ref hB])), (kl, .inr (6, [.int km, .ref kd, .int (nI K)]))] H := by rw [hHe]; exact hP
  have hS : va_S (fun q : Nat => s.heap.size ≤ q) s.heap H locs := by rw [hHe, hLe]; exact hS
  have hgoal : W p l e ({ frames := 5, cells := 0, slots := 0, locals := 120 } : Room) s m ([.ref hM, .int 1, .int (nI j0), .int x3, .int x4] : List Value).toArray below meth c H locs 0 0 Q (F0 m 0 ls []) := by
    clear hHe hLe
    refine lv_iload_n hx hb dX7_unclearOf_0 rfl (lv_at hl 1 rfl) ?_
    refine lv_if_ne (tgt := 23) hx hb dX7_unclearOf_1 (by decide) (fun c_1 => ?_) (fun c_1 => ?_)
    · refine lv_iconst (v := 0) hx hb dX7_unclearOf_23 (by decide) ?_
      refine lv_istore (lv' := [(5, .int 0), (0, .ref hM), (1, .int 1), (2, .int (nI j0)), (3, .int x3), (4, .int x4)]) hx hb dX7_unclearOf_24 hl (by decide) rfl (fun ls hl => ?_)
      refine lv_iload_n hx hb dX7_unclearOf_26 rfl (lv_at hl 3 rfl) ?_
      refine lv_istore (lv' := [(6, .int (nI j0)), (5, .int 0), (0, .ref hM), (1, .int 1), (2, .int (nI j0)), (3, .int x3), (4, .int x4)]) hx hb dX7_unclearOf_27 hl (by decide) rfl (fun ls hl => ?_)
      have lp_29 : ∀ (n0 i0 : Nat), i0 + n0 = (K - j0) → ∀ (a0 : Int32) (H : Heap) (locs : List Loc) (ls : Array Slot), va_P D vwCl [(hM, .inr (14, [.int th, .int (nI R), .int (nI C), .int fi, .int di, .int he, .int br, .int pa, .int gu, .int (nI sc), .int cl, .int se, .int lo, .int lu, .int rf, .ref kl, .ref kc, .ref hB])), (kl, .inr (6, [.int km, .ref kd, .int (nI K)]))] H → va_D A [(hM, .inr (14, [.int th, .int (nI R), .int (nI C), .int fi, .int di, .int he, .int br, .int pa, .int gu, .int (nI sc), .int cl, .int se, .int lo, .int lu, .int rf, .ref kl, .ref kc, .ref hB])), (kl, .inr (6, [.int km, .ref kd, .int (nI K)]))] → va_S (fun q : Nat => s.heap.size ≤ q) s.heap H locs → lv_has ls 7 [(0, .ref hM), (1, .int 1), (2, .int (nI j0)), (3, .int x3), (4, .int x4), (5, .int a0), (6, .int (nI (j0 + i0)))] → (∀ (H : Heap) (locs : List Loc) (ls : Array Slot), va_P D vwCl [(hM, .inr (14, [.int th, .int (nI R), .int (nI C), .int fi, .int di, .int he, .int br, .int pa, .int gu, .int (nI sc), .int cl, .int se, .int lo, .int lu, .int rf, .ref kl, .ref kc, .ref hB])), (kl, .inr (6, [.int km, .ref kd, .int (nI K)]))] H → va_D A [(hM, .inr (14, [.int th, .int (nI R), .int (nI C), .int fi, .int di, .int he, .int br, .int pa, .int gu, .int (nI sc), .int cl, .int se, .int lo, .int lu, .int rf, .ref kl, .ref kc, .ref hB])), (kl, .inr (6, [.int km, .ref kd, .int (nI K)]))] → va_S (fun q : Nat => s.heap.size ≤ q) s.heap H locs → lv_has ls 7 [(0, .ref hM), (1, .int 1), (2, .int (nI j0)), (3, .int x3), (4, .int x4), (5, .int (itr (fun i a => S_X7_unclearOf1_29 R C fi br K j0 x3 x4 i a) n0 i0 a0)), (6, .int (nI (j0 + ((K - j0)))))] → W p l e ({ frames := 5, cells := 0, slots := 0, locals := 120 } : Room) s m ([.ref hM, .int 1, .int (nI j0), .int x3, .int x4] : List Value).toArray below meth c H locs 0 0 Q (F0 m 84 ls [])) → W p l e ({ frames := 5, cells := 0, slots := 0, locals := 120 } : Room) s m ([.ref hM, .int 1, .int (nI j0), .int x3, .int x4] : List Value).toArray below meth c H locs 0 0 Q (F0 m 29 ls []) := by
        intro n0
        induction n0 with
        | zero =>
          intro i0 hi0 a0 H locs ls hP hD hS hl kon
          have he0 : i0 = (K - j0) := by omega
          refine lv_iload hx hb dX7_unclearOf_29 (lv_at hl 6 rfl) ?_
          refine lv_aload_n hx hb dX7_unclearOf_31 rfl (lv_at hl 0 rfl) ?_
          refine va_get (D := D) (ci := 14) (v := .ref kl) (C := RX7) (T := TX7) (N := 18) hx hb hts in_X7 hown hK hP 0 rfl rfl 15 (by decide) (hts _ q_1283) (fun _ h9 => h9) rfl dX7_unclearOf_32 ?_
          have hPc := hP.sub (ws' := [(kl, .inr (6, [.int km, .ref kd, .int (nI K)]))]) [1] rfl
          have hDc := hD.sub (ws' := [(kl, .inr (6, [.int km, .ref kd, .int (nI K)]))]) [1] (by decide) rfl
          have hFc := va_free (wc := [(kl, .inr (6, [.int km, .ref kd, .int (nI K)]))]) hD (va_S_up hS hA) hA [1] rfl
          refine va_calli (va_runV (As := []) (rest := [.int (nI (j0 + i0))]) ⟨hx, hb, hml, hown, hts⟩ (c_Jx4a65c_size_8abf5 l D kl km kd K H.size ) (cwV 0 hts (gi_V q_1263 q_1264 q_1265 q_107 q_1266) rfl rfl rfl (by decide +kernel) ⟨Nat.le_of_ble_eq_true rfl, Nat.le_of_ble_eq_true rfl⟩) ⟨cPre_blind, va_recv hK hP (ci := 6) (q0 := 1) rfl rfl, cPre_mk hPc hK hDc hN (lwZ_for hZ (va_S_up hS hA) hFc)⟩ rfl rfl hl.1 rfl (lv_room (Nat.le_of_ble_eq_true rfl)) dX7_unclearOf_35 ⟨(Nat.le_of_ble_eq_true rfl), (Nat.le_of_ble_eq_true rfl)⟩) hS (fun q h1 h2 => absurd h2 (Nat.not_le.mpr h1)) (fun q h => Nat.le_trans hS.1 h) (fun r_35 u t H1 locs ht hvm hw hBk hz1 hk1 hS => ?_)
          have hP := va_P_ro hP hk1
          subst hw
          clear hBk hvm ht u hz1 hk1
          clear hPc hDc hFc; clear t
          generalize H1 = H at hP hS ⊢
          refine lv_icmp_ge (tgt := 84) hx hb dX7_unclearOf_38 (by decide) (fun c_2 => ?_) (fun c_2 => ?_)
          · subst he0
            exact kon H locs ls hP hD hS (lv_sub hl [0, 1, 2, 3, 4, 5, 6] rfl)
          · exact absurd (nI_le (a := K) (b := j0 + i0) (by omega) (by omega)) c_2
        | succ n0 ih0 =>
          intro i0 hi0 a0 H locs ls hP hD hS hl kon
          refine lv_iload hx hb dX7_unclearOf_29 (lv_at hl 6 rfl) ?_
          refine lv_aload_n hx hb dX7_unclearOf_31 rfl (lv_at hl 0 rfl) ?_
          refine va_get (D := D) (ci := 14) (v := .ref kl) (C := RX7) (T := TX7) (N := 18) hx hb hts in_X7 hown hK hP 0 rfl rfl 15 (by decide) (hts _ q_1283) (fun _ h9 => h9) rfl dX7_unclearOf_32 ?_
          have hPc := hP.sub (ws' := [(kl, .inr (6, [.int km, .ref kd, .int (nI K)]))]) [1] rfl
          have hDc := hD.sub (ws' := [(kl, .inr (6, [.int km, .ref kd, .int (nI K)]))]) [1] (by decide) rfl
          have hFc := va_free (wc := [(kl, .inr (6, [.int km, .ref kd, .int (nI K)]))]) hD (va_S_up hS hA) hA [1] rfl
          refine va_calli (va_runV (As := []) (rest := [.int (nI (j0 + i0))]) ⟨hx, hb, hml, hown, hts⟩ (c_Jx4a65c_size_8abf5 l D kl km kd K H.size ) (cwV 0 hts (gi_V q_1263 q_1264 q_1265 q_107 q_1266) rfl rfl rfl (by decide +kernel) ⟨Nat.le_of_ble_eq_true rfl, Nat.le_of_ble_eq_true rfl⟩) ⟨cPre_blind, va_recv hK hP (ci := 6) (q0 := 1) rfl rfl, cPre_mk hPc hK hDc hN (lwZ_for hZ (va_S_up hS hA) hFc)⟩ rfl rfl hl.1 rfl (lv_room (Nat.le_of_ble_eq_true rfl)) dX7_unclearOf_35 ⟨(Nat.le_of_ble_eq_true rfl), (Nat.le_of_ble_eq_true rfl)⟩) hS (fun q h1 h2 => absurd h2 (Nat.not_le.mpr h1)) (fun q h => Nat.le_trans hS.1 h) (fun r_35 u t H1 locs ht hvm hw hBk hz1 hk1 hS => ?_)
          have hP := va_P_ro hP hk1
          subst hw
          clear hBk hvm ht u hz1 hk1
          clear hPc hDc hFc; clear t
          generalize H1 = H at hP hS ⊢
          refine lv_icmp_ge (tgt := 84) hx hb dX7_unclearOf_38 (by decide) (fun c_3 => ?_) (fun c_3 => ?_)
          · exact absurd c_3 (nI_ge (a := j0 + i0) (b := K) (by omega) (by omega))
          · refine lv_aload_n hx hb dX7_unclearOf_41 rfl (lv_at hl 0 rfl) ?_
            refine va_get (D := D) (ci := 14) (v := .int fi) (C := RX7) (T := TX7) (N := 18) hx hb hts in_X7 hown hK hP 0 rfl rfl 3 (by decide) (hts _ q_1271) (fun _ h9 => h9) rfl dX7_unclearOf_42 ?_
            refine lv_iload hx hb dX7_unclearOf_45 (lv_at hl 6 rfl) ?_
            have hPc := hP.sub (ws' := []) [] rfl
            have hDc := hD.sub (ws' := []) [] (by decide) rfl
            have hFc := va_free (wc := []) hD (va_S_up hS hA) hA [] rfl
            refine va_calli (va_runS (As := [.int fi, .int (nI (j0 + i0))]) (rest := []) ⟨hx, hb, hml, hown, hts⟩ (c_X7_has l D fi (nI (j0 + i0)) H.size ) (cwS 2 hts (gi_S q_1361 q_1362 q_104 q_1363) rfl rfl rfl (by decide +kernel) ⟨Nat.le_of_ble_eq_true rfl, Nat.le_of_ble_eq_true rfl⟩) ⟨cPre_blind, cPre_mk hPc hK hDc hN (lwZ_for hZ (va_S_up hS hA) hFc)⟩ rfl rfl hl.1 rfl (lv_room (Nat.le_of_ble_eq_true rfl)) dX7_unclearOf_47 ⟨(Nat.le_of_ble_eq_true rfl), (Nat.le_of_ble_eq_true rfl)⟩) hS (fun q h1 h2 => absurd h2 (Nat.not_le.mpr h1)) (fun q h => Nat.le_trans hS.1 h) (fun r_47 u t H1 locs ht hvm hw hBk hz1 hk1 hS => ?_)
            have hP := va_P_ro hP hk1
            obtain ⟨hw, z_4⟩ := hw
            rw [hw] at z_4
            subst hw
            clear hBk hvm ht u hz1 hk1
            clear hPc hDc hFc; clear t
            generalize H1 = H at hP hS ⊢
            refine lv_if_eq (tgt := 78) hx hb dX7_unclearOf_50 (by decide) (fun c_5 => ?_) (fun c_5 => ?_)
            · refine lv_iinc (v := nI (j0 + (i0 + 1))) (lv' := [(6, .int (nI (j0 + (i0 + 1)))), (0, .ref hM), (1, .int 1), (2, .int (nI j0)), (3, .int x3), (4, .int x4), (5, .int a0)]) hx hb dX7_unclearOf_78 hl (k := 6) rfl ((nI_1 _)) (by decide) rfl (fun ls hl => ?_)
              refine lv_goto (tgt := 29) hx hb dX7_unclearOf_81 (by decide) ?_
              have hE : S_X7_unclearOf1_29 R C fi br K j0 x3 x4 i0 a0 = a0 := (by unfold S_X7_unclearOf1_29; rw [if_pos c_5])
              have hl : lv_has ls 7 [(0, .ref hM), (1, .int 1), (2, .int (nI j0)), (3, .int x3), (4, .int x4), (5, .int a0), (6, .int (nI (j0 + (i0 + 1))))] := lv_sub hl [1, 2, 3, 4, 5, 6, 0] rfl
              have hP := hP.sub (ws' := [(hM, .inr (14, [.int th, .int (nI R), .int (nI C), .int fi, .int di, .int he, .int br, .int pa, .int gu, .int (nI sc), .int cl, .int se, .int lo, .int lu, .int rf, .ref kl, .ref kc, .ref hB])), (kl, .inr (6, [.int km, .ref kd, .int (nI K)]))]) [0, 1] rfl
              have hD := hD.sub (ws' := [(hM, .inr (14, [.int th, .int (nI R), .int (nI C), .int fi, .int di, .int he, .int br, .int pa, .int gu, .int (nI sc), .int cl, .int se, .int lo, .int lu, .int rf, .ref kl, .ref kc, .ref hB])), (kl, .inr (6, [.int km, .ref kd, .int (nI K)]))]) [0, 1] (by decide) rfl
              exact ih0 (i0 + 1) (by omega) (S_X7_unclearOf1_29 R C fi br K j0 x3 x4 i0 a0) H locs ls (by (try rw [hE]); exact hP) (by (try rw [hE]); exact hD) hS (by (try rw [hE]); exact hl) kon
            · refine lv_iload hx hb dX7_unclearOf_53 (lv_at hl 5 rfl) ?_
              refine lv_aload_n hx hb dX7_unclearOf_55 rfl (lv_at hl 0 rfl) ?_
              refine lv_iload_n hx hb dX7_unclearOf_56 rfl (lv_at hl 1 rfl) ?_
              refine lv_iconst (v := 1) hx hb dX7_unclearOf_57 (by decide) ?_
              refine lv_isub hx hb dX7_unclearOf_58 ?_
              rw [show (1 - 1 : Int32) = 0 from (by decide)]
              refine lv_iload hx hb dX7_unclearOf_59 (lv_at hl 6 rfl) ?_
              refine lv_iconst (v := 1) hx hb dX7_unclearOf_61 (by decide) ?_
              refine lv_iadd hx hb dX7_unclearOf_62 ?_
              refine lv_iload_n hx hb dX7_unclearOf_63 rfl (lv_at hl 3 rfl) ?_
              refine lv_iload hx hb dX7_unclearOf_64 (lv_at hl 6 rfl) ?_
              refine lv_iconst (v := 1) hx hb dX7_unclearOf_66 (by decide) ?_
              have hPc := hP.sub (ws' := []) [] rfl
              have hDc := hD.sub (ws' := []) [] (by decide) rfl
              have hFc := va_free (wc := []) hD (va_S_up hS hA) hA [] rfl
              refine va_calli (va_runS (As := [.int x3, .int (nI (j0 + i0)), .int 1]) (rest := [.int ((nI (j0 + i0)) + 1), .int 0, .ref hM, .int a0]) ⟨hx, hb, hml, hown, hts⟩ (c_X7_with l D x3 (nI (j0 + i0)) 1 H.size ) (cwS 3 hts (gi_S q_1346 q_1347 q_104 q_1348) rfl rfl rfl (by decide +kernel) ⟨Nat.le_of_ble_eq_true rfl, Nat.le_of_ble_eq_true rfl⟩) ⟨cPre_blind, cPre_mk hPc hK hDc hN (lwZ_for hZ (va_S_up hS hA) hFc)⟩ rfl rfl hl.1 rfl (lv_room (Nat.le_of_ble_eq_true rfl)) dX7_unclearOf_67 ⟨(Nat.le_of_ble_eq_true rfl), (Nat.le_of_ble_eq_true rfl)⟩) hS (fun q h1 h2 => absurd h2 (Nat.not_le.mpr h1)) (fun q h => Nat.le_trans hS.1 h) (fun r_67 u t H1 locs ht hvm hw hBk hz1 hk1 hS => ?_)
              have hP := va_P_ro hP hk1
              subst hw
              clear hBk hvm ht u hz1 hk1
              clear hPc hDc hFc; clear t
              generalize H1 = H at hP hS ⊢
              refine lv_iload hx hb dX7_unclearOf_70 (lv_at hl 4 rfl) ?_
              have hPc := hP.sub (ws' := [(hM, .inr (14, [.int th, .int (nI R), .int (nI C), .int fi, .int di, .int he, .int br, .int pa, .int gu, .int (nI sc), .int cl, .int se, .int lo, .int lu, .int rf, .ref kl, .ref kc, .ref hB])), (kl, .inr (6, [.int km, .ref kd, .int (nI K)]))]) [0, 1] rfl
              have hDc := hD.sub (ws' := [(hM, .inr (14, [.int th, .int (nI R), .int (nI C), .int fi, .int di, .int he, .int br, .int pa, .int gu, .int (nI sc), .int cl, .int se, .int lo, .int lu, .int rf, .ref kl, .ref kc, .ref hB])), (kl, .inr (6, [.int km, .ref kd, .int (nI K)]))]) [0, 1] (by decide) rfl
              have hFc := va_free (wc := [(hM, .inr (14, [.int th, .int (nI R), .int (nI C), .int fi, .int di, .int he, .int br, .int pa, .int gu, .int (nI sc), .int cl, .int se, .int lo, .int lu, .int rf, .ref kl, .ref kc, .ref hB])), (kl, .inr (6, [.int km, .ref kd, .int (nI K)]))]) hD (va_S_up hS hA) hA [0, 1] rfl
              refine va_calli (va_runV (As := [.int 0, .int ((nI (j0 + i0)) + 1), .int (F_X7_with x3 (nI (j0 + i0)) 1), .int x4]) (rest := [.int a0]) ⟨hx, hb, hml, hown, hts⟩ (c_X7_unclearOf0 l D hM th R C fi di he br pa gu sc cl se lo lu rf kl kc hB km kd K ((j0 + i0) + 1) (F_X7_with x3 (nI (j0 + i0)) 1) x4 ((nI (j0 + i0)) + 1) H.size (show R ≤ 5 from hR) (show C ≤ 5 from hC) (show 0 < C from hC0) (show K ≤ 25 from hKb) (show ((j0 + i0) + 1) ≤ 25 from (by omega)) (show ((nI (j0 + i0)) + 1) = nI ((j0 + i0) + 1) from (nI_1 _))) (cwV 4 hts (gi_V q_1613 q_1615 q_75 q_104 q_1616) rfl rfl rfl (by decide +kernel) ⟨Nat.le_of_ble_eq_true rfl, Nat.le_of_ble_eq_true rfl⟩) ⟨cPre_blind, va_recv hK hP (ci := 14) (q0 := 0) rfl rfl, cPre_mk hPc hK hDc hN (lwZ_for hZ (va_S_up hS hA) hFc)⟩ rfl rfl hl.1 rfl (lv_room (Nat.le_of_ble_eq_true rfl)) dX7_unclearOf_72 ⟨(Nat.le_of_ble_eq_true rfl), (Nat.le_of_ble_eq_true rfl)⟩) hS (fun q h1 h2 => absurd h2 (Nat.not_le.mpr h1)) (fun q h => Nat.le_trans hS.1 h) (fun r_72 u t H1 locs ht hvm hw hBk hz1 hk1 hS => ?_)
              have hP := va_P_ro hP hk1
              subst hw
              clear hBk hvm ht u hz1 hk1
              clear hPc hDc hFc; clear t
              generalize H1 = H at hP hS ⊢
              refine lv_iadd hx hb dX7_unclearOf_75 ?_
              refine lv_istore (lv' := [(5, .int (a0 + (F_X7_unclearOf0 R C fi br K (F_X7_with x3 (nI (j0 + i0)) 1) x4))), (0, .ref hM), (1, .int 1), (2, .int (nI j0)), (3, .int x3), (4, .int x4), (6, .int (nI (j0 + i0)))]) hx hb dX7_unclearOf_76 hl (by decide) rfl (fun ls hl => ?_)
              refine lv_iinc (v := nI (j0 + (i0 + 1))) (lv' := [(6, .int (nI (j0 + (i0 + 1)))), (5, .int (a0 + (F_X7_unclearOf0 R C fi br K (F_X7_with x3 (nI (j0 + i0)) 1) x4))), (0, .ref hM), (1, .int 1), (2, .int (nI j0)), (3, .int x3), (4, .int x4)]) hx hb dX7_unclearOf_78 hl (k := 6) rfl ((nI_1 _)) (by decide) rfl (fun ls hl => ?_)
              refine lv_goto (tgt := 29) hx hb dX7_unclearOf_81 (by decide) ?_
              have hE : S_X7_unclearOf1_29 R C fi br K j0 x3 x4 i0 a0 = a0 + (F_X7_unclearOf0 R C fi br K (F_X7_with x3 (nI (j0 + i0)) 1) x4) := (by unfold S_X7_unclearOf1_29; rw [if_neg c_5])
              have hl : lv_has ls 7 [(0, .ref hM), (1, .int 1), (2, .int (nI j0)), (3, .int x3), (4, .int x4), (5, .int (a0 + (F_X7_unclearOf0 R C fi br K (F_X7_with x3 (nI (j0 + i0)) 1) x4))), (6, .int (nI (j0 + (i0 + 1))))] := lv_sub hl [2, 3, 4, 5, 6, 1, 0] rfl
              have hP := hP.sub (ws' := [(hM, .inr (14, [.int th, .int (nI R), .int (nI C), .int fi, .int di, .int he, .int br, .int pa, .int gu, .int (nI sc), .int cl, .int se, .int lo, .int lu, .int rf, .ref kl, .ref kc, .ref hB])), (kl, .inr (6, [.int km, .ref kd, .int (nI K)]))]) [0, 1] rfl
              have hD := hD.sub (ws' := [(hM, .inr (14, [.int th, .int (nI R), .int (nI C), .int fi, .int di, .int he, .int br, .int pa, .int gu, .int (nI sc), .int cl, .int se, .int lo, .int lu, .int rf, .ref kl, .ref kc, .ref hB])), (kl, .inr (6, [.int km, .ref kd, .int (nI K)]))]) [0, 1] (by decide) rfl
              exact ih0 (i0 + 1) (by omega) (S_X7_unclearOf1_29 R C fi br K j0 x3 x4 i0 a0) H locs ls (by (try rw [hE]); exact hP) (by (try rw [hE]); exact hD) hS (by (try rw [hE]); exact hl) kon
      have hl : lv_has ls 7 [(0, .ref hM), (1, .int 1), (2, .int (nI j0)), (3, .int x3), (4, .int x4), (5, .int 0), (6, .int (nI (j0 + 0)))] := lv_sub hl [2, 3, 4, 5, 6, 1, 0] rfl
      refine lp_29 (K - j0) 0 (by omega) 0 H locs ls hP hD hS hl ?_
      clear lp_29 hP hD hS hl
      intro H locs ls hP hD hS hl
      refine lv_iload hx hb dX7_unclearOf_84 (lv_at hl 5 rfl) ?_
      subst hQe
      exact W.iret (v := (itr (fun i a => S_X7_unclearOf1_29 R C fi br K j0 x3 x4 i a) (K - j0) 0 0)) hx hb hr (fun t ht hW => ⟨⟨(itr (fun i a => S_X7_unclearOf1_29 R C fi br K j0 x3 x4 i a) (K - j0) 0 0), (), rfl, (by rfl), trivial⟩, hS.F ht⟩) hS.2.2 dX7_unclearOf_86
    · exact absurd c_1 (by decide)
  rw [hHe, hLe] at hgoal
  exact hgoal

def S_X7_unclearOf2_29 (R : Nat) (C : Nat) (fi : Int32) (br : Int32) (K : Nat) (j0 : Nat) (x3 : Int32) (x4 : Int32) (i0 : Nat) (a0 : Int32) : Int32 := (if (F_X7_has fi (nI (j0 + i0))) = 0 then a0 else a0 + (F_X7_unclearOf1 R C fi br K ((j0 + i0) + 1) (F_X7_with x3 (nI (j0 + i0)) 1) x4))
def F_X7_unclearOf2 (R : Nat) (C : Nat) (fi : Int32) (br : Int32) (K : Nat) (j0 : Nat) (x3 : Int32) (x4 : Int32) : Int32 := (itr (fun i a => S_X7_unclearOf2_29 R C fi br K j0 x3 x4 i a) (K - j0) 0 0)
set_option maxHeartbeats 4000000 in
set_option maxRecDepth 100000 in
theorem c_X7_unclearOf2 (l : Launch) (D : va_G) (hM : Nat) (th : Int32) (R : Nat) (C : Nat) (fi : Int32) (di : Int32) (he : Int32) (br : Int32) (pa : Int32) (gu : Int32) (sc : Nat) (cl : Int32) (se : Int32) (lo : Int32) (lu : Int32) (rf : Int32) (kl : Nat) (kc : Nat) (hB : Nat) (km : Int32) (kd : Nat) (K : Nat) (j0 : Nat) (x3 : Int32) (x4 : Int32) (x2 : Int32) (sz : Nat) (hR : R ≤ 5) (hC : C ≤ 5) (hC0 : 0 < C) (hKb : K ≤ 25) (hj0 : j0 ≤ 25) (hx2 : x2 = nI j0) : Met l yX7_unclearOf (Cond.code yX7_unclearOf cX7_unclearOf 7 (some .int) :: lwAll) ({ frames := 6, cells := 0, slots := 0, locals := 146 } : Room) (va_Pc [.ref hM, .int 2, .int x2, .int x3, .int x4] (cPre D (lwTY D) [(hM, .inr (14, [.int th, .int (nI R), .int (nI C), .int fi, .int di, .int he, .int br, .int pa, .int gu, .int (nI sc), .int cl, .int se, .int lo, .int lu, .int rf, .ref kl, .ref kc, .ref hB])), (kl, .inr (6, [.int km, .ref kd, .int (nI K)]))] sz)) (va_Qi (fun (r : Int32) (_ : Unit) => r = (F_X7_unclearOf2 R C fi br K j0 x3 x4)) (fun _ _ => True) (fun q : Nat => sz ≤ q)) 0 0 (fun q : Nat => sz ≤ q) := by
  subst hx2
  refine Met.ofW (cc := cX7_unclearOf) (maxL := 7) (ret := (some .int)) (by decide) rfl ?_
  intro p e s m args below meth c s₁ B hml hv
  obtain ⟨rfl, hsz, hP, hK, hD0, hN, hZ⟩ := hv
  have hx := B.exec
  have hb := B.bytes
  have hr := B.returns
  have hts : ∀ wd ∈ lwAll, wd.before ([.ref hM, .int 2, .int (nI j0), .int x3, .int x4] : List Value).toArray s = true := fun wd h => atoms_spec (ws := (Cond.code yX7_unclearOf cX7_unclearOf 7 (some .int) :: lwAll)) B.pre wd (List.mem_cons_of_mem _ h)
  have hown : s.vm.findClass RX7 = some m.cls := findClass_of_methodNamed B.named
  have hlocks := B.notSynchronized
  subst hsz
  have hD := hD0.self (sz := s.heap.size)
  have hl := lv_entry ([.ref hM, .int 2, .int (nI j0), .int x3, .int x4]) (n := 7) (Nat.le_of_ble_eq_true rfl)
  rw [lg_entry_eq]
  generalize (lg_sl ([.ref hM, .int 2, .int (nI j0), .int x3, .int x4]) ++ List.replicate (7 - (lg_sl ([.ref hM, .int 2, .int (nI j0), .int x3, .int x4])).length) Slot.unset).toArray = ls at hl ⊢
  have hl : lv_has ls 7 [(0, .ref hM), (1, .int 2), (2, .int (nI j0)), (3, .int x3), (4, .int x4)] := hl
  have hS : va_S (fun q : Nat => s.heap.size ≤ q) s.heap s.heap [] := va_S.rf
  generalize hQe : MQ below (va_Qi (fun (r : Int32) (_ : Unit) => r = (F_X7_unclearOf2 R C fi br K j0 x3 x4)) (fun _ _ => True) (fun q : Nat => s.heap.size ≤ q)) ([.ref hM, .int 2, .int (nI j0), .int x3, .int x4] : List Value).toArray s 0 0 (fun q : Nat => s.heap.size ≤ q) = Q
  have hP : va_P D vwCl [(hM, .inr (14, [.int th, .int (nI R), .int (nI C), .int fi, .int di, .int he, .int br, .int pa, .int gu, .int (nI sc), .int cl, .int se, .int lo, .int lu, .int rf, .ref kl, .ref kc, .ref hB])), (kl, .inr (6, [.int km, .ref kd, .int (nI K)]))] s.heap := hP
  obtain ⟨A, hAe⟩ : ∃ A, A = va_A [(hM, .inr (14, [.int th, .int (nI R), .int (nI C), .int fi, .int di, .int he, .int br, .int pa, .int gu, .int (nI sc), .int cl, .int se, .int lo, .int lu, .int rf, .ref kl, .ref kc, .ref hB])), (kl, .inr (6, [.int km, .ref kd, .int (nI K)]))] s.heap.size := ⟨_, rfl⟩
  rw [← hAe] at hD hZ
  have hA : ∀ q : Nat, s.heap.size ≤ q → A q := fun q h => by rw [hAe]; exact Or.inr h
  obtain ⟨H, hHe⟩ : ∃ H, H = s.heap := ⟨_, rfl⟩
  obtain ⟨locs, hLe⟩ : ∃ L : List Loc, L = [] := ⟨_, rfl⟩
  have hP : va_P D vwCl [(hM, .inr (14, [.int th, .int (nI R), .int (nI C), .int fi, .int di, .int he, .int br, .int pa, .int gu, .int (nI sc), .int cl, .int se, .int lo, .int lu, .int rf, .ref kl, .ref kc, .ref hB])), (kl, .inr (6, [.int km, .ref kd, .int (nI K)]))] H := by rw [hHe]; exact hP
  have hS : va_S (fun q : Nat => s.heap.size ≤ q) s.heap H locs := by rw [hHe, hLe]; exact hS
  have hgoal : W p l e ({ frames := 6, cells := 0, slots := 0, locals := 146 } : Room) s m ([.ref hM, .int 2, .int (nI j0), .int x3, .int x4] : List Value).toArray below meth c H locs 0 0 Q (F0 m 0 ls []) := by
    clear hHe hLe
    refine lv_iload_n hx hb dX7_unclearOf_0 rfl (lv_at hl 1 rfl) ?_
    refine lv_if_ne (tgt := 23) hx hb dX7_unclearOf_1 (by decide) (fun c_1 => ?_) (fun c_1 => ?_)
    · refine lv_iconst (v := 0) hx hb dX7_unclearOf_23 (by decide) ?_
      refine lv_istore (lv' := [(5, .int 0), (0, .ref hM), (1, .int 2), (2, .int (nI j0)), (3, .int x3), (4, .int x4)]) hx hb dX7_unclearOf_24 hl (by decide) rfl (fun ls hl => ?_)
      refine lv_iload_n hx hb dX7_unclearOf_26 rfl (lv_at hl 3 rfl) ?_
      refine lv_istore (lv' := [(6, .int (nI j0)), (5, .int 0), (0, .ref hM), (1, .int 2), (2, .int (nI j0)), (3, .int x3), (4, .int x4)]) hx hb dX7_unclearOf_27 hl (by decide) rfl (fun ls hl => ?_)
      have lp_29 : ∀ (n0 i0 : Nat), i0 + n0 = (K - j0) → ∀ (a0 : Int32) (H : Heap) (locs : List Loc) (ls : Array Slot), va_P D vwCl [(hM, .inr (14, [.int th, .int (nI R), .int (nI C), .int fi, .int di, .int he, .int br, .int pa, .int gu, .int (nI sc), .int cl, .int se, .int lo, .int lu, .int rf, .ref kl, .ref kc, .ref hB])), (kl, .inr (6, [.int km, .ref kd, .int (nI K)]))] H → va_D A [(hM, .inr (14, [.int th, .int (nI R), .int (nI C), .int fi, .int di, .int he, .int br, .int pa, .int gu, .int (nI sc), .int cl, .int se, .int lo, .int lu, .int rf, .ref kl, .ref kc, .ref hB])), (kl, .inr (6, [.int km, .ref kd, .int (nI K)]))] → va_S (fun q : Nat => s.heap.size ≤ q) s.heap H locs → lv_has ls 7 [(0, .ref hM), (1, .int 2), (2, .int (nI j0)), (3, .int x3), (4, .int x4), (5, .int a0), (6, .int (nI (j0 + i0)))] → (∀ (H : Heap) (locs : List Loc) (ls : Array Slot), va_P D vwCl [(hM, .inr (14, [.int th, .int (nI R), .int (nI C), .int fi, .int di, .int he, .int br, .int pa, .int gu, .int (nI sc), .int cl, .int se, .int lo, .int lu, .int rf, .ref kl, .ref kc, .ref hB])), (kl, .inr (6, [.int km, .ref kd, .int (nI K)]))] H → va_D A [(hM, .inr (14, [.int th, .int (nI R), .int (nI C), .int fi, .int di, .int he, .int br, .int pa, .int gu, .int (nI sc), .int cl, .int se, .int lo, .int lu, .int rf, .ref kl, .ref kc, .ref hB])), (kl, .inr (6, [.int km, .ref kd, .int (nI K)]))] → va_S (fun q : Nat => s.heap.size ≤ q) s.heap H locs → lv_has ls 7 [(0, .ref hM), (1, .int 2), (2, .int (nI j0)), (3, .int x3), (4, .int x4), (5, .int (itr (fun i a => S_X7_unclearOf2_29 R C fi br K j0 x3 x4 i a) n0 i0 a0)), (6, .int (nI (j0 + ((K - j0)))))] → W p l e ({ frames := 6, cells := 0, slots := 0, locals := 146 } : Room) s m ([.ref hM, .int 2, .int (nI j0), .int x3, .int x4] : List Value).toArray below meth c H locs 0 0 Q (F0 m 84 ls [])) → W p l e ({ frames := 6, cells := 0, slots := 0, locals := 146 } : Room) s m ([.ref hM, .int 2, .int (nI j0), .int x3, .int x4] : List Value).toArray below meth c H locs 0 0 Q (F0 m 29 ls []) := by
        intro n0
        induction n0 with
        | zero =>
          intro i0 hi0 a0 H locs ls hP hD hS hl kon
          have he0 : i0 = (K - j0) := by omega
          refine lv_iload hx hb dX7_unclearOf_29 (lv_at hl 6 rfl) ?_
          refine lv_aload_n hx hb dX7_unclearOf_31 rfl (lv_at hl 0 rfl) ?_
          refine va_get (D := D) (ci := 14) (v := .ref kl) (C := RX7) (T := TX7) (N := 18) hx hb hts in_X7 hown hK hP 0 rfl rfl 15 (by decide) (hts _ q_1283) (fun _ h9 => h9) rfl dX7_unclearOf_32 ?_
          have hPc := hP.sub (ws' := [(kl, .inr (6, [.int km, .ref kd, .int (nI K)]))]) [1] rfl
          have hDc := hD.sub (ws' := [(kl, .inr (6, [.int km, .ref kd, .int (nI K)]))]) [1] (by decide) rfl
          have hFc := va_free (wc := [(kl, .inr (6, [.int km, .ref kd, .int (nI K)]))]) hD (va_S_up hS hA) hA [1] rfl
          refine va_calli (va_runV (As := []) (rest := [.int (nI (j0 + i0))]) ⟨hx, hb, hml, hown, hts⟩ (c_Jx4a65c_size_8abf5 l D kl km kd K H.size ) (cwV 0 hts (gi_V q_1263 q_1264 q_1265 q_107 q_1266) rfl rfl rfl (by decide +kernel) ⟨Nat.le_of_ble_eq_true rfl, Nat.le_of_ble_eq_true rfl⟩) ⟨cPre_blind, va_recv hK hP (ci := 6) (q0 := 1) rfl rfl, cPre_mk hPc hK hDc hN (lwZ_for hZ (va_S_up hS hA) hFc)⟩ rfl rfl hl.1 rfl (lv_room (Nat.le_of_ble_eq_true rfl)) dX7_unclearOf_35 ⟨(Nat.le_of_ble_eq_true rfl), (Nat.le_of_ble_eq_true rfl)⟩) hS (fun q h1 h2 => absurd h2 (Nat.not_le.mpr h1)) (fun q h => Nat.le_trans hS.1 h) (fun r_35 u t H1 locs ht hvm hw hBk hz1 hk1 hS => ?_)
          have hP := va_P_ro hP hk1
          subst hw
          clear hBk hvm ht u hz1 hk1
          clear hPc hDc hFc; clear t
          generalize H1 = H at hP hS ⊢
          refine lv_icmp_ge (tgt := 84) hx hb dX7_unclearOf_38 (by decide) (fun c_2 => ?_) (fun c_2 => ?_)
          · subst he0
            exact kon H locs ls hP hD hS (lv_sub hl [0, 1, 2, 3, 4, 5, 6] rfl)
          · exact absurd (nI_le (a := K) (b := j0 + i0) (by omega) (by omega)) c_2
        | succ n0 ih0 =>
          intro i0 hi0 a0 H locs ls hP hD hS hl kon
          refine lv_iload hx hb dX7_unclearOf_29 (lv_at hl 6 rfl) ?_
          refine lv_aload_n hx hb dX7_unclearOf_31 rfl (lv_at hl 0 rfl) ?_
          refine va_get (D := D) (ci := 14) (v := .ref kl) (C := RX7) (T := TX7) (N := 18) hx hb hts in_X7 hown hK hP 0 rfl rfl 15 (by decide) (hts _ q_1283) (fun _ h9 => h9) rfl dX7_unclearOf_32 ?_
          have hPc := hP.sub (ws' := [(kl, .inr (6, [.int km, .ref kd, .int (nI K)]))]) [1] rfl
          have hDc := hD.sub (ws' := [(kl, .inr (6, [.int km, .ref kd, .int (nI K)]))]) [1] (by decide) rfl
          have hFc := va_free (wc := [(kl, .inr (6, [.int km, .ref kd, .int (nI K)]))]) hD (va_S_up hS hA) hA [1] rfl
          refine va_calli (va_runV (As := []) (rest := [.int (nI (j0 + i0))]) ⟨hx, hb, hml, hown, hts⟩ (c_Jx4a65c_size_8abf5 l D kl km kd K H.size ) (cwV 0 hts (gi_V q_1263 q_1264 q_1265 q_107 q_1266) rfl rfl rfl (by decide +kernel) ⟨Nat.le_of_ble_eq_true rfl, Nat.le_of_ble_eq_true rfl⟩) ⟨cPre_blind, va_recv hK hP (ci := 6) (q0 := 1) rfl rfl, cPre_mk hPc hK hDc hN (lwZ_for hZ (va_S_up hS hA) hFc)⟩ rfl rfl hl.1 rfl (lv_room (Nat.le_of_ble_eq_true rfl)) dX7_unclearOf_35 ⟨(Nat.le_of_ble_eq_true rfl), (Nat.le_of_ble_eq_true rfl)⟩) hS (fun q h1 h2 => absurd h2 (Nat.not_le.mpr h1)) (fun q h => Nat.le_trans hS.1 h) (fun r_35 u t H1 locs ht hvm hw hBk hz1 hk1 hS => ?_)
          have hP := va_P_ro hP hk1
          subst hw
          clear hBk hvm ht u hz1 hk1
          clear hPc hDc hFc; clear t
          generalize H1 = H at hP hS ⊢
          refine lv_icmp_ge (tgt := 84) hx hb dX7_unclearOf_38 (by decide) (fun c_3 => ?_) (fun c_3 => ?_)
          · exact absurd c_3 (nI_ge (a := j0 + i0) (b := K) (by omega) (by omega))
          · refine lv_aload_n hx hb dX7_unclearOf_41 rfl (lv_at hl 0 rfl) ?_
            refine va_get (D := D) (ci := 14) (v := .int fi) (C := RX7) (T := TX7) (N := 18) hx hb hts in_X7 hown hK hP 0 rfl rfl 3 (by decide) (hts _ q_1271) (fun _ h9 => h9) rfl dX7_unclearOf_42 ?_
            refine lv_iload hx hb dX7_unclearOf_45 (lv_at hl 6 rfl) ?_
            have hPc := hP.sub (ws' := []) [] rfl
            have hDc := hD.sub (ws' := []) [] (by decide) rfl
            have hFc := va_free (wc := []) hD (va_S_up hS hA) hA [] rfl
            refine va_calli (va_runS (As := [.int fi, .int (nI (j0 + i0))]) (rest := []) ⟨hx, hb, hml, hown, hts⟩ (c_X7_has l D fi (nI (j0 + i0)) H.size ) (cwS 2 hts (gi_S q_1361 q_1362 q_104 q_1363) rfl rfl rfl (by decide +kernel) ⟨Nat.le_of_ble_eq_true rfl, Nat.le_of_ble_eq_true rfl⟩) ⟨cPre_blind, cPre_mk hPc hK hDc hN (lwZ_for hZ (va_S_up hS hA) hFc)⟩ rfl rfl hl.1 rfl (lv_room (Nat.le_of_ble_eq_true rfl)) dX7_unclearOf_47 ⟨(Nat.le_of_ble_eq_true rfl), (Nat.le_of_ble_eq_true rfl)⟩) hS (fun q h1 h2 => absurd h2 (Nat.not_le.mpr h1)) (fun q h => Nat.le_trans hS.1 h) (fun r_47 u t H1 locs ht hvm hw hBk hz1 hk1 hS => ?_)
            have hP := va_P_ro hP hk1
            obtain ⟨hw, z_4⟩ := hw
            rw [hw] at z_4
            subst hw
            clear hBk hvm ht u hz1 hk1
            clear hPc hDc hFc; clear t
            generalize H1 = H at hP hS ⊢
            refine lv_if_eq (tgt := 78) hx hb dX7_unclearOf_50 (by decide) (fun c_5 => ?_) (fun c_5 => ?_)
            · refine lv_iinc (v := nI (j0 + (i0 + 1))) (lv' := [(6, .int (nI (j0 + (i0 + 1)))), (0, .ref hM), (1, .int 2), (2, .int (nI j0)), (3, .int x3), (4, .int x4), (5, .int a0)]) hx hb dX7_unclearOf_78 hl (k := 6) rfl ((nI_1 _)) (by decide) rfl (fun ls hl => ?_)
              refine lv_goto (tgt := 29) hx hb dX7_unclearOf_81 (by decide) ?_
              have hE : S_X7_unclearOf2_29 R C fi br K j0 x3 x4 i0 a0 = a0 := (by unfold S_X7_unclearOf2_29; rw [if_pos c_5])
              have hl : lv_has ls 7 [(0, .ref hM), (1, .int 2), (2, .int (nI j0)), (3, .int x3), (4, .int x4), (5, .int a0), (6, .int (nI (j0 + (i0 + 1))))] := lv_sub hl [1, 2, 3, 4, 5, 6, 0] rfl
              have hP := hP.sub (ws' := [(hM, .inr (14, [.int th, .int (nI R), .int (nI C), .int fi, .int di, .int he, .int br, .int pa, .int gu, .int (nI sc), .int cl, .int se, .int lo, .int lu, .int rf, .ref kl, .ref kc, .ref hB])), (kl, .inr (6, [.int km, .ref kd, .int (nI K)]))]) [0, 1] rfl
              have hD := hD.sub (ws' := [(hM, .inr (14, [.int th, .int (nI R), .int (nI C), .int fi, .int di, .int he, .int br, .int pa, .int gu, .int (nI sc), .int cl, .int se, .int lo, .int lu, .int rf, .ref kl, .ref kc, .ref hB])), (kl, .inr (6, [.int km, .ref kd, .int (nI K)]))]) [0, 1] (by decide) rfl
              exact ih0 (i0 + 1) (by omega) (S_X7_unclearOf2_29 R C fi br K j0 x3 x4 i0 a0) H locs ls (by (try rw [hE]); exact hP) (by (try rw [hE]); exact hD) hS (by (try rw [hE]); exact hl) kon
            · refine lv_iload hx hb dX7_unclearOf_53 (lv_at hl 5 rfl) ?_
              refine lv_aload_n hx hb dX7_unclearOf_55 rfl (lv_at hl 0 rfl) ?_
              refine lv_iload_n hx hb dX7_unclearOf_56 rfl (lv_at hl 1 rfl) ?_
              refine lv_iconst (v := 1) hx hb dX7_unclearOf_57 (by decide) ?_
              refine lv_isub hx hb dX7_unclearOf_58 ?_
              rw [show (2 - 1 : Int32) = 1 from (by decide)]
              refine lv_iload hx hb dX7_unclearOf_59 (lv_at hl 6 rfl) ?_
              refine lv_iconst (v := 1) hx hb dX7_unclearOf_61 (by decide) ?_
              refine lv_iadd hx hb dX7_unclearOf_62 ?_
              refine lv_iload_n hx hb dX7_unclearOf_63 rfl (lv_at hl 3 rfl) ?_
              refine lv_iload hx hb dX7_unclearOf_64 (lv_at hl 6 rfl) ?_
              refine lv_iconst (v := 1) hx hb dX7_unclearOf_66 (by decide) ?_
              have hPc := hP.sub (ws' := []) [] rfl
              have hDc := hD.sub (ws' := []) [] (by decide) rfl
              have hFc := va_free (wc := []) hD (va_S_up hS hA) hA [] rfl
              refine va_calli (va_runS (As := [.int x3, .int (nI (j0 + i0)), .int 1]) (rest := [.int ((nI (j0 + i0)) + 1), .int 1, .ref hM, .int a0]) ⟨hx, hb, hml, hown, hts⟩ (c_X7_with l D x3 (nI (j0 + i0)) 1 H.size ) (cwS 3 hts (gi_S q_1346 q_1347 q_104 q_1348) rfl rfl rfl (by decide +kernel) ⟨Nat.le_of_ble_eq_true rfl, Nat.le_of_ble_eq_true rfl⟩) ⟨cPre_blind, cPre_mk hPc hK hDc hN (lwZ_for hZ (va_S_up hS hA) hFc)⟩ rfl rfl hl.1 rfl (lv_room (Nat.le_of_ble_eq_true rfl)) dX7_unclearOf_67 ⟨(Nat.le_of_ble_eq_true rfl), (Nat.le_of_ble_eq_true rfl)⟩) hS (fun q h1 h2 => absurd h2 (Nat.not_le.mpr h1)) (fun q h => Nat.le_trans hS.1 h) (fun r_67 u t H1 locs ht hvm hw hBk hz1 hk1 hS => ?_)
              have hP := va_P_ro hP hk1
              subst hw
              clear hBk hvm ht u hz1 hk1
              clear hPc hDc hFc; clear t
              generalize H1 = H at hP hS ⊢
              refine lv_iload hx hb dX7_unclearOf_70 (lv_at hl 4 rfl) ?_
              have hPc := hP.sub (ws' := [(hM, .inr (14, [.int th, .int (nI R), .int (nI C), .int fi, .int di, .int he, .int br, .int pa, .int gu, .int (nI sc), .int cl, .int se, .int lo, .int lu, .int rf, .ref kl, .ref kc, .ref hB])), (kl, .inr (6, [.int km, .ref kd, .int (nI K)]))]) [0, 1] rfl
              have hDc := hD.sub (ws' := [(hM, .inr (14, [.int th, .int (nI R), .int (nI C), .int fi, .int di, .int he, .int br, .int pa, .int gu, .int (nI sc), .int cl, .int se, .int lo, .int lu, .int rf, .ref kl, .ref kc, .ref hB])), (kl, .inr (6, [.int km, .ref kd, .int (nI K)]))]) [0, 1] (by decide) rfl
              have hFc := va_free (wc := [(hM, .inr (14, [.int th, .int (nI R), .int (nI C), .int fi, .int di, .int he, .int br, .int pa, .int gu, .int (nI sc), .int cl, .int se, .int lo, .int lu, .int rf, .ref kl, .ref kc, .ref hB])), (kl, .inr (6, [.int km, .ref kd, .int (nI K)]))]) hD (va_S_up hS hA) hA [0, 1] rfl
              refine va_calli (va_runV (As := [.int 1, .int ((nI (j0 + i0)) + 1), .int (F_X7_with x3 (nI (j0 + i0)) 1), .int x4]) (rest := [.int a0]) ⟨hx, hb, hml, hown, hts⟩ (c_X7_unclearOf1 l D hM th R C fi di he br pa gu sc cl se lo lu rf kl kc hB km kd K ((j0 + i0) + 1) (F_X7_with x3 (nI (j0 + i0)) 1) x4 ((nI (j0 + i0)) + 1) H.size (show R ≤ 5 from hR) (show C ≤ 5 from hC) (show 0 < C from hC0) (show K ≤ 25 from hKb) (show ((j0 + i0) + 1) ≤ 25 from (by omega)) (show ((nI (j0 + i0)) + 1) = nI ((j0 + i0) + 1) from (nI_1 _))) (cwV 4 hts (gi_V q_1613 q_1615 q_75 q_104 q_1616) rfl rfl rfl (by decide +kernel) ⟨Nat.le_of_ble_eq_true rfl, Nat.le_of_ble_eq_true rfl⟩) ⟨cPre_blind, va_recv hK hP (ci := 14) (q0 := 0) rfl rfl, cPre_mk hPc hK hDc hN (lwZ_for hZ (va_S_up hS hA) hFc)⟩ rfl rfl hl.1 rfl (lv_room (Nat.le_of_ble_eq_true rfl)) dX7_unclearOf_72 ⟨(Nat.le_of_ble_eq_true rfl), (Nat.le_of_ble_eq_true rfl)⟩) hS (fun q h1 h2 => absurd h2 (Nat.not_le.mpr h1)) (fun q h => Nat.le_trans hS.1 h) (fun r_72 u t H1 locs ht hvm hw hBk hz1 hk1 hS => ?_)
              have hP := va_P_ro hP hk1
              subst hw
              clear hBk hvm ht u hz1 hk1
              clear hPc hDc hFc; clear t
              generalize H1 = H at hP hS ⊢
              refine lv_iadd hx hb dX7_unclearOf_75 ?_
              refine lv_istore (lv' := [(5, .int (a0 + (F_X7_unclearOf1 R C fi br K ((j0 + i0) + 1) (F_X7_with x3 (nI (j0 + i0)) 1) x4))), (0, .ref hM), (1, .int 2), (2, .int (nI j0)), (3, .int x3), (4, .int x4), (6, .int (nI (j0 + i0)))]) hx hb dX7_unclearOf_76 hl (by decide) rfl (fun ls hl => ?_)
              refine lv_iinc (v := nI (j0 + (i0 + 1))) (lv' := [(6, .int (nI (j0 + (i0 + 1)))), (5, .int (a0 + (F_X7_unclearOf1 R C fi br K ((j0 + i0) + 1) (F_X7_with x3 (nI (j0 + i0)) 1) x4))), (0, .ref hM), (1, .int 2), (2, .int (nI j0)), (3, .int x3), (4, .int x4)]) hx hb dX7_unclearOf_78 hl (k := 6) rfl ((nI_1 _)) (by decide) rfl (fun ls hl => ?_)
              refine lv_goto (tgt := 29) hx hb dX7_unclearOf_81 (by decide) ?_
              have hE : S_X7_unclearOf2_29 R C fi br K j0 x3 x4 i0 a0 = a0 + (F_X7_unclearOf1 R C fi br K ((j0 + i0) + 1) (F_X7_with x3 (nI (j0 + i0)) 1) x4) := (by unfold S_X7_unclearOf2_29; rw [if_neg c_5])
              have hl : lv_has ls 7 [(0, .ref hM), (1, .int 2), (2, .int (nI j0)), (3, .int x3), (4, .int x4), (5, .int (a0 + (F_X7_unclearOf1 R C fi br K ((j0 + i0) + 1) (F_X7_with x3 (nI (j0 + i0)) 1) x4))), (6, .int (nI (j0 + (i0 + 1))))] := lv_sub hl [2, 3, 4, 5, 6, 1, 0] rfl
              have hP := hP.sub (ws' := [(hM, .inr (14, [.int th, .int (nI R), .int (nI C), .int fi, .int di, .int he, .int br, .int pa, .int gu, .int (nI sc), .int cl, .int se, .int lo, .int lu, .int rf, .ref kl, .ref kc, .ref hB])), (kl, .inr (6, [.int km, .ref kd, .int (nI K)]))]) [0, 1] rfl
              have hD := hD.sub (ws' := [(hM, .inr (14, [.int th, .int (nI R), .int (nI C), .int fi, .int di, .int he, .int br, .int pa, .int gu, .int (nI sc), .int cl, .int se, .int lo, .int lu, .int rf, .ref kl, .ref kc, .ref hB])), (kl, .inr (6, [.int km, .ref kd, .int (nI K)]))]) [0, 1] (by decide) rfl
              exact ih0 (i0 + 1) (by omega) (S_X7_unclearOf2_29 R C fi br K j0 x3 x4 i0 a0) H locs ls (by (try rw [hE]); exact hP) (by (try rw [hE]); exact hD) hS (by (try rw [hE]); exact hl) kon
      have hl : lv_has ls 7 [(0, .ref hM), (1, .int 2), (2, .int (nI j0)), (3, .int x3), (4, .int x4), (5, .int 0), (6, .int (nI (j0 + 0)))] := lv_sub hl [2, 3, 4, 5, 6, 1, 0] rfl
      refine lp_29 (K - j0) 0 (by omega) 0 H locs ls hP hD hS hl ?_
      clear lp_29 hP hD hS hl
      intro H locs ls hP hD hS hl
      refine lv_iload hx hb dX7_unclearOf_84 (lv_at hl 5 rfl) ?_
      subst hQe
      exact W.iret (v := (itr (fun i a => S_X7_unclearOf2_29 R C fi br K j0 x3 x4 i a) (K - j0) 0 0)) hx hb hr (fun t ht hW => ⟨⟨(itr (fun i a => S_X7_unclearOf2_29 R C fi br K j0 x3 x4 i a) (K - j0) 0 0), (), rfl, (by rfl), trivial⟩, hS.F ht⟩) hS.2.2 dX7_unclearOf_86
    · exact absurd c_1 (by decide)
  rw [hHe, hLe] at hgoal
  exact hgoal

def S_X7_unclearOf3_29 (R : Nat) (C : Nat) (fi : Int32) (br : Int32) (K : Nat) (j0 : Nat) (x3 : Int32) (x4 : Int32) (i0 : Nat) (a0 : Int32) : Int32 := (if (F_X7_has fi (nI (j0 + i0))) = 0 then a0 else a0 + (F_X7_unclearOf2 R C fi br K ((j0 + i0) + 1) (F_X7_with x3 (nI (j0 + i0)) 1) x4))
def F_X7_unclearOf3 (R : Nat) (C : Nat) (fi : Int32) (br : Int32) (K : Nat) (j0 : Nat) (x3 : Int32) (x4 : Int32) : Int32 := (itr (fun i a => S_X7_unclearOf3_29 R C fi br K j0 x3 x4 i a) (K - j0) 0 0)
set_option maxHeartbeats 4000000 in
set_option maxRecDepth 100000 in
theorem c_X7_unclearOf3 (l : Launch) (D : va_G) (hM : Nat) (th : Int32) (R : Nat) (C : Nat) (fi : Int32) (di : Int32) (he : Int32) (br : Int32) (pa : Int32) (gu : Int32) (sc : Nat) (cl : Int32) (se : Int32) (lo : Int32) (lu : Int32) (rf : Int32) (kl : Nat) (kc : Nat) (hB : Nat) (km : Int32) (kd : Nat) (K : Nat) (j0 : Nat) (x3 : Int32) (x4 : Int32) (x2 : Int32) (sz : Nat) (hR : R ≤ 5) (hC : C ≤ 5) (hC0 : 0 < C) (hKb : K ≤ 25) (hj0 : j0 ≤ 25) (hx2 : x2 = nI j0) : Met l yX7_unclearOf (Cond.code yX7_unclearOf cX7_unclearOf 7 (some .int) :: lwAll) ({ frames := 7, cells := 0, slots := 0, locals := 172 } : Room) (va_Pc [.ref hM, .int 3, .int x2, .int x3, .int x4] (cPre D (lwTY D) [(hM, .inr (14, [.int th, .int (nI R), .int (nI C), .int fi, .int di, .int he, .int br, .int pa, .int gu, .int (nI sc), .int cl, .int se, .int lo, .int lu, .int rf, .ref kl, .ref kc, .ref hB])), (kl, .inr (6, [.int km, .ref kd, .int (nI K)]))] sz)) (va_Qi (fun (r : Int32) (_ : Unit) => r = (F_X7_unclearOf3 R C fi br K j0 x3 x4)) (fun _ _ => True) (fun q : Nat => sz ≤ q)) 0 0 (fun q : Nat => sz ≤ q) := by
  subst hx2
  refine Met.ofW (cc := cX7_unclearOf) (maxL := 7) (ret := (some .int)) (by decide) rfl ?_
  intro p e s m args below meth c s₁ B hml hv
  obtain ⟨rfl, hsz, hP, hK, hD0, hN, hZ⟩ := hv
  have hx := B.exec
  have hb := B.bytes
  have hr := B.returns
  have hts : ∀ wd ∈ lwAll, wd.before ([.ref hM, .int 3, .int (nI j0), .int x3, .int x4] : List Value).toArray s = true := fun wd h => atoms_spec (ws := (Cond.code yX7_unclearOf cX7_unclearOf 7 (some .int) :: lwAll)) B.pre wd (List.mem_cons_of_mem _ h)
  have hown : s.vm.findClass RX7 = some m.cls := findClass_of_methodNamed B.named
  have hlocks := B.notSynchronized
  subst hsz
  have hD := hD0.self (sz := s.heap.size)
  have hl := lv_entry ([.ref hM, .int 3, .int (nI j0), .int x3, .int x4]) (n := 7) (Nat.le_of_ble_eq_true rfl)
  rw [lg_entry_eq]
  generalize (lg_sl ([.ref hM, .int 3, .int (nI j0), .int x3, .int x4]) ++ List.replicate (7 - (lg_sl ([.ref hM, .int 3, .int (nI j0), .int x3, .int x4])).length) Slot.unset).toArray = ls at hl ⊢
  have hl : lv_has ls 7 [(0, .ref hM), (1, .int 3), (2, .int (nI j0)), (3, .int x3), (4, .int x4)] := hl
  have hS : va_S (fun q : Nat => s.heap.size ≤ q) s.heap s.heap [] := va_S.rf
  generalize hQe : MQ below (va_Qi (fun (r : Int32) (_ : Unit) => r = (F_X7_unclearOf3 R C fi br K j0 x3 x4)) (fun _ _ => True) (fun q : Nat => s.heap.size ≤ q)) ([.ref hM, .int 3, .int (nI j0), .int x3, .int x4] : List Value).toArray s 0 0 (fun q : Nat => s.heap.size ≤ q) = Q
  have hP : va_P D vwCl [(hM, .inr (14, [.int th, .int (nI R), .int (nI C), .int fi, .int di, .int he, .int br, .int pa, .int gu, .int (nI sc), .int cl, .int se, .int lo, .int lu, .int rf, .ref kl, .ref kc, .ref hB])), (kl, .inr (6, [.int km, .ref kd, .int (nI K)]))] s.heap := hP
  obtain ⟨A, hAe⟩ : ∃ A, A = va_A [(hM, .inr (14, [.int th, .int (nI R), .int (nI C), .int fi, .int di, .int he, .int br, .int pa, .int gu, .int (nI sc), .int cl, .int se, .int lo, .int lu, .int rf, .ref kl, .ref kc, .ref hB])), (kl, .inr (6, [.int km, .ref kd, .int (nI K)]))] s.heap.size := ⟨_, rfl⟩
  rw [← hAe] at hD hZ
  have hA : ∀ q : Nat, s.heap.size ≤ q → A q := fun q h => by rw [hAe]; exact Or.inr h
  obtain ⟨H, hHe⟩ : ∃ H, H = s.heap := ⟨_, rfl⟩
  obtain ⟨locs, hLe⟩ : ∃ L : List Loc, L = [] := ⟨_, rfl⟩
  have hP : va_P D vwCl [(hM, .inr (14, [.int th, .int (nI R), .int (nI C), .int fi, .int di, .int he, .int br, .int pa, .int gu, .int (nI sc), .int cl, .int se, .int lo, .int lu, .int rf, .ref kl, .ref kc, .ref hB])), (kl, .inr (6, [.int km, .ref kd, .int (nI K)]))] H := by rw [hHe]; exact hP
  have hS : va_S (fun q : Nat => s.heap.size ≤ q) s.heap H locs := by rw [hHe, hLe]; exact hS
  have hgoal : W p l e ({ frames := 7, cells := 0, slots := 0, locals := 172 } : Room) s m ([.ref hM, .int 3, .int (nI j0), .int x3, .int x4] : List Value).toArray below meth c H locs 0 0 Q (F0 m 0 ls []) := by
    clear hHe hLe
    refine lv_iload_n hx hb dX7_unclearOf_0 rfl (lv_at hl 1 rfl) ?_
    refine lv_if_ne (tgt := 23) hx hb dX7_unclearOf_1 (by decide) (fun c_1 => ?_) (fun c_1 => ?_)
    · refine lv_iconst (v := 0) hx hb dX7_unclearOf_23 (by decide) ?_
      refine lv_istore (lv' := [(5, .int 0), (0, .ref hM), (1, .int 3), (2, .int (nI j0)), (3, .int x3), (4, .int x4)]) hx hb dX7_unclearOf_24 hl (by decide) rfl (fun ls hl => ?_)
      refine lv_iload_n hx hb dX7_unclearOf_26 rfl (lv_at hl 3 rfl) ?_
      refine lv_istore (lv' := [(6, .int (nI j0)), (5, .int 0), (0, .ref hM), (1, .int 3), (2, .int (nI j0)), (3, .int x3), (4, .int x4)]) hx hb dX7_unclearOf_27 hl (by decide) rfl (fun ls hl => ?_)
      have lp_29 : ∀ (n0 i0 : Nat), i0 + n0 = (K - j0) → ∀ (a0 : Int32) (H : Heap) (locs : List Loc) (ls : Array Slot), va_P D vwCl [(hM, .inr (14, [.int th, .int (nI R), .int (nI C), .int fi, .int di, .int he, .int br, .int pa, .int gu, .int (nI sc), .int cl, .int se, .int lo, .int lu, .int rf, .ref kl, .ref kc, .ref hB])), (kl, .inr (6, [.int km, .ref kd, .int (nI K)]))] H → va_D A [(hM, .inr (14, [.int th, .int (nI R), .int (nI C), .int fi, .int di, .int he, .int br, .int pa, .int gu, .int (nI sc), .int cl, .int se, .int lo, .int lu, .int rf, .ref kl, .ref kc, .ref hB])), (kl, .inr (6, [.int km, .ref kd, .int (nI K)]))] → va_S (fun q : Nat => s.heap.size ≤ q) s.heap H locs → lv_has ls 7 [(0, .ref hM), (1, .int 3), (2, .int (nI j0)), (3, .int x3), (4, .int x4), (5, .int a0), (6, .int (nI (j0 + i0)))] → (∀ (H : Heap) (locs : List Loc) (ls : Array Slot), va_P D vwCl [(hM, .inr (14, [.int th, .int (nI R), .int (nI C), .int fi, .int di, .int he, .int br, .int pa, .int gu, .int (nI sc), .int cl, .int se, .int lo, .int lu, .int rf, .ref kl, .ref kc, .ref hB])), (kl, .inr (6, [.int km, .ref kd, .int (nI K)]))] H → va_D A [(hM, .inr (14, [.int th, .int (nI R), .int (nI C), .int fi, .int di, .int he, .int br, .int pa, .int gu, .int (nI sc), .int cl, .int se, .int lo, .int lu, .int rf, .ref kl, .ref kc, .ref hB])), (kl, .inr (6, [.int km, .ref kd, .int (nI K)]))] → va_S (fun q : Nat => s.heap.size ≤ q) s.heap H locs → lv_has ls 7 [(0, .ref hM), (1, .int 3), (2, .int (nI j0)), (3, .int x3), (4, .int x4), (5, .int (itr (fun i a => S_X7_unclearOf3_29 R C fi br K j0 x3 x4 i a) n0 i0 a0)), (6, .int (nI (j0 + ((K - j0)))))] → W p l e ({ frames := 7, cells := 0, slots := 0, locals := 172 } : Room) s m ([.ref hM, .int 3, .int (nI j0), .int x3, .int x4] : List Value).toArray below meth c H locs 0 0 Q (F0 m 84 ls [])) → W p l e ({ frames := 7, cells := 0, slots := 0, locals := 172 } : Room) s m ([.ref hM, .int 3, .int (nI j0), .int x3, .int x4] : List Value).toArray below meth c H locs 0 0 Q (F0 m 29 ls []) := by
        intro n0
        induction n0 with
        | zero =>
          intro i0 hi0 a0 H locs ls hP hD hS hl kon
          have he0 : i0 = (K - j0) := by omega
          refine lv_iload hx hb dX7_unclearOf_29 (lv_at hl 6 rfl) ?_
          refine lv_aload_n hx hb dX7_unclearOf_31 rfl (lv_at hl 0 rfl) ?_
          refine va_get (D := D) (ci := 14) (v := .ref kl) (C := RX7) (T := TX7) (N := 18) hx hb hts in_X7 hown hK hP 0 rfl rfl 15 (by decide) (hts _ q_1283) (fun _ h9 => h9) rfl dX7_unclearOf_32 ?_
          have hPc := hP.sub (ws' := [(kl, .inr (6, [.int km, .ref kd, .int (nI K)]))]) [1] rfl
          have hDc := hD.sub (ws' := [(kl, .inr (6, [.int km, .ref kd, .int (nI K)]))]) [1] (by decide) rfl
          have hFc := va_free (wc := [(kl, .inr (6, [.int km, .ref kd, .int (nI K)]))]) hD (va_S_up hS hA) hA [1] rfl
          refine va_calli (va_runV (As := []) (rest := [.int (nI (j0 + i0))]) ⟨hx, hb, hml, hown, hts⟩ (c_Jx4a65c_size_8abf5 l D kl km kd K H.size ) (cwV 0 hts (gi_V q_1263 q_1264 q_1265 q_107 q_1266) rfl rfl rfl (by decide +kernel) ⟨Nat.le_of_ble_eq_true rfl, Nat.le_of_ble_eq_true rfl⟩) ⟨cPre_blind, va_recv hK hP (ci := 6) (q0 := 1) rfl rfl, cPre_mk hPc hK hDc hN (lwZ_for hZ (va_S_up hS hA) hFc)⟩ rfl rfl hl.1 rfl (lv_room (Nat.le_of_ble_eq_true rfl)) dX7_unclearOf_35 ⟨(Nat.le_of_ble_eq_true rfl), (Nat.le_of_ble_eq_true rfl)⟩) hS (fun q h1 h2 => absurd h2 (Nat.not_le.mpr h1)) (fun q h => Nat.le_trans hS.1 h) (fun r_35 u t H1 locs ht hvm hw hBk hz1 hk1 hS => ?_)
          have hP := va_P_ro hP hk1
          subst hw
          clear hBk hvm ht u hz1 hk1
          clear hPc hDc hFc; clear t
          generalize H1 = H at hP hS ⊢
          refine lv_icmp_ge (tgt := 84) hx hb dX7_unclearOf_38 (by decide) (fun c_2 => ?_) (fun c_2 => ?_)
          · subst he0
            exact kon H locs ls hP hD hS (lv_sub hl [0, 1, 2, 3, 4, 5, 6] rfl)
          · exact absurd (nI_le (a := K) (b := j0 + i0) (by omega) (by omega)) c_2
        | succ n0 ih0 =>
          intro i0 hi0 a0 H locs ls hP hD hS hl kon
          refine lv_iload hx hb dX7_unclearOf_29 (lv_at hl 6 rfl) ?_
          refine lv_aload_n hx hb dX7_unclearOf_31 rfl (lv_at hl 0 rfl) ?_
          refine va_get (D := D) (ci := 14) (v := .ref kl) (C := RX7) (T := TX7) (N := 18) hx hb hts in_X7 hown hK hP 0 rfl rfl 15 (by decide) (hts _ q_1283) (fun _ h9 => h9) rfl dX7_unclearOf_32 ?_
          have hPc := hP.sub (ws' := [(kl, .inr (6, [.int km, .ref kd, .int (nI K)]))]) [1] rfl
          have hDc := hD.sub (ws' := [(kl, .inr (6, [.int km, .ref kd, .int (nI K)]))]) [1] (by decide) rfl
          have hFc := va_free (wc := [(kl, .inr (6, [.int km, .ref kd, .int (nI K)]))]) hD (va_S_up hS hA) hA [1] rfl
          refine va_calli (va_runV (As := []) (rest := [.int (nI (j0 + i0))]) ⟨hx, hb, hml, hown, hts⟩ (c_Jx4a65c_size_8abf5 l D kl km kd K H.size ) (cwV 0 hts (gi_V q_1263 q_1264 q_1265 q_107 q_1266) rfl rfl rfl (by decide +kernel) ⟨Nat.le_of_ble_eq_true rfl, Nat.le_of_ble_eq_true rfl⟩) ⟨cPre_blind, va_recv hK hP (ci := 6) (q0 := 1) rfl rfl, cPre_mk hPc hK hDc hN (lwZ_for hZ (va_S_up hS hA) hFc)⟩ rfl rfl hl.1 rfl (lv_room (Nat.le_of_ble_eq_true rfl)) dX7_unclearOf_35 ⟨(Nat.le_of_ble_eq_true rfl), (Nat.le_of_ble_eq_true rfl)⟩) hS (fun q h1 h2 => absurd h2 (Nat.not_le.mpr h1)) (fun q h => Nat.le_trans hS.1 h) (fun r_35 u t H1 locs ht hvm hw hBk hz1 hk1 hS => ?_)
          have hP := va_P_ro hP hk1
          subst hw
          clear hBk hvm ht u hz1 hk1
          clear hPc hDc hFc; clear t
          generalize H1 = H at hP hS ⊢
          refine lv_icmp_ge (tgt := 84) hx hb dX7_unclearOf_38 (by decide) (fun c_3 => ?_) (fun c_3 => ?_)
          · exact absurd c_3 (nI_ge (a := j0 + i0) (b := K) (by omega) (by omega))
          · refine lv_aload_n hx hb dX7_unclearOf_41 rfl (lv_at hl 0 rfl) ?_
            refine va_get (D := D) (ci := 14) (v := .int fi) (C := RX7) (T := TX7) (N := 18) hx hb hts in_X7 hown hK hP 0 rfl rfl 3 (by decide) (hts _ q_1271) (fun _ h9 => h9) rfl dX7_unclearOf_42 ?_
            refine lv_iload hx hb dX7_unclearOf_45 (lv_at hl 6 rfl) ?_
            have hPc := hP.sub (ws' := []) [] rfl
            have hDc := hD.sub (ws' := []) [] (by decide) rfl
            have hFc := va_free (wc := []) hD (va_S_up hS hA) hA [] rfl
            refine va_calli (va_runS (As := [.int fi, .int (nI (j0 + i0))]) (rest := []) ⟨hx, hb, hml, hown, hts⟩ (c_X7_has l D fi (nI (j0 + i0)) H.size ) (cwS 2 hts (gi_S q_1361 q_1362 q_104 q_1363) rfl rfl rfl (by decide +kernel) ⟨Nat.le_of_ble_eq_true rfl, Nat.le_of_ble_eq_true rfl⟩) ⟨cPre_blind, cPre_mk hPc hK hDc hN (lwZ_for hZ (va_S_up hS hA) hFc)⟩ rfl rfl hl.1 rfl (lv_room (Nat.le_of_ble_eq_true rfl)) dX7_unclearOf_47 ⟨(Nat.le_of_ble_eq_true rfl), (Nat.le_of_ble_eq_true rfl)⟩) hS (fun q h1 h2 => absurd h2 (Nat.not_le.mpr h1)) (fun q h => Nat.le_trans hS.1 h) (fun r_47 u t H1 locs ht hvm hw hBk hz1 hk1 hS => ?_)
            have hP := va_P_ro hP hk1
            obtain ⟨hw, z_4⟩ := hw
            rw [hw] at z_4
            subst hw
            clear hBk hvm ht u hz1 hk1
            clear hPc hDc hFc; clear t
            generalize H1 = H at hP hS ⊢
            refine lv_if_eq (tgt := 78) hx hb dX7_unclearOf_50 (by decide) (fun c_5 => ?_) (fun c_5 => ?_)
            · refine lv_iinc (v := nI (j0 + (i0 + 1))) (lv' := [(6, .int (nI (j0 + (i0 + 1)))), (0, .ref hM), (1, .int 3), (2, .int (nI j0)), (3, .int x3), (4, .int x4), (5, .int a0)]) hx hb dX7_unclearOf_78 hl (k := 6) rfl ((nI_1 _)) (by decide) rfl (fun ls hl => ?_)
              refine lv_goto (tgt := 29) hx hb dX7_unclearOf_81 (by decide) ?_
              have hE : S_X7_unclearOf3_29 R C fi br K j0 x3 x4 i0 a0 = a0 := (by unfold S_X7_unclearOf3_29; rw [if_pos c_5])
              have hl : lv_has ls 7 [(0, .ref hM), (1, .int 3), (2, .int (nI j0)), (3, .int x3), (4, .int x4), (5, .int a0), (6, .int (nI (j0 + (i0 + 1))))] := lv_sub hl [1, 2, 3, 4, 5, 6, 0] rfl
              have hP := hP.sub (ws' := [(hM, .inr (14, [.int th, .int (nI R), .int (nI C), .int fi, .int di, .int he, .int br, .int pa, .int gu, .int (nI sc), .int cl, .int se, .int lo, .int lu, .int rf, .ref kl, .ref kc, .ref hB])), (kl, .inr (6, [.int km, .ref kd, .int (nI K)]))]) [0, 1] rfl
              have hD := hD.sub (ws' := [(hM, .inr (14, [.int th, .int (nI R), .int (nI C), .int fi, .int di, .int he, .int br, .int pa, .int gu, .int (nI sc), .int cl, .int se, .int lo, .int lu, .int rf, .ref kl, .ref kc, .ref hB])), (kl, .inr (6, [.int km, .ref kd, .int (nI K)]))]) [0, 1] (by decide) rfl
              exact ih0 (i0 + 1) (by omega) (S_X7_unclearOf3_29 R C fi br K j0 x3 x4 i0 a0) H locs ls (by (try rw [hE]); exact hP) (by (try rw [hE]); exact hD) hS (by (try rw [hE]); exact hl) kon
            · refine lv_iload hx hb dX7_unclearOf_53 (lv_at hl 5 rfl) ?_
              refine lv_aload_n hx hb dX7_unclearOf_55 rfl (lv_at hl 0 rfl) ?_
              refine lv_iload_n hx hb dX7_unclearOf_56 rfl (lv_at hl 1 rfl) ?_
              refine lv_iconst (v := 1) hx hb dX7_unclearOf_57 (by decide) ?_
              refine lv_isub hx hb dX7_unclearOf_58 ?_
              rw [show (3 - 1 : Int32) = 2 from (by decide)]
              refine lv_iload hx hb dX7_unclearOf_59 (lv_at hl 6 rfl) ?_
              refine lv_iconst (v := 1) hx hb dX7_unclearOf_61 (by decide) ?_
              refine lv_iadd hx hb dX7_unclearOf_62 ?_
              refine lv_iload_n hx hb dX7_unclearOf_63 rfl (lv_at hl 3 rfl) ?_
              refine lv_iload hx hb dX7_unclearOf_64 (lv_at hl 6 rfl) ?_
              refine lv_iconst (v := 1) hx hb dX7_unclearOf_66 (by decide) ?_
              have hPc := hP.sub (ws' := []) [] rfl
              have hDc := hD.sub (ws' := []) [] (by decide) rfl
              have hFc := va_free (wc := []) hD (va_S_up hS hA) hA [] rfl
              refine va_calli (va_runS (As := [.int x3, .int (nI (j0 + i0)), .int 1]) (rest := [.int ((nI (j0 + i0)) + 1), .int 2, .ref hM, .int a0]) ⟨hx, hb, hml, hown, hts⟩ (c_X7_with l D x3 (nI (j0 + i0)) 1 H.size ) (cwS 3 hts (gi_S q_1346 q_1347 q_104 q_1348) rfl rfl rfl (by decide +kernel) ⟨Nat.le_of_ble_eq_true rfl, Nat.le_of_ble_eq_true rfl⟩) ⟨cPre_blind, cPre_mk hPc hK hDc hN (lwZ_for hZ (va_S_up hS hA) hFc)⟩ rfl rfl hl.1 rfl (lv_room (Nat.le_of_ble_eq_true rfl)) dX7_unclearOf_67 ⟨(Nat.le_of_ble_eq_true rfl), (Nat.le_of_ble_eq_true rfl)⟩) hS (fun q h1 h2 => absurd h2 (Nat.not_le.mpr h1)) (fun q h => Nat.le_trans hS.1 h) (fun r_67 u t H1 locs ht hvm hw hBk hz1 hk1 hS => ?_)
              have hP := va_P_ro hP hk1
              subst hw
              clear hBk hvm ht u hz1 hk1
              clear hPc hDc hFc; clear t
              generalize H1 = H at hP hS ⊢
              refine lv_iload hx hb dX7_unclearOf_70 (lv_at hl 4 rfl) ?_
              have hPc := hP.sub (ws' := [(hM, .inr (14, [.int th, .int (nI R), .int (nI C), .int fi, .int di, .int he, .int br, .int pa, .int gu, .int (nI sc), .int cl, .int se, .int lo, .int lu, .int rf, .ref kl, .ref kc, .ref hB])), (kl, .inr (6, [.int km, .ref kd, .int (nI K)]))]) [0, 1] rfl
              have hDc := hD.sub (ws' := [(hM, .inr (14, [.int th, .int (nI R), .int (nI C), .int fi, .int di, .int he, .int br, .int pa, .int gu, .int (nI sc), .int cl, .int se, .int lo, .int lu, .int rf, .ref kl, .ref kc, .ref hB])), (kl, .inr (6, [.int km, .ref kd, .int (nI K)]))]) [0, 1] (by decide) rfl
              have hFc := va_free (wc := [(hM, .inr (14, [.int th, .int (nI R), .int (nI C), .int fi, .int di, .int he, .int br, .int pa, .int gu, .int (nI sc), .int cl, .int se, .int lo, .int lu, .int rf, .ref kl, .ref kc, .ref hB])), (kl, .inr (6, [.int km, .ref kd, .int (nI K)]))]) hD (va_S_up hS hA) hA [0, 1] rfl
              refine va_calli (va_runV (As := [.int 2, .int ((nI (j0 + i0)) + 1), .int (F_X7_with x3 (nI (j0 + i0)) 1), .int x4]) (rest := [.int a0]) ⟨hx, hb, hml, hown, hts⟩ (c_X7_unclearOf2 l D hM th R C fi di he br pa gu sc cl se lo lu rf kl kc hB km kd K ((j0 + i0) + 1) (F_X7_with x3 (nI (j0 + i0)) 1) x4 ((nI (j0 + i0)) + 1) H.size (show R ≤ 5 from hR) (show C ≤ 5 from hC) (show 0 < C from hC0) (show K ≤ 25 from hKb) (show ((j0 + i0) + 1) ≤ 25 from (by omega)) (show ((nI (j0 + i0)) + 1) = nI ((j0 + i0) + 1) from (nI_1 _))) (cwV 4 hts (gi_V q_1613 q_1615 q_75 q_104 q_1616) rfl rfl rfl (by decide +kernel) ⟨Nat.le_of_ble_eq_true rfl, Nat.le_of_ble_eq_true rfl⟩) ⟨cPre_blind, va_recv hK hP (ci := 14) (q0 := 0) rfl rfl, cPre_mk hPc hK hDc hN (lwZ_for hZ (va_S_up hS hA) hFc)⟩ rfl rfl hl.1 rfl (lv_room (Nat.le_of_ble_eq_true rfl)) dX7_unclearOf_72 ⟨(Nat.le_of_ble_eq_true rfl), (Nat.le_of_ble_eq_true rfl)⟩) hS (fun q h1 h2 => absurd h2 (Nat.not_le.mpr h1)) (fun q h => Nat.le_trans hS.1 h) (fun r_72 u t H1 locs ht hvm hw hBk hz1 hk1 hS => ?_)
              have hP := va_P_ro hP hk1
              subst hw
              clear hBk hvm ht u hz1 hk1
              clear hPc hDc hFc; clear t
              generalize H1 = H at hP hS ⊢
              refine lv_iadd hx hb dX7_unclearOf_75 ?_
              refine lv_istore (lv' := [(5, .int (a0 + (F_X7_unclearOf2 R C fi br K ((j0 + i0) + 1) (F_X7_with x3 (nI (j0 + i0)) 1) x4))), (0, .ref hM), (1, .int 3), (2, .int (nI j0)), (3, .int x3), (4, .int x4), (6, .int (nI (j0 + i0)))]) hx hb dX7_unclearOf_76 hl (by decide) rfl (fun ls hl => ?_)
              refine lv_iinc (v := nI (j0 + (i0 + 1))) (lv' := [(6, .int (nI (j0 + (i0 + 1)))), (5, .int (a0 + (F_X7_unclearOf2 R C fi br K ((j0 + i0) + 1) (F_X7_with x3 (nI (j0 + i0)) 1) x4))), (0, .ref hM), (1, .int 3), (2, .int (nI j0)), (3, .int x3), (4, .int x4)]) hx hb dX7_unclearOf_78 hl (k := 6) rfl ((nI_1 _)) (by decide) rfl (fun ls hl => ?_)
              refine lv_goto (tgt := 29) hx hb dX7_unclearOf_81 (by decide) ?_
              have hE : S_X7_unclearOf3_29 R C fi br K j0 x3 x4 i0 a0 = a0 + (F_X7_unclearOf2 R C fi br K ((j0 + i0) + 1) (F_X7_with x3 (nI (j0 + i0)) 1) x4) := (by unfold S_X7_unclearOf3_29; rw [if_neg c_5])
              have hl : lv_has ls 7 [(0, .ref hM), (1, .int 3), (2, .int (nI j0)), (3, .int x3), (4, .int x4), (5, .int (a0 + (F_X7_unclearOf2 R C fi br K ((j0 + i0) + 1) (F_X7_with x3 (nI (j0 + i0)) 1) x4))), (6, .int (nI (j0 + (i0 + 1))))] := lv_sub hl [2, 3, 4, 5, 6, 1, 0] rfl
              have hP := hP.sub (ws' := [(hM, .inr (14, [.int th, .int (nI R), .int (nI C), .int fi, .int di, .int he, .int br, .int pa, .int gu, .int (nI sc), .int cl, .int se, .int lo, .int lu, .int rf, .ref kl, .ref kc, .ref hB])), (kl, .inr (6, [.int km, .ref kd, .int (nI K)]))]) [0, 1] rfl
              have hD := hD.sub (ws' := [(hM, .inr (14, [.int th, .int (nI R), .int (nI C), .int fi, .int di, .int he, .int br, .int pa, .int gu, .int (nI sc), .int cl, .int se, .int lo, .int lu, .int rf, .ref kl, .ref kc, .ref hB])), (kl, .inr (6, [.int km, .ref kd, .int (nI K)]))]) [0, 1] (by decide) rfl
              exact ih0 (i0 + 1) (by omega) (S_X7_unclearOf3_29 R C fi br K j0 x3 x4 i0 a0) H locs ls (by (try rw [hE]); exact hP) (by (try rw [hE]); exact hD) hS (by (try rw [hE]); exact hl) kon
      have hl : lv_has ls 7 [(0, .ref hM), (1, .int 3), (2, .int (nI j0)), (3, .int x3), (4, .int x4), (5, .int 0), (6, .int (nI (j0 + 0)))] := lv_sub hl [2, 3, 4, 5, 6, 1, 0] rfl
      refine lp_29 (K - j0) 0 (by omega) 0 H locs ls hP hD hS hl ?_
      clear lp_29 hP hD hS hl
      intro H locs ls hP hD hS hl
      refine lv_iload hx hb dX7_unclearOf_84 (lv_at hl 5 rfl) ?_
      subst hQe
      exact W.iret (v := (itr (fun i a => S_X7_unclearOf3_29 R C fi br K j0 x3 x4 i a) (K - j0) 0 0)) hx hb hr (fun t ht hW => ⟨⟨(itr (fun i a => S_X7_unclearOf3_29 R C fi br K j0 x3 x4 i a) (K - j0) 0 0), (), rfl, (by rfl), trivial⟩, hS.F ht⟩) hS.2.2 dX7_unclearOf_86
    · exact absurd c_1 (by decide)
  rw [hHe, hLe] at hgoal
  exact hgoal

def S_X7_unclearOf4_29 (R : Nat) (C : Nat) (fi : Int32) (br : Int32) (K : Nat) (j0 : Nat) (x3 : Int32) (x4 : Int32) (i0 : Nat) (a0 : Int32) : Int32 := (if (F_X7_has fi (nI (j0 + i0))) = 0 then a0 else a0 + (F_X7_unclearOf3 R C fi br K ((j0 + i0) + 1) (F_X7_with x3 (nI (j0 + i0)) 1) x4))
def F_X7_unclearOf4 (R : Nat) (C : Nat) (fi : Int32) (br : Int32) (K : Nat) (j0 : Nat) (x3 : Int32) (x4 : Int32) : Int32 := (itr (fun i a => S_X7_unclearOf4_29 R C fi br K j0 x3 x4 i a) (K - j0) 0 0)
set_option maxHeartbeats 4000000 in
set_option maxRecDepth 100000 in
theorem c_X7_unclearOf4 (l : Launch) (D : va_G) (hM : Nat) (th : Int32) (R : Nat) (C : Nat) (fi : Int32) (di : Int32) (he : Int32) (br : Int32) (pa : Int32) (gu : Int32) (sc : Nat) (cl : Int32) (se : Int32) (lo : Int32) (lu : Int32) (rf : Int32) (kl : Nat) (kc : Nat) (hB : Nat) (km : Int32) (kd : Nat) (K : Nat) (j0 : Nat) (x3 : Int32) (x4 : Int32) (x2 : Int32) (sz : Nat) (hR : R ≤ 5) (hC : C ≤ 5) (hC0 : 0 < C) (hKb : K ≤ 25) (hj0 : j0 ≤ 25) (hx2 : x2 = nI j0) : Met l yX7_unclearOf (Cond.code yX7_unclearOf cX7_unclearOf 7 (some .int) :: lwAll) ({ frames := 8, cells := 0, slots := 0, locals := 198 } : Room) (va_Pc [.ref hM, .int 4, .int x2, .int x3, .int x4] (cPre D (lwTY D) [(hM, .inr (14, [.int th, .int (nI R), .int (nI C), .int fi, .int di, .int he, .int br, .int pa, .int gu, .int (nI sc), .int cl, .int se, .int lo, .int lu, .int rf, .ref kl, .ref kc, .ref hB])), (kl, .inr (6, [.int km, .ref kd, .int (nI K)]))] sz)) (va_Qi (fun (r : Int32) (_ : Unit) => r = (F_X7_unclearOf4 R C fi br K j0 x3 x4)) (fun _ _ => True) (fun q : Nat => sz ≤ q)) 0 0 (fun q : Nat => sz ≤ q) := by
  subst hx2
  refine Met.ofW (cc := cX7_unclearOf) (maxL := 7) (ret := (some .int)) (by decide) rfl ?_
  intro p e s m args below meth c s₁ B hml hv
  obtain ⟨rfl, hsz, hP, hK, hD0, hN, hZ⟩ := hv
  have hx := B.exec
  have hb := B.bytes
  have hr := B.returns
  have hts : ∀ wd ∈ lwAll, wd.before ([.ref hM, .int 4, .int (nI j0), .int x3, .int x4] : List Value).toArray s = true := fun wd h => atoms_spec (ws := (Cond.code yX7_unclearOf cX7_unclearOf 7 (some .int) :: lwAll)) B.pre wd (List.mem_cons_of_mem _ h)
  have hown : s.vm.findClass RX7 = some m.cls := findClass_of_methodNamed B.named
  have hlocks := B.notSynchronized
  subst hsz
  have hD := hD0.self (sz := s.heap.size)
  have hl := lv_entry ([.ref hM, .int 4, .int (nI j0), .int x3, .int x4]) (n := 7) (Nat.le_of_ble_eq_true rfl)
  rw [lg_entry_eq]
  generalize (lg_sl ([.ref hM, .int 4, .int (nI j0), .int x3, .int x4]) ++ List.replicate (7 - (lg_sl ([.ref hM, .int 4, .int (nI j0), .int x3, .int x4])).length) Slot.unset).toArray = ls at hl ⊢
  have hl : lv_has ls 7 [(0, .ref hM), (1, .int 4), (2, .int (nI j0)), (3, .int x3), (4, .int x4)] := hl
  have hS : va_S (fun q : Nat => s.heap.size ≤ q) s.heap s.heap [] := va_S.rf
  generalize hQe : MQ below (va_Qi (fun (r : Int32) (_ : Unit) => r = (F_X7_unclearOf4 R C fi br K j0 x3 x4)) (fun _ _ => True) (fun q : Nat => s.heap.size ≤ q)) ([.ref hM, .int 4, .int (nI j0), .int x3, .int x4] : List Value).toArray s 0 0 (fun q : Nat => s.heap.size ≤ q) = Q
  have hP : va_P D vwCl [(hM, .inr (14, [.int th, .int (nI R), .int (nI C), .int fi, .int di, .int he, .int br, .int pa, .int gu, .int (nI sc), .int cl, .int se, .int lo, .int lu, .int rf, .ref kl, .ref kc, .ref hB])), (kl, .inr (6, [.int km, .ref kd, .int (nI K)]))] s.heap := hP
  obtain ⟨A, hAe⟩ : ∃ A, A = va_A [(hM, .inr (14, [.int th, .int (nI R), .int (nI C), .int fi, .int di, .int he, .int br, .int pa, .int gu, .int (nI sc), .int cl, .int se, .int lo, .int lu, .int rf, .ref kl, .ref kc, .ref hB])), (kl, .inr (6, [.int km, .ref kd, .int (nI K)]))] s.heap.size := ⟨_, rfl⟩
  rw [← hAe] at hD hZ
  have hA : ∀ q : Nat, s.heap.size ≤ q → A q := fun q h => by rw [hAe]; exact Or.inr h
  obtain ⟨H, hHe⟩ : ∃ H, H = s.heap := ⟨_, rfl⟩
  obtain ⟨locs, hLe⟩ : ∃ L : List Loc, L = [] := ⟨_, rfl⟩
  have hP : va_P D vwCl [(hM, .inr (14, [.int th, .int (nI R), .int (nI C), .int fi, .int di, .int he, .int br, .int pa, .int gu, .int (nI sc), .int cl, .int se, .int lo, .int lu, .int rf, .ref kl, .ref kc, .ref hB])), (kl, .inr (6, [.int km, .ref kd, .int (nI K)]))] H := by rw [hHe]; exact hP
  have hS : va_S (fun q : Nat => s.heap.size ≤ q) s.heap H locs := by rw [hHe, hLe]; exact hS
  have hgoal : W p l e ({ frames := 8, cells := 0, slots := 0, locals := 198 } : Room) s m ([.ref hM, .int 4, .int (nI j0), .int x3, .int x4] : List Value).toArray below meth c H locs 0 0 Q (F0 m 0 ls []) := by
    clear hHe hLe
    refine lv_iload_n hx hb dX7_unclearOf_0 rfl (lv_at hl 1 rfl) ?_
    refine lv_if_ne (tgt := 23) hx hb dX7_unclearOf_1 (by decide) (fun c_1 => ?_) (fun c_1 => ?_)
    · refine lv_iconst (v := 0) hx hb dX7_unclearOf_23 (by decide) ?_
      refine lv_istore (lv' := [(5, .int 0), (0, .ref hM), (1, .int 4), (2, .int (nI j0)), (3, .int x3), (4, .int x4)]) hx hb dX7_unclearOf_24 hl (by decide) rfl (fun ls hl => ?_)
      refine lv_iload_n hx hb dX7_unclearOf_26 rfl (lv_at hl 3 rfl) ?_
      refine lv_istore (lv' := [(6, .int (nI j0)), (5, .int 0), (0, .ref hM), (1, .int 4), (2, .int (nI j0)), (3, .int x3), (4, .int x4)]) hx hb dX7_unclearOf_27 hl (by decide) rfl (fun ls hl => ?_)
      have lp_29 : ∀ (n0 i0 : Nat), i0 + n0 = (K - j0) → ∀ (a0 : Int32) (H : Heap) (locs : List Loc) (ls : Array Slot), va_P D vwCl [(hM, .inr (14, [.int th, .int (nI R), .int (nI C), .int fi, .int di, .int he, .int br, .int pa, .int gu, .int (nI sc), .int cl, .int se, .int lo, .int lu, .int rf, .ref kl, .ref kc, .ref hB])), (kl, .inr (6, [.int km, .ref kd, .int (nI K)]))] H → va_D A [(hM, .inr (14, [.int th, .int (nI R), .int (nI C), .int fi, .int di, .int he, .int br, .int pa, .int gu, .int (nI sc), .int cl, .int se, .int lo, .int lu, .int rf, .ref kl, .ref kc, .ref hB])), (kl, .inr (6, [.int km, .ref kd, .int (nI K)]))] → va_S (fun q : Nat => s.heap.size ≤ q) s.heap H locs → lv_has ls 7 [(0, .ref hM), (1, .int 4), (2, .int (nI j0)), (3, .int x3), (4, .int x4), (5, .int a0), (6, .int (nI (j0 + i0)))] → (∀ (H : Heap) (locs : List Loc) (ls : Array Slot), va_P D vwCl [(hM, .inr (14, [.int th, .int (nI R), .int (nI C), .int fi, .int di, .int he, .int br, .int pa, .int gu, .int (nI sc), .int cl, .int se, .int lo, .int lu, .int rf, .ref kl, .ref kc, .ref hB])), (kl, .inr (6, [.int km, .ref kd, .int (nI K)]))] H → va_D A [(hM, .inr (14, [.int th, .int (nI R), .int (nI C), .int fi, .int di, .int he, .int br, .int pa, .int gu, .int (nI sc), .int cl, .int se, .int lo, .int lu, .int rf, .ref kl, .ref kc, .ref hB])), (kl, .inr (6, [.int km, .ref kd, .int (nI K)]))] → va_S (fun q : Nat => s.heap.size ≤ q) s.heap H locs → lv_has ls 7 [(0, .ref hM), (1, .int 4), (2, .int (nI j0)), (3, .int x3), (4, .int x4), (5, .int (itr (fun i a => S_X7_unclearOf4_29 R C fi br K j0 x3 x4 i a) n0 i0 a0)), (6, .int (nI (j0 + ((K - j0)))))] → W p l e ({ frames := 8, cells := 0, slots := 0, locals := 198 } : Room) s m ([.ref hM, .int 4, .int (nI j0), .int x3, .int x4] : List Value).toArray below meth c H locs 0 0 Q (F0 m 84 ls [])) → W p l e ({ frames := 8, cells := 0, slots := 0, locals := 198 } : Room) s m ([.ref hM, .int 4, .int (nI j0), .int x3, .int x4] : List Value).toArray below meth c H locs 0 0 Q (F0 m 29 ls []) := by
        intro n0
        induction n0 with
        | zero =>
          intro i0 hi0 a0 H locs ls hP hD hS hl kon
          have he0 : i0 = (K - j0) := by omega
          refine lv_iload hx hb dX7_unclearOf_29 (lv_at hl 6 rfl) ?_
          refine lv_aload_n hx hb dX7_unclearOf_31 rfl (lv_at hl 0 rfl) ?_
          refine va_get (D := D) (ci := 14) (v := .ref kl) (C := RX7) (T := TX7) (N := 18) hx hb hts in_X7 hown hK hP 0 rfl rfl 15 (by decide) (hts _ q_1283) (fun _ h9 => h9) rfl dX7_unclearOf_32 ?_
          have hPc := hP.sub (ws' := [(kl, .inr (6, [.int km, .ref kd, .int (nI K)]))]) [1] rfl
          have hDc := hD.sub (ws' := [(kl, .inr (6, [.int km, .ref kd, .int (nI K)]))]) [1] (by decide) rfl
          have hFc := va_free (wc := [(kl, .inr (6, [.int km, .ref kd, .int (nI K)]))]) hD (va_S_up hS hA) hA [1] rfl
          refine va_calli (va_runV (As := []) (rest := [.int (nI (j0 + i0))]) ⟨hx, hb, hml, hown, hts⟩ (c_Jx4a65c_size_8abf5 l D kl km kd K H.size ) (cwV 0 hts (gi_V q_1263 q_1264 q_1265 q_107 q_1266) rfl rfl rfl (by decide +kernel) ⟨Nat.le_of_ble_eq_true rfl, Nat.le_of_ble_eq_true rfl⟩) ⟨cPre_blind, va_recv hK hP (ci := 6) (q0 := 1) rfl rfl, cPre_mk hPc hK hDc hN (lwZ_for hZ (va_S_up hS hA) hFc)⟩ rfl rfl hl.1 rfl (lv_room (Nat.le_of_ble_eq_true rfl)) dX7_unclearOf_35 ⟨(Nat.le_of_ble_eq_true rfl), (Nat.le_of_ble_eq_true rfl)⟩) hS (fun q h1 h2 => absurd h2 (Nat.not_le.mpr h1)) (fun q h => Nat.le_trans hS.1 h) (fun r_35 u t H1 locs ht hvm hw hBk hz1 hk1 hS => ?_)
          have hP := va_P_ro hP hk1
          subst hw
          clear hBk hvm ht u hz1 hk1
          clear hPc hDc hFc; clear t
          generalize H1 = H at hP hS ⊢
          refine lv_icmp_ge (tgt := 84) hx hb dX7_unclearOf_38 (by decide) (fun c_2 => ?_) (fun c_2 => ?_)
          · subst he0
            exact kon H locs ls hP hD hS (lv_sub hl [0, 1, 2, 3, 4, 5, 6] rfl)
          · exact absurd (nI_le (a := K) (b := j0 + i0) (by omega) (by omega)) c_2
        | succ n0 ih0 =>
          intro i0 hi0 a0 H locs ls hP hD hS hl kon
          refine lv_iload hx hb dX7_unclearOf_29 (lv_at hl 6 rfl) ?_
          refine lv_aload_n hx hb dX7_unclearOf_31 rfl (lv_at hl 0 rfl) ?_
          refine va_get (D := D) (ci := 14) (v := .ref kl) (C := RX7) (T := TX7) (N := 18) hx hb hts in_X7 hown hK hP 0 rfl rfl 15 (by decide) (hts _ q_1283) (fun _ h9 => h9) rfl dX7_unclearOf_32 ?_
          have hPc := hP.sub (ws' := [(kl, .inr (6, [.int km, .ref kd, .int (nI K)]))]) [1] rfl
          have hDc := hD.sub (ws' := [(kl, .inr (6, [.int km, .ref kd, .int (nI K)]))]) [1] (by decide) rfl
          have hFc := va_free (wc := [(kl, .inr (6, [.int km, .ref kd, .int (nI K)]))]) hD (va_S_up hS hA) hA [1] rfl
          refine va_calli (va_runV (As := []) (rest := [.int (nI (j0 + i0))]) ⟨hx, hb, hml, hown, hts⟩ (c_Jx4a65c_size_8abf5 l D kl km kd K H.size ) (cwV 0 hts (gi_V q_1263 q_1264 q_1265 q_107 q_1266) rfl rfl rfl (by decide +kernel) ⟨Nat.le_of_ble_eq_true rfl, Nat.le_of_ble_eq_true rfl⟩) ⟨cPre_blind, va_recv hK hP (ci := 6) (q0 := 1) rfl rfl, cPre_mk hPc hK hDc hN (lwZ_for hZ (va_S_up hS hA) hFc)⟩ rfl rfl hl.1 rfl (lv_room (Nat.le_of_ble_eq_true rfl)) dX7_unclearOf_35 ⟨(Nat.le_of_ble_eq_true rfl), (Nat.le_of_ble_eq_true rfl)⟩) hS (fun q h1 h2 => absurd h2 (Nat.not_le.mpr h1)) (fun q h => Nat.le_trans hS.1 h) (fun r_35 u t H1 locs ht hvm hw hBk hz1 hk1 hS => ?_)
          have hP := va_P_ro hP hk1
          subst hw
          clear hBk hvm ht u hz1 hk1
          clear hPc hDc hFc; clear t
          generalize H1 = H at hP hS ⊢
          refine lv_icmp_ge (tgt := 84) hx hb dX7_unclearOf_38 (by decide) (fun c_3 => ?_) (fun c_3 => ?_)
          · exact absurd c_3 (nI_ge (a := j0 + i0) (b := K) (by omega) (by omega))
          · refine lv_aload_n hx hb dX7_unclearOf_41 rfl (lv_at hl 0 rfl) ?_
            refine va_get (D := D) (ci := 14) (v := .int fi) (C := RX7) (T := TX7) (N := 18) hx hb hts in_X7 hown hK hP 0 rfl rfl 3 (by decide) (hts _ q_1271) (fun _ h9 => h9) rfl dX7_unclearOf_42 ?_
            refine lv_iload hx hb dX7_unclearOf_45 (lv_at hl 6 rfl) ?_
            have hPc := hP.sub (ws' := []) [] rfl
            have hDc := hD.sub (ws' := []) [] (by decide) rfl
            have hFc := va_free (wc := []) hD (va_S_up hS hA) hA [] rfl
            refine va_calli (va_runS (As := [.int fi, .int (nI (j0 + i0))]) (rest := []) ⟨hx, hb, hml, hown, hts⟩ (c_X7_has l D fi (nI (j0 + i0)) H.size ) (cwS 2 hts (gi_S q_1361 q_1362 q_104 q_1363) rfl rfl rfl (by decide +kernel) ⟨Nat.le_of_ble_eq_true rfl, Nat.le_of_ble_eq_true rfl⟩) ⟨cPre_blind, cPre_mk hPc hK hDc hN (lwZ_for hZ (va_S_up hS hA) hFc)⟩ rfl rfl hl.1 rfl (lv_room (Nat.le_of_ble_eq_true rfl)) dX7_unclearOf_47 ⟨(Nat.le_of_ble_eq_true rfl), (Nat.le_of_ble_eq_true rfl)⟩) hS (fun q h1 h2 => absurd h2 (Nat.not_le.mpr h1)) (fun q h => Nat.le_trans hS.1 h) (fun r_47 u t H1 locs ht hvm hw hBk hz1 hk1 hS => ?_)
            have hP := va_P_ro hP hk1
            obtain ⟨hw, z_4⟩ := hw
            rw [hw] at z_4
            subst hw
            clear hBk hvm ht u hz1 hk1
            clear hPc hDc hFc; clear t
            generalize H1 = H at hP hS ⊢
            refine lv_if_eq (tgt := 78) hx hb dX7_unclearOf_50 (by decide) (fun c_5 => ?_) (fun c_5 => ?_)
            · refine lv_iinc (v := nI (j0 + (i0 + 1))) (lv' := [(6, .int (nI (j0 + (i0 + 1)))), (0, .ref hM), (1, .int 4), (2, .int (nI j0)), (3, .int x3), (4, .int x4), (5, .int a0)]) hx hb dX7_unclearOf_78 hl (k := 6) rfl ((nI_1 _)) (by decide) rfl (fun ls hl => ?_)
              refine lv_goto (tgt := 29) hx hb dX7_unclearOf_81 (by decide) ?_
              have hE : S_X7_unclearOf4_29 R C fi br K j0 x3 x4 i0 a0 = a0 := (by unfold S_X7_unclearOf4_29; rw [if_pos c_5])
              have hl : lv_has ls 7 [(0, .ref hM), (1, .int 4), (2, .int (nI j0)), (3, .int x3), (4, .int x4), (5, .int a0), (6, .int (nI (j0 + (i0 + 1))))] := lv_sub hl [1, 2, 3, 4, 5, 6, 0] rfl
              have hP := hP.sub (ws' := [(hM, .inr (14, [.int th, .int (nI R), .int (nI C), .int fi, .int di, .int he, .int br, .int pa, .int gu, .int (nI sc), .int cl, .int se, .int lo, .int lu, .int rf, .ref kl, .ref kc, .ref hB])), (kl, .inr (6, [.int km, .ref kd, .int (nI K)]))]) [0, 1] rfl
              have hD := hD.sub (ws' := [(hM, .inr (14, [.int th, .int (nI R), .int (nI C), .int fi, .int di, .int he, .int br, .int pa, .int gu, .int (nI sc), .int cl, .int se, .int lo, .int lu, .int rf, .ref kl, .ref kc, .ref hB])), (kl, .inr (6, [.int km, .ref kd, .int (nI K)]))]) [0, 1] (by decide) rfl
              exact ih0 (i0 + 1) (by omega) (S_X7_unclearOf4_29 R C fi br K j0 x3 x4 i0 a0) H locs ls (by (try rw [hE]); exact hP) (by (try rw [hE]); exact hD) hS (by (try rw [hE]); exact hl) kon
            · refine lv_iload hx hb dX7_unclearOf_53 (lv_at hl 5 rfl) ?_
              refine lv_aload_n hx hb dX7_unclearOf_55 rfl (lv_at hl 0 rfl) ?_
              refine lv_iload_n hx hb dX7_unclearOf_56 rfl (lv_at hl 1 rfl) ?_
              refine lv_iconst (v := 1) hx hb dX7_unclearOf_57 (by decide) ?_
              refine lv_isub hx hb dX7_unclearOf_58 ?_
              rw [show (4 - 1 : Int32) = 3 from (by decide)]
              refine lv_iload hx hb dX7_unclearOf_59 (lv_at hl 6 rfl) ?_
              refine lv_iconst (v := 1) hx hb dX7_unclearOf_61 (by decide) ?_
              refine lv_iadd hx hb dX7_unclearOf_62 ?_
              refine lv_iload_n hx hb dX7_unclearOf_63 rfl (lv_at hl 3 rfl) ?_
              refine lv_iload hx hb dX7_unclearOf_64 (lv_at hl 6 rfl) ?_
              refine lv_iconst (v := 1) hx hb dX7_unclearOf_66 (by decide) ?_
              have hPc := hP.sub (ws' := []) [] rfl
              have hDc := hD.sub (ws' := []) [] (by decide) rfl
              have hFc := va_free (wc := []) hD (va_S_up hS hA) hA [] rfl
              refine va_calli (va_runS (As := [.int x3, .int (nI (j0 + i0)), .int 1]) (rest := [.int ((nI (j0 + i0)) + 1), .int 3, .ref hM, .int a0]) ⟨hx, hb, hml, hown, hts⟩ (c_X7_with l D x3 (nI (j0 + i0)) 1 H.size ) (cwS 3 hts (gi_S q_1346 q_1347 q_104 q_1348) rfl rfl rfl (by decide +kernel) ⟨Nat.le_of_ble_eq_true rfl, Nat.le_of_ble_eq_true rfl⟩) ⟨cPre_blind, cPre_mk hPc hK hDc hN (lwZ_for hZ (va_S_up hS hA) hFc)⟩ rfl rfl hl.1 rfl (lv_room (Nat.le_of_ble_eq_true rfl)) dX7_unclearOf_67 ⟨(Nat.le_of_ble_eq_true rfl), (Nat.le_of_ble_eq_true rfl)⟩) hS (fun q h1 h2 => absurd h2 (Nat.not_le.mpr h1)) (fun q h => Nat.le_trans hS.1 h) (fun r_67 u t H1 locs ht hvm hw hBk hz1 hk1 hS => ?_)
              have hP := va_P_ro hP hk1
              subst hw
              clear hBk hvm ht u hz1 hk1
              clear hPc hDc hFc; clear t
              generalize H1 = H at hP hS ⊢
              refine lv_iload hx hb dX7_unclearOf_70 (lv_at hl 4 rfl) ?_
              have hPc := hP.sub (ws' := [(hM, .inr (14, [.int th, .int (nI R), .int (nI C), .int fi, .int di, .int he, .int br, .int pa, .int gu, .int (nI sc), .int cl, .int se, .int lo, .int lu, .int rf, .ref kl, .ref kc, .ref hB])), (kl, .inr (6, [.int km, .ref kd, .int (nI K)]))]) [0, 1] rfl
              have hDc := hD.sub (ws' := [(hM, .inr (14, [.int th, .int (nI R), .int (nI C), .int fi, .int di, .int he, .int br, .int pa, .int gu, .int (nI sc), .int cl, .int se, .int lo, .int lu, .int rf, .ref kl, .ref kc, .ref hB])), (kl, .inr (6, [.int km, .ref kd, .int (nI K)]))]) [0, 1] (by decide) rfl
              have hFc := va_free (wc := [(hM, .inr (14, [.int th, .int (nI R), .int (nI C), .int fi, .int di, .int he, .int br, .int pa, .int gu, .int (nI sc), .int cl, .int se, .int lo, .int lu, .int rf, .ref kl, .ref kc, .ref hB])), (kl, .inr (6, [.int km, .ref kd, .int (nI K)]))]) hD (va_S_up hS hA) hA [0, 1] rfl
              refine va_calli (va_runV (As := [.int 3, .int ((nI (j0 + i0)) + 1), .int (F_X7_with x3 (nI (j0 + i0)) 1), .int x4]) (rest := [.int a0]) ⟨hx, hb, hml, hown, hts⟩ (c_X7_unclearOf3 l D hM th R C fi di he br pa gu sc cl se lo lu rf kl kc hB km kd K ((j0 + i0) + 1) (F_X7_with x3 (nI (j0 + i0)) 1) x4 ((nI (j0 + i0)) + 1) H.size (show R ≤ 5 from hR) (show C ≤ 5 from hC) (show 0 < C from hC0) (show K ≤ 25 from hKb) (show ((j0 + i0) + 1) ≤ 25 from (by omega)) (show ((nI (j0 + i0)) + 1) = nI ((j0 + i0) + 1) from (nI_1 _))) (cwV 4 hts (gi_V q_1613 q_1615 q_75 q_104 q_1616) rfl rfl rfl (by decide +kernel) ⟨Nat.le_of_ble_eq_true rfl, Nat.le_of_ble_eq_true rfl⟩) ⟨cPre_blind, va_recv hK hP (ci := 14) (q0 := 0) rfl rfl, cPre_mk hPc hK hDc hN (lwZ_for hZ (va_S_up hS hA) hFc)⟩ rfl rfl hl.1 rfl (lv_room (Nat.le_of_ble_eq_true rfl)) dX7_unclearOf_72 ⟨(Nat.le_of_ble_eq_true rfl), (Nat.le_of_ble_eq_true rfl)⟩) hS (fun q h1 h2 => absurd h2 (Nat.not_le.mpr h1)) (fun q h => Nat.le_trans hS.1 h) (fun r_72 u t H1 locs ht hvm hw hBk hz1 hk1 hS => ?_)
              have hP := va_P_ro hP hk1
              subst hw
              clear hBk hvm ht u hz1 hk1
              clear hPc hDc hFc; clear t
              generalize H1 = H at hP hS ⊢
              refine lv_iadd hx hb dX7_unclearOf_75 ?_
              refine lv_istore (lv' := [(5, .int (a0 + (F_X7_unclearOf3 R C fi br K ((j0 + i0) + 1) (F_X7_with x3 (nI (j0 + i0)) 1) x4))), (0, .ref hM), (1, .int 4), (2, .int (nI j0)), (3, .int x3), (4, .int x4), (6, .int (nI (j0 + i0)))]) hx hb dX7_unclearOf_76 hl (by decide) rfl (fun ls hl => ?_)
              refine lv_iinc (v := nI (j0 + (i0 + 1))) (lv' := [(6, .int (nI (j0 + (i0 + 1)))), (5, .int (a0 + (F_X7_unclearOf3 R C fi br K ((j0 + i0) + 1) (F_X7_with x3 (nI (j0 + i0)) 1) x4))), (0, .ref hM), (1, .int 4), (2, .int (nI j0)), (3, .int x3), (4, .int x4)]) hx hb dX7_unclearOf_78 hl (k := 6) rfl ((nI_1 _)) (by decide) rfl (fun ls hl => ?_)
              refine lv_goto (tgt := 29) hx hb dX7_unclearOf_81 (by decide) ?_
              have hE : S_X7_unclearOf4_29 R C fi br K j0 x3 x4 i0 a0 = a0 + (F_X7_unclearOf3 R C fi br K ((j0 + i0) + 1) (F_X7_with x3 (nI (j0 + i0)) 1) x4) := (by unfold S_X7_unclearOf4_29; rw [if_neg c_5])
              have hl : lv_has ls 7 [(0, .ref hM), (1, .int 4), (2, .int (nI j0)), (3, .int x3), (4, .int x4), (5, .int (a0 + (F_X7_unclearOf3 R C fi br K ((j0 + i0) + 1) (F_X7_with x3 (nI (j0 + i0)) 1) x4))), (6, .int (nI (j0 + (i0 + 1))))] := lv_sub hl [2, 3, 4, 5, 6, 1, 0] rfl
              have hP := hP.sub (ws' := [(hM, .inr (14, [.int th, .int (nI R), .int (nI C), .int fi, .int di, .int he, .int br, .int pa, .int gu, .int (nI sc), .int cl, .int se, .int lo, .int lu, .int rf, .ref kl, .ref kc, .ref hB])), (kl, .inr (6, [.int km, .ref kd, .int (nI K)]))]) [0, 1] rfl
              have hD := hD.sub (ws' := [(hM, .inr (14, [.int th, .int (nI R), .int (nI C), .int fi, .int di, .int he, .int br, .int pa, .int gu, .int (nI sc), .int cl, .int se, .int lo, .int lu, .int rf, .ref kl, .ref kc, .ref hB])), (kl, .inr (6, [.int km, .ref kd, .int (nI K)]))]) [0, 1] (by decide) rfl
              exact ih0 (i0 + 1) (by omega) (S_X7_unclearOf4_29 R C fi br K j0 x3 x4 i0 a0) H locs ls (by (try rw [hE]); exact hP) (by (try rw [hE]); exact hD) hS (by (try rw [hE]); exact hl) kon
      have hl : lv_has ls 7 [(0, .ref hM), (1, .int 4), (2, .int (nI j0)), (3, .int x3), (4, .int x4), (5, .int 0), (6, .int (nI (j0 + 0)))] := lv_sub hl [2, 3, 4, 5, 6, 1, 0] rfl
      refine lp_29 (K - j0) 0 (by omega) 0 H locs ls hP hD hS hl ?_
      clear lp_29 hP hD hS hl
      intro H locs ls hP hD hS hl
      refine lv_iload hx hb dX7_unclearOf_84 (lv_at hl 5 rfl) ?_
      subst hQe
      exact W.iret (v := (itr (fun i a => S_X7_unclearOf4_29 R C fi br K j0 x3 x4 i a) (K - j0) 0 0)) hx hb hr (fun t ht hW => ⟨⟨(itr (fun i a => S_X7_unclearOf4_29 R C fi br K j0 x3 x4 i a) (K - j0) 0 0), (), rfl, (by rfl), trivial⟩, hS.F ht⟩) hS.2.2 dX7_unclearOf_86
    · exact absurd c_1 (by decide)
  rw [hHe, hLe] at hgoal
  exact hgoal

def S_X7_best_6 (R : Nat) (C : Nat) (fi : Int32) (di : Int32) (br : Int32) (K : Nat) (i0 : Nat) (a0 : Int32 × Int32) : Int32 × Int32 := (if (F_X7_has fi (nI i0)) = 0 then (a0.1, a0.2) else (if (F_X7_has di (nI i0)) = 0 then (if a0.1 = (-1) then (nI i0, F_X7_unclearOf3 R C fi br K 0 0 (F_X7_with di (nI i0) 1)) else (if (F_X7_unclearOf3 R C fi br K 0 0 (F_X7_with di (nI i0) 1)) < a0.2 then (nI i0, F_X7_unclearOf3 R C fi br K 0 0 (F_X7_with di (nI i0) 1)) else (a0.1, a0.2))) else (a0.1, a0.2)))
def F_X7_best (R : Nat) (C : Nat) (fi : Int32) (di : Int32) (br : Int32) (K : Nat) : Int32 := (itr (fun i a => S_X7_best_6 R C fi di br K i a) K 0 ((-1), 0)).1
set_option maxHeartbeats 4000000 in
set_option maxRecDepth 100000 in
theorem c_X7_best (l : Launch) (D : va_G) (hM : Nat) (th : Int32) (R : Nat) (C : Nat) (fi : Int32) (di : Int32) (he : Int32) (br : Int32) (pa : Int32) (gu : Int32) (sc : Nat) (cl : Int32) (se : Int32) (lo : Int32) (lu : Int32) (rf : Int32) (kl : Nat) (kc : Nat) (hB : Nat) (km : Int32) (kd : Nat) (K : Nat) (sz : Nat) (hR : R ≤ 5) (hC : C ≤ 5) (hC0 : 0 < C) (hKb : K ≤ 25) : Met l yX7_best (Cond.code yX7_best cX7_best 5 (some .int) :: lwAll) ({ frames := 8, cells := 0, slots := 0, locals := 198 } : Room) (va_Pc [.ref hM] (cPre D (lwTY D) [(hM, .inr (14, [.int th, .int (nI R), .int (nI C), .int fi, .int di, .int he, .int br, .int pa, .int gu, .int (nI sc), .int cl, .int se, .int lo, .int lu, .int rf, .ref kl, .ref kc, .ref hB])), (kl, .inr (6, [.int km, .ref kd, .int (nI K)]))] sz)) (va_Qi (fun (r : Int32) (_ : Unit) => r = (F_X7_best R C fi di br K)) (fun _ _ => True) (fun q : Nat => sz ≤ q)) 0 0 (fun q : Nat => sz ≤ q) := by
  refine Met.ofW (cc := cX7_best) (maxL := 5) (ret := (some .int)) (by decide) rfl ?_
  intro p e s m args below meth c s₁ B hml hv
  obtain ⟨rfl, hsz, hP, hK, hD0, hN, hZ⟩ := hv
  have hx := B.exec
  have hb := B.bytes
  have hr := B.returns
  have hts : ∀ wd ∈ lwAll, wd.before ([.ref hM] : List Value).toArray s = true := fun wd h => atoms_spec (ws := (Cond.code yX7_best cX7_best 5 (some .int) :: lwAll)) B.pre wd (List.mem_cons_of_mem _ h)
  have hown : s.vm.findClass RX7 = some m.cls := findClass_of_methodNamed B.named
  have hlocks := B.notSynchronized
  subst hsz
  have hD := hD0.self (sz := s.heap.size)
  have hl := lv_entry ([.ref hM]) (n := 5) (Nat.le_of_ble_eq_true rfl)
  rw [lg_entry_eq]
  generalize (lg_sl ([.ref hM]) ++ List.replicate (5 - (lg_sl ([.ref hM])).length) Slot.unset).toArray = ls at hl ⊢
  have hl : lv_has ls 5 [(0, .ref hM)] := hl
  have hS : va_S (fun q : Nat => s.heap.size ≤ q) s.heap s.heap [] := va_S.rf
  generalize hQe : MQ below (va_Qi (fun (r : Int32) (_ : Unit) => r = (F_X7_best R C fi di br K)) (fun _ _ => True) (fun q : Nat => s.heap.size ≤ q)) ([.ref hM] : List Value).toArray s 0 0 (fun q : Nat => s.heap.size ≤ q) = Q
  have hP : va_P D vwCl [(hM, .inr (14, [.int th, .int (nI R), .int (nI C), .int fi, .int di, .int he, .int br, .int pa, .int gu, .int (nI sc), .int cl, .int se, .int lo, .int lu, .int rf, .ref kl, .ref kc, .ref hB])), (kl, .inr (6, [.int km, .ref kd, .int (nI K)]))] s.heap := hP
  obtain ⟨A, hAe⟩ : ∃ A, A = va_A [(hM, .inr (14, [.int th, .int (nI R), .int (nI C), .int fi, .int di, .int he, .int br, .int pa, .int gu, .int (nI sc), .int cl, .int se, .int lo, .int lu, .int rf, .ref kl, .ref kc, .ref hB])), (kl, .inr (6, [.int km, .ref kd, .int (nI K)]))] s.heap.size := ⟨_, rfl⟩
  rw [← hAe] at hD hZ
  have hA : ∀ q : Nat, s.heap.size ≤ q → A q := fun q h => by rw [hAe]; exact Or.inr h
  obtain ⟨H, hHe⟩ : ∃ H, H = s.heap := ⟨_, rfl⟩
  obtain ⟨locs, hLe⟩ : ∃ L : List Loc, L = [] := ⟨_, rfl⟩
  have hP : va_P D vwCl [(hM, .inr (14, [.int th, .int (nI R), .int (nI C), .int fi, .int di, .int he, .int br, .int pa, .int gu, .int (nI sc), .int cl, .int se, .int lo, .int lu, .int rf, .ref kl, .ref kc, .ref hB])), (kl, .inr (6, [.int km, .ref kd, .int (nI K)]))] H := by rw [hHe]; exact hP
  have hS : va_S (fun q : Nat => s.heap.size ≤ q) s.heap H locs := by rw [hHe, hLe]; exact hS
  have hgoal : W p l e ({ frames := 8, cells := 0, slots := 0, locals := 198 } : Room) s m ([.ref hM] : List Value).toArray below meth c H locs 0 0 Q (F0 m 0 ls []) := by
    clear hHe hLe
    refine lv_iconst (v := (-1)) hx hb dX7_best_0 (by decide) ?_
    refine lv_istore_n (lv' := [(1, .int (-1)), (0, .ref hM)]) hx hb dX7_best_1 rfl hl (by decide) rfl (fun ls hl => ?_)
    refine lv_iconst (v := 0) hx hb dX7_best_2 (by decide) ?_
    refine lv_istore_n (lv' := [(2, .int 0), (1, .int (-1)), (0, .ref hM)]) hx hb dX7_best_3 rfl hl (by decide) rfl (fun ls hl => ?_)
    refine lv_iconst (v := 0) hx hb dX7_best_4 (by decide) ?_
    refine lv_istore_n (lv' := [(3, .int 0), (2, .int 0), (1, .int (-1)), (0, .ref hM)]) hx hb dX7_best_5 rfl hl (by decide) rfl (fun ls hl => ?_)
    have lp_6 : ∀ (n0 i0 : Nat), i0 + n0 = K → ∀ (a0 : Int32 × Int32) (H : Heap) (locs : List Loc) (ls : Array Slot), va_P D vwCl [(hM, .inr (14, [.int th, .int (nI R), .int (nI C), .int fi, .int di, .int he, .int br, .int pa, .int gu, .int (nI sc), .int cl, .int se, .int lo, .int lu, .int rf, .ref kl, .ref kc, .ref hB])), (kl, .inr (6, [.int km, .ref kd, .int (nI K)]))] H → va_D A [(hM, .inr (14, [.int th, .int (nI R), .int (nI C), .int fi, .int di, .int he, .int br, .int pa, .int gu, .int (nI sc), .int cl, .int se, .int lo, .int lu, .int rf, .ref kl, .ref kc, .ref hB])), (kl, .inr (6, [.int km, .ref kd, .int (nI K)]))] → va_S (fun q : Nat => s.heap.size ≤ q) s.heap H locs → lv_has ls 5 [(0, .ref hM), (1, .int a0.1), (2, .int a0.2), (3, .int (nI i0))] → (∀ (H : Heap) (locs : List Loc) (ls : Array Slot), va_P D vwCl [(hM, .inr (14, [.int th, .int (nI R), .int (nI C), .int fi, .int di, .int he, .int br, .int pa, .int gu, .int (nI sc), .int cl, .int se, .int lo, .int lu, .int rf, .ref kl, .ref kc, .ref hB])), (kl, .inr (6, [.int km, .ref kd, .int (nI K)]))] H → va_D A [(hM, .inr (14, [.int th, .int (nI R), .int (nI C), .int fi, .int di, .int he, .int br, .int pa, .int gu, .int (nI sc), .int cl, .int se, .int lo, .int lu, .int rf, .ref kl, .ref kc, .ref hB])), (kl, .inr (6, [.int km, .ref kd, .int (nI K)]))] → va_S (fun q : Nat => s.heap.size ≤ q) s.heap H locs → lv_has ls 5 [(0, .ref hM), (1, .int ((itr (fun i a => S_X7_best_6 R C fi di br K i a) n0 i0 a0).1)), (2, .int ((itr (fun i a => S_X7_best_6 R C fi di br K i a) n0 i0 a0).2)), (3, .int (nI K))] → W p l e ({ frames := 8, cells := 0, slots := 0, locals := 198 } : Room) s m ([.ref hM] : List Value).toArray below meth c H locs 0 0 Q (F0 m 85 ls [])) → W p l e ({ frames := 8, cells := 0, slots := 0, locals := 198 } : Room) s m ([.ref hM] : List Value).toArray below meth c H locs 0 0 Q (F0 m 6 ls []) := by
      intro n0
      induction n0 with
      | zero =>
        intro i0 hi0 a0 H locs ls hP hD hS hl kon
        have he0 : i0 = K := by omega
        refine lv_iload_n hx hb dX7_best_6 rfl (lv_at hl 3 rfl) ?_
        refine lv_aload_n hx hb dX7_best_7 rfl (lv_at hl 0 rfl) ?_
        refine va_get (D := D) (ci := 14) (v := .ref kl) (C := RX7) (T := TX7) (N := 18) hx hb hts in_X7 hown hK hP 0 rfl rfl 15 (by decide) (hts _ q_1283) (fun _ h9 => h9) rfl dX7_best_8 ?_
        have hPc := hP.sub (ws' := [(kl, .inr (6, [.int km, .ref kd, .int (nI K)]))]) [1] rfl
        have hDc := hD.sub (ws' := [(kl, .inr (6, [.int km, .ref kd, .int (nI K)]))]) [1] (by decide) rfl
        have hFc := va_free (wc := [(kl, .inr (6, [.int km, .ref kd, .int (nI K)]))]) hD (va_S_up hS hA) hA [1] rfl
        refine va_calli (va_runV (As := []) (rest := [.int (nI i0)]) ⟨hx, hb, hml, hown, hts⟩ (c_Jx4a65c_size_8abf5 l D kl km kd K H.size ) (cwV 0 hts (gi_V q_1263 q_1264 q_1265 q_107 q_1266) rfl rfl rfl (by decide +kernel) ⟨Nat.le_of_ble_eq_true rfl, Nat.le_of_ble_eq_true rfl⟩) ⟨cPre_blind, va_recv hK hP (ci := 6) (q0 := 1) rfl rfl, cPre_mk hPc hK hDc hN (lwZ_for hZ (va_S_up hS hA) hFc)⟩ rfl rfl hl.1 rfl (lv_room (Nat.le_of_ble_eq_true rfl)) dX7_best_11 ⟨(Nat.le_of_ble_eq_true rfl), (Nat.le_of_ble_eq_true rfl)⟩) hS (fun q h1 h2 => absurd h2 (Nat.not_le.mpr h1)) (fun q h => Nat.le_trans hS.1 h) (fun r_11 u t H1 locs ht hvm hw hBk hz1 hk1 hS => ?_)
        have hP := va_P_ro hP hk1
        subst hw
        clear hBk hvm ht u hz1 hk1
        clear hPc hDc hFc; clear t
        generalize H1 = H at hP hS ⊢
        refine lv_icmp_ge (tgt := 85) hx hb dX7_best_14 (by decide) (fun c_1 => ?_) (fun c_1 => ?_)
        · subst he0
          exact kon H locs ls hP hD hS (lv_sub hl [0, 1, 2, 3] rfl)
        · exact absurd (nI_le (a := K) (b := i0) (by omega) (by omega)) c_1
      | succ n0 ih0 =>
        intro i0 hi0 a0 H locs ls hP hD hS hl kon
        refine lv_iload_n hx hb dX7_best_6 rfl (lv_at hl 3 rfl) ?_
        refine lv_aload_n hx hb dX7_best_7 rfl (lv_at hl 0 rfl) ?_
        refine va_get (D := D) (ci := 14) (v := .ref kl) (C := RX7) (T := TX7) (N := 18) hx hb hts in_X7 hown hK hP 0 rfl rfl 15 (by decide) (hts _ q_1283) (fun _ h9 => h9) rfl dX7_best_8 ?_
        have hPc := hP.sub (ws' := [(kl, .inr (6, [.int km, .ref kd, .int (nI K)]))]) [1] rfl
        have hDc := hD.sub (ws' := [(kl, .inr (6, [.int km, .ref kd, .int (nI K)]))]) [1] (by decide) rfl
        have hFc := va_free (wc := [(kl, .inr (6, [.int km, .ref kd, .int (nI K)]))]) hD (va_S_up hS hA) hA [1] rfl
        refine va_calli (va_runV (As := []) (rest := [.int (nI i0)]) ⟨hx, hb, hml, hown, hts⟩ (c_Jx4a65c_size_8abf5 l D kl km kd K H.size ) (cwV 0 hts (gi_V q_1263 q_1264 q_1265 q_107 q_1266) rfl rfl rfl (by decide +kernel) ⟨Nat.le_of_ble_eq_true rfl, Nat.le_of_ble_eq_true rfl⟩) ⟨cPre_blind, va_recv hK hP (ci := 6) (q0 := 1) rfl rfl, cPre_mk hPc hK hDc hN (lwZ_for hZ (va_S_up hS hA) hFc)⟩ rfl rfl hl.1 rfl (lv_room (Nat.le_of_ble_eq_true rfl)) dX7_best_11 ⟨(Nat.le_of_ble_eq_true rfl), (Nat.le_of_ble_eq_true rfl)⟩) hS (fun q h1 h2 => absurd h2 (Nat.not_le.mpr h1)) (fun q h => Nat.le_trans hS.1 h) (fun r_11 u t H1 locs ht hvm hw hBk hz1 hk1 hS => ?_)
        have hP := va_P_ro hP hk1
        subst hw
        clear hBk hvm ht u hz1 hk1
        clear hPc hDc hFc; clear t
        generalize H1 = H at hP hS ⊢
        refine lv_icmp_ge (tgt := 85) hx hb dX7_best_14 (by decide) (fun c_2 => ?_) (fun c_2 => ?_)
        · exact absurd c_2 (nI_ge (a := i0) (b := K) (by omega) (by omega))
        · refine lv_aload_n hx hb dX7_best_17 rfl (lv_at hl 0 rfl) ?_
          refine va_get (D := D) (ci := 14) (v := .int fi) (C := RX7) (T := TX7) (N := 18) hx hb hts in_X7 hown hK hP 0 rfl rfl 3 (by decide) (hts _ q_1271) (fun _ h9 => h9) rfl dX7_best_18 ?_
          refine lv_iload_n hx hb dX7_best_21 rfl (lv_at hl 3 rfl) ?_
          have hPc := hP.sub (ws' := []) [] rfl
          have hDc := hD.sub (ws' := []) [] (by decide) rfl
          have hFc := va_free (wc := []) hD (va_S_up hS hA) hA [] rfl
          refine va_calli (va_runS (As := [.int fi, .int (nI i0)]) (rest := []) ⟨hx, hb, hml, hown, hts⟩ (c_X7_has l D fi (nI i0) H.size ) (cwS 2 hts (gi_S q_1361 q_1362 q_104 q_1363) rfl rfl rfl (by decide +kernel) ⟨Nat.le_of_ble_eq_true rfl, Nat.le_of_ble_eq_true rfl⟩) ⟨cPre_blind, cPre_mk hPc hK hDc hN (lwZ_for hZ (va_S_up hS hA) hFc)⟩ rfl rfl hl.1 rfl (lv_room (Nat.le_of_ble_eq_true rfl)) dX7_best_22 ⟨(Nat.le_of_ble_eq_true rfl), (Nat.le_of_ble_eq_true rfl)⟩) hS (fun q h1 h2 => absurd h2 (Nat.not_le.mpr h1)) (fun q h => Nat.le_trans hS.1 h) (fun r_22 u t H1 locs ht hvm hw hBk hz1 hk1 hS => ?_)
          have hP := va_P_ro hP hk1
          obtain ⟨hw, z_3⟩ := hw
          rw [hw] at z_3
          subst hw
          clear hBk hvm ht u hz1 hk1
          clear hPc hDc hFc; clear t
          generalize H1 = H at hP hS ⊢
          refine lv_if_eq (tgt := 79) hx hb dX7_best_25 (by decide) (fun c_4 => ?_) (fun c_4 => ?_)
          · refine lv_iinc (v := nI (i0 + 1)) (lv' := [(3, .int (nI (i0 + 1))), (0, .ref hM), (1, .int a0.1), (2, .int a0.2)]) hx hb dX7_best_79 hl (k := 3) rfl (nI_1 _) (by decide) rfl (fun ls hl => ?_)
            refine lv_goto (tgt := 6) hx hb dX7_best_82 (by decide) ?_
            have hE : S_X7_best_6 R C fi di br K i0 a0 = (a0.1, a0.2) := (by unfold S_X7_best_6; rw [if_pos c_4])
            have hl : lv_has ls 5 [(0, .ref hM), (1, .int a0.1), (2, .int a0.2), (3, .int (nI (i0 + 1)))] := lv_sub hl [1, 2, 3, 0] rfl
            have hP := hP.sub (ws' := [(hM, .inr (14, [.int th, .int (nI R), .int (nI C), .int fi, .int di, .int he, .int br, .int pa, .int gu, .int (nI sc), .int cl, .int se, .int lo, .int lu, .int rf, .ref kl, .ref kc, .ref hB])), (kl, .inr (6, [.int km, .ref kd, .int (nI K)]))]) [0, 1] rfl
            have hD := hD.sub (ws' := [(hM, .inr (14, [.int th, .int (nI R), .int (nI C), .int fi, .int di, .int he, .int br, .int pa, .int gu, .int (nI sc), .int cl, .int se, .int lo, .int lu, .int rf, .ref kl, .ref kc, .ref hB])), (kl, .inr (6, [.int km, .ref kd, .int (nI K)]))]) [0, 1] (by decide) rfl
            exact ih0 (i0 + 1) (by omega) (S_X7_best_6 R C fi di br K i0 a0) H locs ls (by (try rw [hE]); exact hP) (by (try rw [hE]); exact hD) hS (by (try rw [hE]); exact hl) kon
          · refine lv_aload_n hx hb dX7_best_28 rfl (lv_at hl 0 rfl) ?_
            refine va_get (D := D) (ci := 14) (v := .int di) (C := RX7) (T := TX7) (N := 18) hx hb hts in_X7 hown hK hP 0 rfl rfl 4 (by decide) (hts _ q_1272) (fun _ h9 => h9) rfl dX7_best_29 ?_
            refine lv_iload_n hx hb dX7_best_32 rfl (lv_at hl 3 rfl) ?_
            have hPc := hP.sub (ws' := []) [] rfl
            have hDc := hD.sub (ws' := []) [] (by decide) rfl
            have hFc := va_free (wc := []) hD (va_S_up hS hA) hA [] rfl
            refine va_calli (va_runS (As := [.int di, .int (nI i0)]) (rest := []) ⟨hx, hb, hml, hown, hts⟩ (c_X7_has l D di (nI i0) H.size ) (cwS 2 hts (gi_S q_1361 q_1362 q_104 q_1363) rfl rfl rfl (by decide +kernel) ⟨Nat.le_of_ble_eq_true rfl, Nat.le_of_ble_eq_true rfl⟩) ⟨cPre_blind, cPre_mk hPc hK hDc hN (lwZ_for hZ (va_S_up hS hA) hFc)⟩ rfl rfl hl.1 rfl (lv_room (Nat.le_of_ble_eq_true rfl)) dX7_best_33 ⟨(Nat.le_of_ble_eq_true rfl), (Nat.le_of_ble_eq_true rfl)⟩) hS (fun q h1 h2 => absurd h2 (Nat.not_le.mpr h1)) (fun q h => Nat.le_trans hS.1 h) (fun r_33 u t H1 locs ht hvm hw hBk hz1 hk1 hS => ?_)
            have hP := va_P_ro hP hk1
            obtain ⟨hw, z_5⟩ := hw
            rw [hw] at z_5
            subst hw
            clear hBk hvm ht u hz1 hk1
            clear hPc hDc hFc; clear t
            generalize H1 = H at hP hS ⊢
            refine lv_if_eq (tgt := 42) hx hb dX7_best_36 (by decide) (fun c_6 => ?_) (fun c_6 => ?_)
            · refine lv_aload_n hx hb dX7_best_42 rfl (lv_at hl 0 rfl) ?_
              refine lv_iconst (v := 3) hx hb dX7_best_43 (by decide) ?_
              refine lv_iconst (v := 0) hx hb dX7_best_44 (by decide) ?_
              refine lv_iconst (v := 0) hx hb dX7_best_45 (by decide) ?_
              refine lv_aload_n hx hb dX7_best_46 rfl (lv_at hl 0 rfl) ?_
              refine va_get (D := D) (ci := 14) (v := .int di) (C := RX7) (T := TX7) (N := 18) hx hb hts in_X7 hown hK hP 0 rfl rfl 4 (by decide) (hts _ q_1272) (fun _ h9 => h9) rfl dX7_best_47 ?_
              refine lv_iload_n hx hb dX7_best_50 rfl (lv_at hl 3 rfl) ?_
              refine lv_iconst (v := 1) hx hb dX7_best_51 (by decide) ?_
              have hPc := hP.sub (ws' := []) [] rfl
              have hDc := hD.sub (ws' := []) [] (by decide) rfl
              have hFc := va_free (wc := []) hD (va_S_up hS hA) hA [] rfl
              refine va_calli (va_runS (As := [.int di, .int (nI i0), .int 1]) (rest := [.int 0, .int 0, .int 3, .ref hM]) ⟨hx, hb, hml, hown, hts⟩ (c_X7_with l D di (nI i0) 1 H.size ) (cwS 3 hts (gi_S q_1346 q_1347 q_104 q_1348) rfl rfl rfl (by decide +kernel) ⟨Nat.le_of_ble_eq_true rfl, Nat.le_of_ble_eq_true rfl⟩) ⟨cPre_blind, cPre_mk hPc hK hDc hN (lwZ_for hZ (va_S_up hS hA) hFc)⟩ rfl rfl hl.1 rfl (lv_room (Nat.le_of_ble_eq_true rfl)) dX7_best_52 ⟨(Nat.le_of_ble_eq_true rfl), (Nat.le_of_ble_eq_true rfl)⟩) hS (fun q h1 h2 => absurd h2 (Nat.not_le.mpr h1)) (fun q h => Nat.le_trans hS.1 h) (fun r_52 u t H1 locs ht hvm hw hBk hz1 hk1 hS => ?_)
              have hP := va_P_ro hP hk1
              subst hw
              clear hBk hvm ht u hz1 hk1
              clear hPc hDc hFc; clear t
              generalize H1 = H at hP hS ⊢
              have hPc := hP.sub (ws' := [(hM, .inr (14, [.int th, .int (nI R), .int (nI C), .int fi, .int di, .int he, .int br, .int pa, .int gu, .int (nI sc), .int cl, .int se, .int lo, .int lu, .int rf, .ref kl, .ref kc, .ref hB])), (kl, .inr (6, [.int km, .ref kd, .int (nI K)]))]) [0, 1] rfl
              have hDc := hD.sub (ws' := [(hM, .inr (14, [.int th, .int (nI R), .int (nI C), .int fi, .int di, .int he, .int br, .int pa, .int gu, .int (nI sc), .int cl, .int se, .int lo, .int lu, .int rf, .ref kl, .ref kc, .ref hB])), (kl, .inr (6, [.int km, .ref kd, .int (nI K)]))]) [0, 1] (by decide) rfl
              have hFc := va_free (wc := [(hM, .inr (14, [.int th, .int (nI R), .int (nI C), .int fi, .int di, .int he, .int br, .int pa, .int gu, .int (nI sc), .int cl, .int se, .int lo, .int lu, .int rf, .ref kl, .ref kc, .ref hB])), (kl, .inr (6, [.int km, .ref kd, .int (nI K)]))]) hD (va_S_up hS hA) hA [0, 1] rfl
              refine va_calli (va_runV (As := [.int 3, .int 0, .int 0, .int (F_X7_with di (nI i0) 1)]) (rest := []) ⟨hx, hb, hml, hown, hts⟩ (c_X7_unclearOf3 l D hM th R C fi di he br pa gu sc cl se lo lu rf kl kc hB km kd K 0 0 (F_X7_with di (nI i0) 1) 0 H.size (show R ≤ 5 from hR) (show C ≤ 5 from hC) (show 0 < C from hC0) (show K ≤ 25 from hKb) (show 0 ≤ 25 from (by omega)) (show 0 = nI 0 from rfl)) (cwV 4 hts (gi_V q_1613 q_1615 q_75 q_104 q_1616) rfl rfl rfl (by decide +kernel) ⟨Nat.le_of_ble_eq_true rfl, Nat.le_of_ble_eq_true rfl⟩) ⟨cPre_blind, va_recv hK hP (ci := 14) (q0 := 0) rfl rfl, cPre_mk hPc hK hDc hN (lwZ_for hZ (va_S_up hS hA) hFc)⟩ rfl rfl hl.1 rfl (lv_room (Nat.le_of_ble_eq_true rfl)) dX7_best_55 ⟨(Nat.le_of_ble_eq_true rfl), (Nat.le_of_ble_eq_true rfl)⟩) hS (fun q h1 h2 => absurd h2 (Nat.not_le.mpr h1)) (fun q h => Nat.le_trans hS.1 h) (fun r_55 u t H1 locs ht hvm hw hBk hz1 hk1 hS => ?_)
              have hP := va_P_ro hP hk1
              subst hw
              clear hBk hvm ht u hz1 hk1
              clear hPc hDc hFc; clear t
              generalize H1 = H at hP hS ⊢
              refine lv_istore (lv' := [(4, .int (F_X7_unclearOf3 R C fi br K 0 0 (F_X7_with di (nI i0) 1))), (0, .ref hM), (1, .int a0.1), (2, .int a0.2), (3, .int (nI i0))]) hx hb dX7_best_58 hl (by decide) rfl (fun ls hl => ?_)
              refine lv_iload_n hx hb dX7_best_60 rfl (lv_at hl 2 rfl) ?_
              refine lv_iconst (v := (-1)) hx hb dX7_best_61 (by decide) ?_
              refine lv_icmp_eq (tgt := 74) hx hb dX7_best_62 (by decide) (fun c_7 => ?_) (fun c_7 => ?_)
              · refine lv_iload_n hx hb dX7_best_74 rfl (lv_at hl 4 rfl) ?_
                refine lv_istore_n (lv' := [(1, .int (nI i0)), (4, .int (F_X7_unclearOf3 R C fi br K 0 0 (F_X7_with di (nI i0) 1))), (0, .ref hM), (2, .int a0.2), (3, .int (nI i0))]) hx hb dX7_best_75 rfl hl (by decide) rfl (fun ls hl => ?_)
                refine lv_iload hx hb dX7_best_76 (lv_at hl 1 rfl) ?_
                refine lv_istore_n (lv' := [(2, .int (F_X7_unclearOf3 R C fi br K 0 0 (F_X7_with di (nI i0) 1))), (1, .int (nI i0)), (4, .int (F_X7_unclearOf3 R C fi br K 0 0 (F_X7_with di (nI i0) 1))), (0, .ref hM), (3, .int (nI i0))]) hx hb dX7_best_78 rfl hl (by decide) rfl (fun ls hl => ?_)
                refine lv_iinc (v := nI (i0 + 1)) (lv' := [(3, .int (nI (i0 + 1))), (2, .int (F_X7_unclearOf3 R C fi br K 0 0 (F_X7_with di (nI i0) 1))), (1, .int (nI i0)), (4, .int (F_X7_unclearOf3 R C fi br K 0 0 (F_X7_with di (nI i0) 1))), (0, .ref hM)]) hx hb dX7_best_79 hl (k := 4) rfl (nI_1 _) (by decide) rfl (fun ls hl => ?_)
                refine lv_goto (tgt := 6) hx hb dX7_best_82 (by decide) ?_
                have hE : S_X7_best_6 R C fi di br K i0 a0 = (nI i0, F_X7_unclearOf3 R C fi br K 0 0 (F_X7_with di (nI i0) 1)) := (by unfold S_X7_best_6; rw [if_neg c_4, if_pos c_6, if_pos c_7])
                have hl : lv_has ls 5 [(0, .ref hM), (1, .int (nI i0)), (2, .int (F_X7_unclearOf3 R C fi br K 0 0 (F_X7_with di (nI i0) 1))), (3, .int (nI (i0 + 1)))] := lv_sub hl [4, 2, 1, 0] rfl
                have hP := hP.sub (ws' := [(hM, .inr (14, [.int th, .int (nI R), .int (nI C), .int fi, .int di, .int he, .int br, .int pa, .int gu, .int (nI sc), .int cl, .int se, .int lo, .int lu, .int rf, .ref kl, .ref kc, .ref hB])), (kl, .inr (6, [.int km, .ref kd, .int (nI K)]))]) [0, 1] rfl
                have hD := hD.sub (ws' := [(hM, .inr (14, [.int th, .int (nI R), .int (nI C), .int fi, .int di, .int he, .int br, .int pa, .int gu, .int (nI sc), .int cl, .int se, .int lo, .int lu, .int rf, .ref kl, .ref kc, .ref hB])), (kl, .inr (6, [.int km, .ref kd, .int (nI K)]))]) [0, 1] (by decide) rfl
                exact ih0 (i0 + 1) (by omega) (S_X7_best_6 R C fi di br K i0 a0) H locs ls (by (try rw [hE]); exact hP) (by (try rw [hE]); exact hD) hS (by (try rw [hE]); exact hl) kon
              · refine lv_iload hx hb dX7_best_65 (lv_at hl 0 rfl) ?_
                refine lv_iload_n hx hb dX7_best_67 rfl (lv_at hl 3 rfl) ?_
                refine lv_icmp_lt (tgt := 74) hx hb dX7_best_68 (by decide) (fun c_8 => ?_) (fun c_8 => ?_)
                · refine lv_iload_n hx hb dX7_best_74 rfl (lv_at hl 4 rfl) ?_
                  refine lv_istore_n (lv' := [(1, .int (nI i0)), (4, .int (F_X7_unclearOf3 R C fi br K 0 0 (F_X7_with di (nI i0) 1))), (0, .ref hM), (2, .int a0.2), (3, .int (nI i0))]) hx hb dX7_best_75 rfl hl (by decide) rfl (fun ls hl => ?_)
                  refine lv_iload hx hb dX7_best_76 (lv_at hl 1 rfl) ?_
                  refine lv_istore_n (lv' := [(2, .int (F_X7_unclearOf3 R C fi br K 0 0 (F_X7_with di (nI i0) 1))), (1, .int (nI i0)), (4, .int (F_X7_unclearOf3 R C fi br K 0 0 (F_X7_with di (nI i0) 1))), (0, .ref hM), (3, .int (nI i0))]) hx hb dX7_best_78 rfl hl (by decide) rfl (fun ls hl => ?_)
                  refine lv_iinc (v := nI (i0 + 1)) (lv' := [(3, .int (nI (i0 + 1))), (2, .int (F_X7_unclearOf3 R C fi br K 0 0 (F_X7_with di (nI i0) 1))), (1, .int (nI i0)), (4, .int (F_X7_unclearOf3 R C fi br K 0 0 (F_X7_with di (nI i0) 1))), (0, .ref hM)]) hx hb dX7_best_79 hl (k := 4) rfl (nI_1 _) (by decide) rfl (fun ls hl => ?_)
                  refine lv_goto (tgt := 6) hx hb dX7_best_82 (by decide) ?_
                  have hE : S_X7_best_6 R C fi di br K i0 a0 = (nI i0, F_X7_unclearOf3 R C fi br K 0 0 (F_X7_with di (nI i0) 1)) := (by unfold S_X7_best_6; rw [if_neg c_4, if_pos c_6, if_neg c_7, if_pos c_8])
                  have hl : lv_has ls 5 [(0, .ref hM), (1, .int (nI i0)), (2, .int (F_X7_unclearOf3 R C fi br K 0 0 (F_X7_with di (nI i0) 1))), (3, .int (nI (i0 + 1)))] := lv_sub hl [4, 2, 1, 0] rfl
                  have hP := hP.sub (ws' := [(hM, .inr (14, [.int th, .int (nI R), .int (nI C), .int fi, .int di, .int he, .int br, .int pa, .int gu, .int (nI sc), .int cl, .int se, .int lo, .int lu, .int rf, .ref kl, .ref kc, .ref hB])), (kl, .inr (6, [.int km, .ref kd, .int (nI K)]))]) [0, 1] rfl
                  have hD := hD.sub (ws' := [(hM, .inr (14, [.int th, .int (nI R), .int (nI C), .int fi, .int di, .int he, .int br, .int pa, .int gu, .int (nI sc), .int cl, .int se, .int lo, .int lu, .int rf, .ref kl, .ref kc, .ref hB])), (kl, .inr (6, [.int km, .ref kd, .int (nI K)]))]) [0, 1] (by decide) rfl
                  exact ih0 (i0 + 1) (by omega) (S_X7_best_6 R C fi di br K i0 a0) H locs ls (by (try rw [hE]); exact hP) (by (try rw [hE]); exact hD) hS (by (try rw [hE]); exact hl) kon
                · refine lv_goto (tgt := 79) hx hb dX7_best_71 (by decide) ?_
                  refine lv_iinc (v := nI (i0 + 1)) (lv' := [(3, .int (nI (i0 + 1))), (4, .int (F_X7_unclearOf3 R C fi br K 0 0 (F_X7_with di (nI i0) 1))), (0, .ref hM), (1, .int a0.1), (2, .int a0.2)]) hx hb dX7_best_79 hl (k := 4) rfl (nI_1 _) (by decide) rfl (fun ls hl => ?_)
                  refine lv_goto (tgt := 6) hx hb dX7_best_82 (by decide) ?_
                  have hE : S_X7_best_6 R C fi di br K i0 a0 = (a0.1, a0.2) := (by unfold S_X7_best_6; rw [if_neg c_4, if_pos c_6, if_neg c_7, if_neg c_8])
                  have hl : lv_has ls 5 [(0, .ref hM), (1, .int a0.1), (2, .int a0.2), (3, .int (nI (i0 + 1)))] := lv_sub hl [2, 3, 4, 0] rfl
                  have hP := hP.sub (ws' := [(hM, .inr (14, [.int th, .int (nI R), .int (nI C), .int fi, .int di, .int he, .int br, .int pa, .int gu, .int (nI sc), .int cl, .int se, .int lo, .int lu, .int rf, .ref kl, .ref kc, .ref hB])), (kl, .inr (6, [.int km, .ref kd, .int (nI K)]))]) [0, 1] rfl
                  have hD := hD.sub (ws' := [(hM, .inr (14, [.int th, .int (nI R), .int (nI C), .int fi, .int di, .int he, .int br, .int pa, .int gu, .int (nI sc), .int cl, .int se, .int lo, .int lu, .int rf, .ref kl, .ref kc, .ref hB])), (kl, .inr (6, [.int km, .ref kd, .int (nI K)]))]) [0, 1] (by decide) rfl
                  exact ih0 (i0 + 1) (by omega) (S_X7_best_6 R C fi di br K i0 a0) H locs ls (by (try rw [hE]); exact hP) (by (try rw [hE]); exact hD) hS (by (try rw [hE]); exact hl) kon
            · refine lv_goto (tgt := 79) hx hb dX7_best_39 (by decide) ?_
              refine lv_iinc (v := nI (i0 + 1)) (lv' := [(3, .int (nI (i0 + 1))), (0, .ref hM), (1, .int a0.1), (2, .int a0.2)]) hx hb dX7_best_79 hl (k := 3) rfl (nI_1 _) (by decide) rfl (fun ls hl => ?_)
              refine lv_goto (tgt := 6) hx hb dX7_best_82 (by decide) ?_
              have hE : S_X7_best_6 R C fi di br K i0 a0 = (a0.1, a0.2) := (by unfold S_X7_best_6; rw [if_neg c_4, if_neg c_6])
              have hl : lv_has ls 5 [(0, .ref hM), (1, .int a0.1), (2, .int a0.2), (3, .int (nI (i0 + 1)))] := lv_sub hl [1, 2, 3, 0] rfl
              have hP := hP.sub (ws' := [(hM, .inr (14, [.int th, .int (nI R), .int (nI C), .int fi, .int di, .int he, .int br, .int pa, .int gu, .int (nI sc), .int cl, .int se, .int lo, .int lu, .int rf, .ref kl, .ref kc, .ref hB])), (kl, .inr (6, [.int km, .ref kd, .int (nI K)]))]) [0, 1] rfl
              have hD := hD.sub (ws' := [(hM, .inr (14, [.int th, .int (nI R), .int (nI C), .int fi, .int di, .int he, .int br, .int pa, .int gu, .int (nI sc), .int cl, .int se, .int lo, .int lu, .int rf, .ref kl, .ref kc, .ref hB])), (kl, .inr (6, [.int km, .ref kd, .int (nI K)]))]) [0, 1] (by decide) rfl
              exact ih0 (i0 + 1) (by omega) (S_X7_best_6 R C fi di br K i0 a0) H locs ls (by (try rw [hE]); exact hP) (by (try rw [hE]); exact hD) hS (by (try rw [hE]); exact hl) kon
    have hl : lv_has ls 5 [(0, .ref hM), (1, .int (-1)), (2, .int 0), (3, .int (nI 0))] := lv_sub hl [3, 2, 1, 0] rfl
    refine lp_6 K 0 (by omega) ((-1), 0) H locs ls hP hD hS hl ?_
    clear lp_6 hP hD hS hl
    intro H locs ls hP hD hS hl
    refine lv_iload_n hx hb dX7_best_85 rfl (lv_at hl 1 rfl) ?_
    subst hQe
    exact W.iret (v := (itr (fun i a => S_X7_best_6 R C fi di br K i a) K 0 ((-1), 0)).1) hx hb hr (fun t ht hW => ⟨⟨(itr (fun i a => S_X7_best_6 R C fi di br K i a) K 0 ((-1), 0)).1, (), rfl, (by rfl), trivial⟩, hS.F ht⟩) hS.2.2 dX7_best_86
  rw [hHe, hLe] at hgoal
  exact hgoal
