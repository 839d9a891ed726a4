theorem oarr_recv {s : State} {H : Heap} {D : va_G} {cl : List vw_C} {ws : va_W} {q0 a n : Nat} {g : Nat → Option Nat} (hK : va_K D cl (lwTY2 D) s) (hP : va_P D cl ws H) (he : ws[q0]? = some (a, .inl (D.1 102, n, .inr (.inr (.inr (.inr g)))))) : elm "[Ljava/lang/Object;" a s H :=
  ⟨_, hP q0 _ he, rfl, va_nmO (hK.2 2 _ rfl).2 rfl⟩
section
variable {p : Program} {l : Launch} {e : Env} {R : Room} {s : State} {m : MethodId} {args : Array Value} {below : List Frame} {meth : Method} {c : Code} {H : Heap} {locs : List Loc} {cells slots : Nat} {Q : State → Prop}
variable {cc : ByteArray} {pc : Nat} {ls : Array Slot} {rest : List Value} {D : va_G} {cl : List vw_C} {A : Nat → Prop} {ws : va_W} {H0 : Heap}
theorem va_newO (hexec : p.tables.exec = Jvm.exec) (hb : c.code = cc) {own : String} {index : Nat} (hown : s.vm.findClass own = some m.cls) (hclink : (Cond.classLink own index "java/lang/Object").before args s = true) (hover : va_AO "java/lang/Object" s) (hK : va_K D cl (lwTY2 D) s) (hP : va_P D cl ws H) (hD : va_D A ws) (hS : va_S A H0 H locs) (hA : ∀ q, H0.size ≤ q → A q)
    {n : Int32} {N' : Nat} (hn : ¬ n < 0) (hN : n.toNatClampNeg = N') (hbytes : N' * 4 ≤ 536870912) (hcells : cells + 1 ≤ R.cells) (hslots : slots + N' ≤ R.slots) (hdg : decode cc pc = .ok (.anewarray index, 3))
    (kk : ∀ (q : Nat) (H1 : Heap), va_P D cl (ws ++ [(q, .inl (D.1 102, N', .inr (.inr (.inr (.inr (fun _ => none))))))]) H1 → va_D A (ws ++ [(q, .inl (D.1 102, N', .inr (.inr (.inr (.inr (fun _ => none))))))]) → va_S A H0 H1 locs →
      W p l e R s m args below meth c H1 locs (cells + 1) (slots + N') Q (F0 m (pc + 3) ls (.ref q :: rest))) : W p l e R s m args below meth c H locs cells slots Q (F0 m pc ls (.int n :: rest)) := by
  refine va_newq hexec hb hown hclink hover hK hP hD hS hA hn hN hbytes hcells hslots hdg (fun q cA H1 hK2 hP hD hS => ?_)
  have h1 := va_nmO (hK2.2 3 _ rfl).2 rfl
  have h2 := va_nmO (hK.2 2 _ rfl).2 rfl
  have hc : cA = D.1 102 := Option.some.inj (h1.symm.trans h2)
  subst hc
  exact kk q H1 hP hD hS
end

def F_J3_checkIndex_8e157m (j : Nat) : Int32 := nI j
set_option maxHeartbeats 4000000 in
set_option maxRecDepth 100000 in
theorem c_J3_checkIndex_8e157m (l : Launch) (D : va_G) (j : Nat) (n : Nat) (x0 : Int32) (x1 : Int32) (sz : Nat) (hj : j < n) (hn : n ≤ 100000) (hx0 : x0 = nI j) (hx1 : x1 = nI n) : Met l yJ3_checkIndex_8e157 (Cond.code yJ3_checkIndex_8e157 cJ3_checkIndex_8e157 3 (some .int) :: lwAll) ({ frames := 0, cells := 0, slots := 0, locals := 0 } : Room) (va_Pc [.int x0, .int x1, .null] (cPre D (lwTY D) [] sz)) (va_Qi (fun (r : Int32) (_ : Unit) => r = (F_J3_checkIndex_8e157m j)) (fun _ _ => True) (fun q : Nat => sz ≤ q)) 0 0 (fun q : Nat => sz ≤ q) := by
  subst hx0
  subst hx1
  refine Met.ofW (cc := cJ3_checkIndex_8e157) (maxL := 3) (ret := (some .int)) (by decide) rfl ?_
  intro p e s m args below meth c s₁ B hml hv
  obtain ⟨rfl, hsz, hP, hK, hD0, hN, hZ⟩ := hv
  have hx := B.exec
  have hb := B.bytes
  have hr := B.returns
  have hts : ∀ wd ∈ lwAll, wd.before ([.int (nI j), .int (nI n), .null] : List Value).toArray s = true := fun wd h => atoms_spec (ws := (Cond.code yJ3_checkIndex_8e157 cJ3_checkIndex_8e157 3 (some .int) :: lwAll)) B.pre wd (List.mem_cons_of_mem _ h)
  have hown : s.vm.findClass RJ3 = some m.cls := findClass_of_methodNamed B.named
  have hlocks := B.notSynchronized
  subst hsz
  have hD := hD0.self (sz := s.heap.size)
  have hl := lv_entry ([.int (nI j), .int (nI n), .null]) (n := 3) (Nat.le_of_ble_eq_true rfl)
  rw [lg_entry_eq]
  generalize (lg_sl ([.int (nI j), .int (nI n), .null]) ++ List.replicate (3 - (lg_sl ([.int (nI j), .int (nI n), .null])).length) Slot.unset).toArray = ls at hl ⊢
  have hl : lv_has ls 3 [(0, .int (nI j)), (1, .int (nI n)), (2, .null)] := hl
  have hS : va_S (fun q : Nat => s.heap.size ≤ q) s.heap s.heap [] := va_S.rf
  generalize hQe : MQ below (va_Qi (fun (r : Int32) (_ : Unit) => r = (F_J3_checkIndex_8e157m j)) (fun _ _ => True) (fun q : Nat => s.heap.size ≤ q)) ([.int (nI j), .int (nI n), .null] : List Value).toArray s 0 0 (fun q : Nat => s.heap.size ≤ q) = Q
  have hP : va_P D vwCl [] s.heap := hP
  obtain ⟨A, hAe⟩ : ∃ A, A = va_A [] s.heap.size := ⟨_, rfl⟩
  rw [← hAe] at hD hZ
  have hA : ∀ q : Nat, s.heap.size ≤ q → A q := fun q h => by rw [hAe]; exact Or.inr h
  obtain ⟨H, hHe⟩ : ∃ H, H = s.heap := ⟨_, rfl⟩
  obtain ⟨locs, hLe⟩ : ∃ L : List Loc, L = [] := ⟨_, rfl⟩
  have hP : va_P D vwCl [] H := by rw [hHe]; exact hP
  have hS : va_S (fun q : Nat => s.heap.size ≤ q) s.heap H locs := by rw [hHe, hLe]; exact hS
  have hgoal : W p l e ({ frames := 0, cells := 0, slots := 0, locals := 0 } : Room) s m ([.int (nI j), .int (nI n), .null] : List Value).toArray below meth c H locs 0 0 Q (F0 m 0 ls []) := by
    clear hHe hLe
    refine lv_iload_n hx hb dJ3_checkIndex_8e157_0 rfl (lv_at hl 0 rfl) ?_
    refine lv_if_lt (tgt := 9) hx hb dJ3_checkIndex_8e157_1 (by decide) (fun c_1 => ?_) (fun c_1 => ?_)
    · exact absurd c_1 (nI_pos (by omega))
    · refine lv_iload_n hx hb dJ3_checkIndex_8e157_4 rfl (lv_at hl 0 rfl) ?_
      refine lv_iload_n hx hb dJ3_checkIndex_8e157_5 rfl (lv_at hl 1 rfl) ?_
      refine lv_icmp_lt (tgt := 16) hx hb dJ3_checkIndex_8e157_6 (by decide) (fun c_2 => ?_) (fun c_2 => ?_)
      · refine lv_iload_n hx hb dJ3_checkIndex_8e157_16 rfl (lv_at hl 0 rfl) ?_
        subst hQe
        exact W.iret (v := nI j) hx hb hr (fun t ht hW => ⟨⟨nI j, (), rfl, (by rfl), trivial⟩, hS.F ht⟩) hS.2.2 dJ3_checkIndex_8e157_17
      · exact absurd (nI_lt (by omega) (by omega)) c_2
  rw [hHe, hLe] at hgoal
  exact hgoal

def F_J15_checkIndex_7cf53 (j : Nat) : Int32 := F_J3_checkIndex_8e157m j
set_option maxHeartbeats 4000000 in
set_option maxRecDepth 100000 in
theorem c_J15_checkIndex_7cf53 (l : Launch) (D : va_G) (j : Nat) (n : Nat) (x0 : Int32) (x1 : Int32) (sz : Nat) (hj : j < n) (hn : n ≤ 100000) (hx0 : x0 = nI j) (hx1 : x1 = nI n) : Met l yJ15_checkIndex_7cf53 (Cond.code yJ15_checkIndex_7cf53 cJ15_checkIndex_7cf53 2 (some .int) :: lwAll) ({ frames := 1, cells := 0, slots := 0, locals := 22 } : Room) (va_Pc [.int x0, .int x1] (cPre D (lwTY D) [] sz)) (va_Qi (fun (r : Int32) (_ : Unit) => r = (F_J15_checkIndex_7cf53 j)) (fun _ _ => True) (fun q : Nat => sz ≤ q)) 0 0 (fun q : Nat => sz ≤ q) := by
  subst hx0
  subst hx1
  refine Met.ofW (cc := cJ15_checkIndex_7cf53) (maxL := 2) (ret := (some .int)) (by decide) rfl ?_
  intro p e s m args below meth c s₁ B hml hv
  obtain ⟨rfl, hsz, hP, hK, hD0, hN, hZ⟩ := hv
  have hx := B.exec
  have hb := B.bytes
  have hr := B.returns
  have hts : ∀ wd ∈ lwAll, wd.before ([.int (nI j), .int (nI n)] : List Value).toArray s = true := fun wd h => atoms_spec (ws := (Cond.code yJ15_checkIndex_7cf53 cJ15_checkIndex_7cf53 2 (some .int) :: lwAll)) B.pre wd (List.mem_cons_of_mem _ h)
  have hown : s.vm.findClass RJ15 = some m.cls := findClass_of_methodNamed B.named
  have hlocks := B.notSynchronized
  subst hsz
  have hD := hD0.self (sz := s.heap.size)
  have hl := lv_entry ([.int (nI j), .int (nI n)]) (n := 2) (Nat.le_of_ble_eq_true rfl)
  rw [lg_entry_eq]
  generalize (lg_sl ([.int (nI j), .int (nI n)]) ++ List.replicate (2 - (lg_sl ([.int (nI j), .int (nI n)])).length) Slot.unset).toArray = ls at hl ⊢
  have hl : lv_has ls 2 [(0, .int (nI j)), (1, .int (nI n))] := hl
  have hS : va_S (fun q : Nat => s.heap.size ≤ q) s.heap s.heap [] := va_S.rf
  generalize hQe : MQ below (va_Qi (fun (r : Int32) (_ : Unit) => r = (F_J15_checkIndex_7cf53 j)) (fun _ _ => True) (fun q : Nat => s.heap.size ≤ q)) ([.int (nI j), .int (nI n)] : List Value).toArray s 0 0 (fun q : Nat => s.heap.size ≤ q) = Q
  have hP : va_P D vwCl [] s.heap := hP
  obtain ⟨A, hAe⟩ : ∃ A, A = va_A [] s.heap.size := ⟨_, rfl⟩
  rw [← hAe] at hD hZ
  have hA : ∀ q : Nat, s.heap.size ≤ q → A q := fun q h => by rw [hAe]; exact Or.inr h
  obtain ⟨H, hHe⟩ : ∃ H, H = s.heap := ⟨_, rfl⟩
  obtain ⟨locs, hLe⟩ : ∃ L : List Loc, L = [] := ⟨_, rfl⟩
  have hP : va_P D vwCl [] H := by rw [hHe]; exact hP
  have hS : va_S (fun q : Nat => s.heap.size ≤ q) s.heap H locs := by rw [hHe, hLe]; exact hS
  have hgoal : W p l e ({ frames := 1, cells := 0, slots := 0, locals := 22 } : Room) s m ([.int (nI j), .int (nI n)] : List Value).toArray below meth c H locs 0 0 Q (F0 m 0 ls []) := by
    clear hHe hLe
    refine lv_iload_n hx hb dJ15_checkIndex_7cf53_0 rfl (lv_at hl 0 rfl) ?_
    refine lv_iload_n hx hb dJ15_checkIndex_7cf53_1 rfl (lv_at hl 1 rfl) ?_
    refine lv_null hx hb dJ15_checkIndex_7cf53_2 ?_
    have hPc := hP.sub (ws' := []) [] rfl
    have hDc := hD.sub (ws' := []) [] (by decide) rfl
    have hFc := va_free (wc := []) hD (va_S_up hS hA) hA [] rfl
    refine va_calli (va_runS (As := [.int (nI j), .int (nI n), .null]) (rest := []) ⟨hx, hb, hml, hown, hts⟩ (c_J3_checkIndex_8e157m l D j n (nI j) (nI n) H.size (show j < n from (by omega)) (show n ≤ 100000 from (by omega)) (show (nI j) = nI j from rfl) (show (nI n) = nI n from rfl)) ⟨callB_of 3 hts (gi_sub q_823) rfl rfl rfl (hts _ q_98) (hts _ q_1356) (by decide +kernel) ⟨Nat.le_of_ble_eq_true rfl, Nat.le_of_ble_eq_true rfl⟩, (hts _ q_822)⟩ ⟨cPre_blind, cPre_mk hPc hK hDc hN (lwZ_for hZ (va_S_up hS hA) hFc)⟩ rfl rfl hl.1 rfl (lv_room (Nat.le_of_ble_eq_true rfl)) dJ15_checkIndex_7cf53_3 ⟨(Nat.le_of_ble_eq_true rfl), (Nat.le_of_ble_eq_true rfl)⟩) hS (fun q h1 h2 => absurd h2 (Nat.not_le.mpr h1)) (fun q h => Nat.le_trans hS.1 h) (fun r_3 u t H1 locs ht hvm hw hBk hz1 hk1 hS => ?_)
    have hP := va_P_ro hP hk1
    subst hw
    clear hBk hvm ht u hz1 hk1
    clear hPc hDc hFc; clear t
    generalize H1 = H at hP hS ⊢
    subst hQe
    exact W.iret (v := F_J3_checkIndex_8e157m j) hx hb hr (fun t ht hW => ⟨⟨F_J3_checkIndex_8e157m j, (), rfl, (by rfl), trivial⟩, hS.F ht⟩) hS.2.2 dJ15_checkIndex_7cf53_6
  rw [hHe, hLe] at hgoal
  exact hgoal


set_option maxHeartbeats 4000000 in
set_option maxRecDepth 100000 in
theorem c_Jx4a65c_elementData_915e3 (l : Launch) (D : va_G) (kl : Nat) (km : Int32) (kd : Nat) (n : Nat) (cap : Nat) (g : Nat → Option Nat) (j : Nat) (y : Nat) (x1 : Int32) (sz : Nat) (hj : j < n) (hn : n ≤ cap) (hcb : cap ≤ 100000) (hy : g j = some y) (hx1 : x1 = nI j) : Met l yJx4a65c_elementData_915e3 (Cond.code yJx4a65c_elementData_915e3 cJx4a65c_elementData_915e3 2 (some (.object "java/lang/Object")) :: lwAll) ({ frames := 0, cells := 0, slots := 0, locals := 0 } : Room) (va_Pc [.ref kl, .int x1] (rPre D (lwTY2 D) [(kl, .inr (6, [.int km, .ref kd, .int (nI n)])), (kd, .inl ((D.1 102), cap, .inr (.inr (.inr (.inr g)))))] sz)) (va_Qr (fun (_ : Unit) => True) (fun (_ : Unit) (ra : Nat) (_ : State) => ra = y) (fun q : Nat => sz ≤ q)) 0 0 (fun q : Nat => sz ≤ q) := by
  subst hx1
  refine Met.ofW (cc := cJx4a65c_elementData_915e3) (maxL := 2) (ret := (some (.object "java/lang/Object"))) (by decide) rfl ?_
  intro p e s m args below meth c s₁ B hml hv
  obtain ⟨rfl, ⟨hsz, hP, hK, hD0, hN, hZ⟩, hI⟩ := hv
  have hx := B.exec
  have hb := B.bytes
  have hr := B.returns
  have hts : ∀ wd ∈ lwAll, wd.before ([.ref kl, .int (nI j)] : List Value).toArray s = true := fun wd h => atoms_spec (ws := (Cond.code yJx4a65c_elementData_915e3 cJx4a65c_elementData_915e3 2 (some (.object "java/lang/Object")) :: lwAll)) B.pre wd (List.mem_cons_of_mem _ h)
  have hown : s.vm.findClass RJx4a65c = some m.cls := findClass_of_methodNamed B.named
  have hlocks := B.notSynchronized
  subst hsz
  have hD := hD0.self (sz := s.heap.size)
  have hl := lv_entry ([.ref kl, .int (nI j)]) (n := 2) (Nat.le_of_ble_eq_true rfl)
  rw [lg_entry_eq]
  generalize (lg_sl ([.ref kl, .int (nI j)]) ++ List.replicate (2 - (lg_sl ([.ref kl, .int (nI j)])).length) Slot.unset).toArray = ls at hl ⊢
  have hl : lv_has ls 2 [(0, .ref kl), (1, .int (nI j))] := hl
  have hS : va_S (fun q : Nat => s.heap.size ≤ q) s.heap s.heap [] := va_S.rf
  generalize hQe : MQ below (va_Qr (fun (_ : Unit) => True) (fun (_ : Unit) (ra : Nat) (_ : State) => ra = y) (fun q : Nat => s.heap.size ≤ q)) ([.ref kl, .int (nI j)] : List Value).toArray s 0 0 (fun q : Nat => s.heap.size ≤ q) = Q
  have hP : va_P D vwCl [(kl, .inr (6, [.int km, .ref kd, .int (nI n)])), (kd, .inl ((D.1 102), cap, .inr (.inr (.inr (.inr g)))))] s.heap := hP
  obtain ⟨A, hAe⟩ : ∃ A, A = va_A [(kl, .inr (6, [.int km, .ref kd, .int (nI n)])), (kd, .inl ((D.1 102), cap, .inr (.inr (.inr (.inr g)))))] s.heap.size := ⟨_, rfl⟩
  rw [← hAe] at hD hZ hI
  have hA : ∀ q : Nat, s.heap.size ≤ q → A q := fun q h => by rw [hAe]; exact Or.inr h
  obtain ⟨H, hHe⟩ : ∃ H, H = s.heap := ⟨_, rfl⟩
  obtain ⟨locs, hLe⟩ : ∃ L : List Loc, L = [] := ⟨_, rfl⟩
  have hP : va_P D vwCl [(kl, .inr (6, [.int km, .ref kd, .int (nI n)])), (kd, .inl ((D.1 102), cap, .inr (.inr (.inr (.inr g)))))] H := by rw [hHe]; exact hP
  have hS : va_S (fun q : Nat => s.heap.size ≤ q) s.heap H locs := by rw [hHe, hLe]; exact hS
  have hgoal : W p l e ({ frames := 0, cells := 0, slots := 0, locals := 0 } : Room) s m ([.ref kl, .int (nI j)] : List Value).toArray below meth c H locs 0 0 Q (F0 m 0 ls []) := by
    clear hHe hLe
    refine lv_aload_n hx hb dJx4a65c_elementData_915e3_0 rfl (lv_at hl 0 rfl) ?_
    refine va_get (D := D) (ci := 6) (v := .ref kd) (C := RJx4a65c) (T := TJx4a65c) (N := 3) hx hb hts in_Jx4a65c hown hK hP 0 rfl rfl 1 (by decide) (hts _ q_1151) (fun _ h9 => h9) rfl dJx4a65c_elementData_915e3_1 ?_
    refine lv_iload_n hx hb dJx4a65c_elementData_915e3_4 rfl (lv_at hl 1 rfl) ?_
    refine va_aldq hx hb hK hP 1 2 rfl rfl (vp_in_nI (by omega) (by omega)) dJx4a65c_elementData_915e3_5 ?_
    rw [nI_clamp (by omega)]
    rw [show g j = some y from hy]
    refine W.eq (g2 := F0 m 6 ls [.ref y]) rfl ?_
    subst hQe
    exact W.aret (v := .ref y) hx hb hr (by first | exact Or.inl ⟨_, rfl⟩ | exact Or.inr ⟨_, rfl⟩) (Or.inr ⟨_, rfl⟩) (fun t ht hW => ⟨⟨(), y, rfl, trivial, rfl⟩, hS.F ht⟩) hS.2.2 dJx4a65c_elementData_915e3_6
  rw [hHe, hLe] at hgoal
  exact hgoal


set_option maxHeartbeats 4000000 in
set_option maxRecDepth 100000 in
theorem c_Jx4a65c_get_915e3 (l : Launch) (D : va_G) (kl : Nat) (km : Int32) (kd : Nat) (n : Nat) (cap : Nat) (g : Nat → Option Nat) (j : Nat) (y : Nat) (x1 : Int32) (sz : Nat) (hj : j < n) (hn : n ≤ cap) (hcb : cap ≤ 100000) (hy : g j = some y) (hx1 : x1 = nI j) : Met l yJx4a65c_get_915e3 (Cond.code yJx4a65c_get_915e3 cJx4a65c_get_915e3 2 (some (.object "java/lang/Object")) :: lwAll) ({ frames := 2, cells := 0, slots := 0, locals := 43 } : Room) (va_Pc [.ref kl, .int x1] (rPre D (lwTY2 D) [(kl, .inr (6, [.int km, .ref kd, .int (nI n)])), (kd, .inl ((D.1 102), cap, .inr (.inr (.inr (.inr g)))))] sz)) (va_Qr (fun (_ : Unit) => True) (fun (_ : Unit) (ra : Nat) (_ : State) => ra = y) (fun q : Nat => sz ≤ q)) 0 0 (fun q : Nat => sz ≤ q) := by
  subst hx1
  refine Met.ofW (cc := cJx4a65c_get_915e3) (maxL := 2) (ret := (some (.object "java/lang/Object"))) (by decide) rfl ?_
  intro p e s m args below meth c s₁ B hml hv
  obtain ⟨rfl, ⟨hsz, hP, hK, hD0, hN, hZ⟩, hI⟩ := hv
  have hx := B.exec
  have hb := B.bytes
  have hr := B.returns
  have hts : ∀ wd ∈ lwAll, wd.before ([.ref kl, .int (nI j)] : List Value).toArray s = true := fun wd h => atoms_spec (ws := (Cond.code yJx4a65c_get_915e3 cJx4a65c_get_915e3 2 (some (.object "java/lang/Object")) :: lwAll)) B.pre wd (List.mem_cons_of_mem _ h)
  have hown : s.vm.findClass RJx4a65c = some m.cls := findClass_of_methodNamed B.named
  have hlocks := B.notSynchronized
  subst hsz
  have hD := hD0.self (sz := s.heap.size)
  have hl := lv_entry ([.ref kl, .int (nI j)]) (n := 2) (Nat.le_of_ble_eq_true rfl)
  rw [lg_entry_eq]
  generalize (lg_sl ([.ref kl, .int (nI j)]) ++ List.replicate (2 - (lg_sl ([.ref kl, .int (nI j)])).length) Slot.unset).toArray = ls at hl ⊢
  have hl : lv_has ls 2 [(0, .ref kl), (1, .int (nI j))] := hl
  have hS : va_S (fun q : Nat => s.heap.size ≤ q) s.heap s.heap [] := va_S.rf
  generalize hQe : MQ below (va_Qr (fun (_ : Unit) => True) (fun (_ : Unit) (ra : Nat) (_ : State) => ra = y) (fun q : Nat => s.heap.size ≤ q)) ([.ref kl, .int (nI j)] : List Value).toArray s 0 0 (fun q : Nat => s.heap.size ≤ q) = Q
  have hP : va_P D vwCl [(kl, .inr (6, [.int km, .ref kd, .int (nI n)])), (kd, .inl ((D.1 102), cap, .inr (.inr (.inr (.inr g)))))] s.heap := hP
  obtain ⟨A, hAe⟩ : ∃ A, A = va_A [(kl, .inr (6, [.int km, .ref kd, .int (nI n)])), (kd, .inl ((D.1 102), cap, .inr (.inr (.inr (.inr g)))))] s.heap.size := ⟨_, rfl⟩
  rw [← hAe] at hD hZ hI
  have hA : ∀ q : Nat, s.heap.size ≤ q → A q := fun q h => by rw [hAe]; exact Or.inr h
  obtain ⟨H, hHe⟩ : ∃ H, H = s.heap := ⟨_, rfl⟩
  obtain ⟨locs, hLe⟩ : ∃ L : List Loc, L = [] := ⟨_, rfl⟩
  have hP : va_P D vwCl [(kl, .inr (6, [.int km, .ref kd, .int (nI n)])), (kd, .inl ((D.1 102), cap, .inr (.inr (.inr (.inr g)))))] H := by rw [hHe]; exact hP
  have hS : va_S (fun q : Nat => s.heap.size ≤ q) s.heap H locs := by rw [hHe, hLe]; exact hS
  have hgoal : W p l e ({ frames := 2, cells := 0, slots := 0, locals := 43 } : Room) s m ([.ref kl, .int (nI j)] : List Value).toArray below meth c H locs 0 0 Q (F0 m 0 ls []) := by
    clear hHe hLe
    refine lv_iload_n hx hb dJx4a65c_get_915e3_0 rfl (lv_at hl 1 rfl) ?_
    refine lv_aload_n hx hb dJx4a65c_get_915e3_1 rfl (lv_at hl 0 rfl) ?_
    refine va_get (D := D) (ci := 6) (v := .int (nI n)) (C := RJx4a65c) (T := TJx4a65c) (N := 3) hx hb hts in_Jx4a65c hown hK hP 0 rfl rfl 2 (by decide) (hts _ q_1154) (fun _ h9 => h9) rfl dJx4a65c_get_915e3_2 ?_
    have hPc := hP.sub (ws' := []) [] rfl
    have hDc := hD.sub (ws' := []) [] (by decide) rfl
    have hFc := va_free (wc := []) hD (va_S_up hS hA) hA [] rfl
    refine va_calli (va_runS (As := [.int (nI j), .int (nI n)]) (rest := []) ⟨hx, hb, hml, hown, hts⟩ (c_J15_checkIndex_7cf53 l D j n (nI j) (nI n) H.size (show j < n from (by omega)) (show n ≤ 100000 from (by omega)) (show (nI j) = nI j from rfl) (show (nI n) = nI n from rfl)) ⟨callB_of 2 hts (gi_sub q_1355) rfl rfl rfl (hts _ q_110) (hts _ q_1353) (by decide +kernel) ⟨Nat.le_of_ble_eq_true rfl, Nat.le_of_ble_eq_true rfl⟩, (hts _ q_1354)⟩ ⟨cPre_blind, cPre_mk hPc (hK.sub [0, 1] rfl) hDc hN (lwZ_for hZ (va_S_up hS hA) hFc)⟩ rfl rfl hl.1 rfl (lv_room (Nat.le_of_ble_eq_true rfl)) dJx4a65c_get_915e3_5 ⟨(Nat.le_of_ble_eq_true rfl), (Nat.le_of_ble_eq_true rfl)⟩) hS (fun q h1 h2 => absurd h2 (Nat.not_le.mpr h1)) (fun q h => Nat.le_trans hS.1 h) (fun r_5 u t H1 locs ht hvm hw hBk hz1 hk1 hS => ?_)
    have hP := va_P_ro hP hk1
    subst hw
    clear hBk hvm ht u hz1 hk1
    clear hPc hDc hFc; clear t
    generalize H1 = H at hP hS ⊢
    refine lv_pop hx hb dJx4a65c_get_915e3_8 rfl ?_
    refine lv_aload_n hx hb dJx4a65c_get_915e3_9 rfl (lv_at hl 0 rfl) ?_
    refine lv_iload_n hx hb dJx4a65c_get_915e3_10 rfl (lv_at hl 1 rfl) ?_
    have hPc := hP.sub (ws' := [(kl, .inr (6, [.int km, .ref kd, .int (nI n)])), (kd, .inl ((D.1 102), cap, .inr (.inr (.inr (.inr g)))))]) [0, 1] rfl
    have hDc := hD.sub (ws' := [(kl, .inr (6, [.int km, .ref kd, .int (nI n)])), (kd, .inl ((D.1 102), cap, .inr (.inr (.inr (.inr g)))))]) [0, 1] (by decide) rfl
    have hFc := va_free (wc := [(kl, .inr (6, [.int km, .ref kd, .int (nI n)])), (kd, .inl ((D.1 102), cap, .inr (.inr (.inr (.inr g)))))]) hD (va_S_up hS hA) hA [0, 1] rfl
    refine va_callr (va_runV (As := [.int (nI j)]) (rest := []) ⟨hx, hb, hml, hown, hts⟩ (c_Jx4a65c_elementData_915e3 l D kl km kd n cap g j y (nI j) H.size (show j < n from (by omega)) (show n ≤ cap from (by omega)) (show cap ≤ 100000 from (by omega)) (show g j = some y from (by assumption)) (show (nI j) = nI j from rfl)) (cwV 1 hts (gi_V q_1357 q_1358 q_1359 q_107 q_1360) rfl rfl rfl (by decide +kernel) ⟨Nat.le_of_ble_eq_true rfl, Nat.le_of_ble_eq_true rfl⟩) ⟨rPre_blind, va_recv hK hP (ci := 6) (q0 := 0) rfl rfl, rPre_mk (lwI_for hI (va_S_up hS hA) hFc) hPc hK hDc hN (lwZ_for hZ (va_S_up hS hA) hFc)⟩ rfl rfl hl.1 rfl (lv_room (Nat.le_of_ble_eq_true rfl)) dJx4a65c_get_915e3_11 ⟨(Nat.le_of_ble_eq_true rfl), (Nat.le_of_ble_eq_true rfl)⟩) hS (fun q h1 h2 => absurd h2 (Nat.not_le.mpr h1)) (fun q h => Nat.le_trans hS.1 h) (fun u ra_11 t H1 locs ht hvm hw hBk hz1 hk1 hS => ?_)
    have hP := va_P_ro hP hk1
    have hBk2 := hBk.symm
    subst hBk2
    clear hw hBk hvm ht u hz1 hk1
    clear hPc hDc hFc; clear t
    generalize H1 = H at hP hS ⊢
    have hP : va_P D vwCl [(kl, .inr (6, [.int km, .ref kd, .int (nI n)])), (kd, .inl ((D.1 102), cap, .inr (.inr (.inr (.inr g)))))] H := hP
    have hD : va_D A [(kl, .inr (6, [.int km, .ref kd, .int (nI n)])), (kd, .inl ((D.1 102), cap, .inr (.inr (.inr (.inr g)))))] := hD
    subst hQe
    exact W.aret (v := .ref y) hx hb hr (by first | exact Or.inl ⟨_, rfl⟩ | exact Or.inr ⟨_, rfl⟩) (Or.inr ⟨_, rfl⟩) (fun t ht hW => ⟨⟨(), y, rfl, trivial, rfl⟩, hS.F ht⟩) hS.2.2 dJx4a65c_get_915e3_14
  rw [hHe, hLe] at hgoal
  exact hgoal


set_option maxHeartbeats 4000000 in
set_option maxRecDepth 100000 in
theorem c_J7_copyOf_6403c (l : Launch) (D : va_G) (kd : Nat) (n : Nat) (g : Nat → Option Nat) (CC : String) (x1 : Int32) (sz : Nat) (h10 : 10 ≤ n) (hnb : n ≤ 40000) (hx1 : x1 = nI (n + n / 2)) : Met l yJ7_copyOf_6403c (Cond.code yJ7_copyOf_6403c cJ7_copyOf_6403c 4 (some (.array (.object "java/lang/Object"))) :: lwAll) ({ frames := 1, cells := 1, slots := n + n / 2, locals := 60 } : Room) (va_Pc [.ref kd, .int x1, .ref (D.2 200 2)] (mPre D (lwTY2 D) [(kd, .inl ((D.1 102), n, .inr (.inr (.inr (.inr g)))))] sz CC n g none)) (va_Qr (fun (_ : Unit) => True) (fun (_ : Unit) (ra : Nat) t => va_P D vwCl [(kd, .inl ((D.1 102), n, .inr (.inr (.inr (.inr g))))), (ra, .inl ((D.1 102), (n + n / 2), .inr (.inr (.inr (.inr (va_cpy g (fun _ => none) 0 0 n))))))] t.heap ∧ va_D (va_A [(kd, .inl ((D.1 102), n, .inr (.inr (.inr (.inr g)))))] sz) [(kd, .inl ((D.1 102), n, .inr (.inr (.inr (.inr g))))), (ra, .inl ((D.1 102), (n + n / 2), .inr (.inr (.inr (.inr (va_cpy g (fun _ => none) 0 0 n))))))]) (va_A [(kd, .inl ((D.1 102), n, .inr (.inr (.inr (.inr g)))))] sz)) 1 (n + n / 2) (va_A [(kd, .inl ((D.1 102), n, .inr (.inr (.inr (.inr g)))))] sz) := by
  subst hx1
  refine Met.ofW (cc := cJ7_copyOf_6403c) (maxL := 4) (ret := (some (.array (.object "java/lang/Object")))) (by decide) rfl ?_
  intro p e s m args below meth c s₁ B hml hv
  obtain ⟨rfl, ⟨⟨hsz, hP, hK, hD0, hN, hZ⟩, hI⟩, hEl, hOv, hCa⟩ := hv
  have hx := B.exec
  have hb := B.bytes
  have hr := B.returns
  have hts : ∀ wd ∈ lwAll, wd.before ([.ref kd, .int (nI (n + n / 2)), .ref (D.2 200 2)] : List Value).toArray s = true := fun wd h => atoms_spec (ws := (Cond.code yJ7_copyOf_6403c cJ7_copyOf_6403c 4 (some (.array (.object "java/lang/Object"))) :: lwAll)) B.pre wd (List.mem_cons_of_mem _ h)
  have hown : s.vm.findClass RJ7 = some m.cls := findClass_of_methodNamed B.named
  have hlocks := B.notSynchronized
  subst hsz
  have hD := hD0.self (sz := s.heap.size)
  have hl := lv_entry ([.ref kd, .int (nI (n + n / 2)), .ref (D.2 200 2)]) (n := 4) (Nat.le_of_ble_eq_true rfl)
  rw [lg_entry_eq]
  generalize (lg_sl ([.ref kd, .int (nI (n + n / 2)), .ref (D.2 200 2)]) ++ List.replicate (4 - (lg_sl ([.ref kd, .int (nI (n + n / 2)), .ref (D.2 200 2)])).length) Slot.unset).toArray = ls at hl ⊢
  have hl : lv_has ls 4 [(0, .ref kd), (1, .int (nI (n + n / 2))), (2, .ref (D.2 200 2))] := hl
  have hS : va_S (va_A [(kd, .inl ((D.1 102), n, .inr (.inr (.inr (.inr g)))))] s.heap.size) s.heap s.heap [] := va_S.rf
  generalize hQe : MQ below (va_Qr (fun (_ : Unit) => True) (fun (_ : Unit) (ra : Nat) t => va_P D vwCl [(kd, .inl ((D.1 102), n, .inr (.inr (.inr (.inr g))))), (ra, .inl ((D.1 102), (n + n / 2), .inr (.inr (.inr (.inr (va_cpy g (fun _ => none) 0 0 n))))))] t.heap ∧ va_D (va_A [(kd, .inl ((D.1 102), n, .inr (.inr (.inr (.inr g)))))] s.heap.size) [(kd, .inl ((D.1 102), n, .inr (.inr (.inr (.inr g))))), (ra, .inl ((D.1 102), (n + n / 2), .inr (.inr (.inr (.inr (va_cpy g (fun _ => none) 0 0 n))))))]) (va_A [(kd, .inl ((D.1 102), n, .inr (.inr (.inr (.inr g)))))] s.heap.size)) ([.ref kd, .int (nI (n + n / 2)), .ref (D.2 200 2)] : List Value).toArray s 1 (n + n / 2) (va_A [(kd, .inl ((D.1 102), n, .inr (.inr (.inr (.inr g)))))] s.heap.size) = Q
  have hP : va_P D vwCl [(kd, .inl ((D.1 102), n, .inr (.inr (.inr (.inr g)))))] s.heap := hP
  obtain ⟨A, hAe⟩ : ∃ A, A = va_A [(kd, .inl ((D.1 102), n, .inr (.inr (.inr (.inr g)))))] s.heap.size := ⟨_, rfl⟩
  rw [← hAe] at hD hZ hI hEl hOv hS
  have hA : ∀ q : Nat, s.heap.size ≤ q → A q := fun q h => by rw [hAe]; exact Or.inr h
  obtain ⟨H, hHe⟩ : ∃ H, H = s.heap := ⟨_, rfl⟩
  obtain ⟨locs, hLe⟩ : ∃ L : List Loc, L = [] := ⟨_, rfl⟩
  have hP : va_P D vwCl [(kd, .inl ((D.1 102), n, .inr (.inr (.inr (.inr g)))))] H := by rw [hHe]; exact hP
  have hS : va_S A s.heap H locs := by rw [hHe, hLe]; exact hS
  have hgoal : W p l e ({ frames := 1, cells := 1, slots := n + n / 2, locals := 60 } : Room) s m ([.ref kd, .int (nI (n + n / 2)), .ref (D.2 200 2)] : List Value).toArray below meth c H locs 0 0 Q (F0 m 0 ls []) := by
    clear hHe hLe
    refine lv_aload_n hx hb dJ7_copyOf_6403c_0 rfl (lv_at hl 2 rfl) ?_
    refine va_ldcM hx hb hown (hts _ q_1258) hI.2.2.2.2.1 dJ7_copyOf_6403c_1 ?_
    refine lv_acmp_ne (rx := some (D.2 200 2)) (ry := some (D.2 200 2)) (tgt := 13) hx hb dJ7_copyOf_6403c_3 (by decide) (fun c_1 => ?_) (fun c_1 => ?_)
    · exact absurd rfl c_1
    · refine lv_iload_n hx hb dJ7_copyOf_6403c_6 rfl (lv_at hl 1 rfl) ?_
      refine va_newO hx hb hown (hts _ q_1260) hI.2.2.2.1 hK hP hD hS hA (N' := (n + n / 2)) (nI_pos (by omega)) (nI_clamp (by omega)) (by omega) (show 0 + 1 ≤ 1 from (by omega)) (show 0 + (n + n / 2) ≤ (n + n / 2) from (by omega)) dJ7_copyOf_6403c_7 (fun y_7 H hP hD hS => ?_)
      have hP : va_P D vwCl [(kd, .inl ((D.1 102), n, .inr (.inr (.inr (.inr g))))), (y_7, .inl ((D.1 102), (n + n / 2), .inr (.inr (.inr (.inr (fun _ => none))))))] H := hP
      have hD : va_D A [(kd, .inl ((D.1 102), n, .inr (.inr (.inr (.inr g))))), (y_7, .inl ((D.1 102), (n + n / 2), .inr (.inr (.inr (.inr (fun _ => none))))))] := hD
      refine lv_goto (tgt := 24) hx hb dJ7_copyOf_6403c_10 (by decide) ?_
      refine lv_astore_n (lv' := [(3, .ref y_7), (0, .ref kd), (1, .int (nI (n + n / 2))), (2, .ref (D.2 200 2))]) hx hb dJ7_copyOf_6403c_24 rfl hl (by decide) rfl (fun ls hl => ?_)
      refine lv_aload_n hx hb dJ7_copyOf_6403c_25 rfl (lv_at hl 1 rfl) ?_
      refine lv_iconst (v := 0) hx hb dJ7_copyOf_6403c_26 (by decide) ?_
      refine lv_aload_n hx hb dJ7_copyOf_6403c_27 rfl (lv_at hl 0 rfl) ?_
      refine lv_iconst (v := 0) hx hb dJ7_copyOf_6403c_28 (by decide) ?_
      refine lv_aload_n hx hb dJ7_copyOf_6403c_29 rfl (lv_at hl 1 rfl) ?_
      refine va_alen hx hb hK hP 0 2 rfl rfl (v := nI n) rfl dJ7_copyOf_6403c_30 ?_
      refine lv_iload_n hx hb dJ7_copyOf_6403c_31 rfl (lv_at hl 2 rfl) ?_
      refine va_mmin hx hb (hml.trans hl.1.symm) hown (hts _ q_366) (hts _ q_367) (hts _ q_95) (hts _ q_368) (Nat.le_of_ble_eq_true rfl) (Nat.le_of_ble_eq_true rfl) (show 0 + 1 ≤ 1 from (by omega)) (show 0 + (n + n / 2) ≤ n + n / 2 from (by omega)) dJ7_copyOf_6403c_32 ?_
      rw [show ((if (nI (n + n / 2)) < (nI n) then (nI (n + n / 2)) else (nI n)) : Int32) = nI n from (if_neg (nI_nlt (by omega) (by omega)))]
      refine va_copyq hx hb (hml.trans hl.1.symm) hown (hts _ q_369) (hts _ q_371) (hts _ q_370) (hts _ q_97) hK hP hD hS 0 1 2 2 rfl rfl rfl rfl (by decide) (by decide) (nI_pos (by omega)) (by rw [nI_clamp (by omega)]; show 0 + n ≤ n; omega) (by rw [nI_clamp (by omega)]; show 0 + n ≤ n + n / 2; omega) (fun i hi y hy => elm_keep hS (hEl i (by rw [nI_clamp (by omega)] at hi; exact hi) y (by rw [show (0 : Int32).toNatClampNeg + i = i from Nat.zero_add i] at hy; exact hy)).1 (hEl i (by rw [nI_clamp (by omega)] at hi; exact hi) y (by rw [show (0 : Int32).toNatClampNeg + i = i from Nat.zero_add i] at hy; exact hy)).2) (fun comp c0 h1 h2 => vb_asgC hCa comp c0 h1 h2) (Nat.le_of_ble_eq_true rfl) (show (List.map (fun v => Value.category v) ([] : List Value)).sum + (nativeFrameWords "java/lang/System" "arraycopy" 5 + 11) ≤ 60 from by decide +kernel) dJ7_copyOf_6403c_35 (fun H locs hP hD hS => ?_)
      have hP : va_P D vwCl [(kd, .inl ((D.1 102), n, .inr (.inr (.inr (.inr g))))), (y_7, .inl ((D.1 102), (n + n / 2), .inr (.inr (.inr (.inr (va_cpy g (fun _ => none) (0 : Int32).toNatClampNeg (0 : Int32).toNatClampNeg (nI n).toNatClampNeg))))))] H := hP
      have hD : va_D A [(kd, .inl ((D.1 102), n, .inr (.inr (.inr (.inr g))))), (y_7, .inl ((D.1 102), (n + n / 2), .inr (.inr (.inr (.inr (va_cpy g (fun _ => none) (0 : Int32).toNatClampNeg (0 : Int32).toNatClampNeg (nI n).toNatClampNeg))))))] := hD
      rw [nI_clamp (by omega)] at hP hD
      have hP : va_P D vwCl [(kd, .inl ((D.1 102), n, .inr (.inr (.inr (.inr g))))), (y_7, .inl ((D.1 102), (n + n / 2), .inr (.inr (.inr (.inr (va_cpy g (fun _ => none) 0 0 n))))))] H := hP
      have hD : va_D A [(kd, .inl ((D.1 102), n, .inr (.inr (.inr (.inr g))))), (y_7, .inl ((D.1 102), (n + n / 2), .inr (.inr (.inr (.inr (va_cpy g (fun _ => none) 0 0 n))))))] := hD
      refine lv_aload_n hx hb dJ7_copyOf_6403c_38 rfl (lv_at hl 0 rfl) ?_
      subst hQe
      subst hAe
      refine W.widen (k := 1) (n := n + n / 2) (by omega) (by omega) ?_
      have hP9 := hP.sub (ws' := [(kd, .inl ((D.1 102), n, .inr (.inr (.inr (.inr g))))), (y_7, .inl ((D.1 102), (n + n / 2), .inr (.inr (.inr (.inr (va_cpy g (fun _ => none) 0 0 n))))))]) [0, 1] rfl
      have hD9 := hD.sub (ws' := [(kd, .inl ((D.1 102), n, .inr (.inr (.inr (.inr g))))), (y_7, .inl ((D.1 102), (n + n / 2), .inr (.inr (.inr (.inr (va_cpy g (fun _ => none) 0 0 n))))))]) [0, 1] (by decide) rfl
      exact W.aret (v := .ref y_7) hx hb hr (by first | exact Or.inl ⟨_, rfl⟩ | exact Or.inr ⟨_, rfl⟩) (Or.inr ⟨_, rfl⟩) (fun t ht hW => ⟨⟨(), y_7, rfl, trivial, (by rw [ht]; exact hP9), (hD9)⟩, hS.F ht⟩) hS.2.2 dJ7_copyOf_6403c_39
  rw [hHe, hLe] at hgoal
  exact hgoal


set_option maxHeartbeats 4000000 in
set_option maxRecDepth 100000 in
theorem c_J7_copyOf_1904c (l : Launch) (D : va_G) (kd : Nat) (n : Nat) (g : Nat → Option Nat) (CC : String) (x1 : Int32) (sz : Nat) (h10 : 10 ≤ n) (hnb : n ≤ 40000) (hx1 : x1 = nI (n + n / 2)) : Met l yJ7_copyOf_1904c (Cond.code yJ7_copyOf_1904c cJ7_copyOf_1904c 2 (some (.array (.object "java/lang/Object"))) :: lwAll) ({ frames := 2, cells := 1, slots := n + n / 2, locals := 83 } : Room) (va_Pc [.ref kd, .int x1] (mPre D (lwTY2 D) [(kd, .inl ((D.1 102), n, .inr (.inr (.inr (.inr g)))))] sz CC n g none)) (va_Qr (fun (_ : Unit) => True) (fun (_ : Unit) (ra : Nat) t => va_P D vwCl [(kd, .inl ((D.1 102), n, .inr (.inr (.inr (.inr g))))), (ra, .inl ((D.1 102), (n + n / 2), .inr (.inr (.inr (.inr (va_cpy g (fun _ => none) 0 0 n))))))] t.heap ∧ va_D (va_A [(kd, .inl ((D.1 102), n, .inr (.inr (.inr (.inr g)))))] sz) [(kd, .inl ((D.1 102), n, .inr (.inr (.inr (.inr g))))), (ra, .inl ((D.1 102), (n + n / 2), .inr (.inr (.inr (.inr (va_cpy g (fun _ => none) 0 0 n))))))]) (va_A [(kd, .inl ((D.1 102), n, .inr (.inr (.inr (.inr g)))))] sz)) 1 (n + n / 2) (va_A [(kd, .inl ((D.1 102), n, .inr (.inr (.inr (.inr g)))))] sz) := by
  subst hx1
  refine Met.ofW (cc := cJ7_copyOf_1904c) (maxL := 2) (ret := (some (.array (.object "java/lang/Object")))) (by decide) rfl ?_
  intro p e s m args below meth c s₁ B hml hv
  obtain ⟨rfl, ⟨⟨hsz, hP, hK, hD0, hN, hZ⟩, hI⟩, hEl, hOv, hCa⟩ := hv
  have hx := B.exec
  have hb := B.bytes
  have hr := B.returns
  have hts : ∀ wd ∈ lwAll, wd.before ([.ref kd, .int (nI (n + n / 2))] : List Value).toArray s = true := fun wd h => atoms_spec (ws := (Cond.code yJ7_copyOf_1904c cJ7_copyOf_1904c 2 (some (.array (.object "java/lang/Object"))) :: lwAll)) B.pre wd (List.mem_cons_of_mem _ h)
  have hown : s.vm.findClass RJ7 = some m.cls := findClass_of_methodNamed B.named
  have hlocks := B.notSynchronized
  subst hsz
  have hD := hD0.self (sz := s.heap.size)
  have hl := lv_entry ([.ref kd, .int (nI (n + n / 2))]) (n := 2) (Nat.le_of_ble_eq_true rfl)
  rw [lg_entry_eq]
  generalize (lg_sl ([.ref kd, .int (nI (n + n / 2))]) ++ List.replicate (2 - (lg_sl ([.ref kd, .int (nI (n + n / 2))])).length) Slot.unset).toArray = ls at hl ⊢
  have hl : lv_has ls 2 [(0, .ref kd), (1, .int (nI (n + n / 2)))] := hl
  have hS : va_S (va_A [(kd, .inl ((D.1 102), n, .inr (.inr (.inr (.inr g)))))] s.heap.size) s.heap s.heap [] := va_S.rf
  generalize hQe : MQ below (va_Qr (fun (_ : Unit) => True) (fun (_ : Unit) (ra : Nat) t => va_P D vwCl [(kd, .inl ((D.1 102), n, .inr (.inr (.inr (.inr g))))), (ra, .inl ((D.1 102), (n + n / 2), .inr (.inr (.inr (.inr (va_cpy g (fun _ => none) 0 0 n))))))] t.heap ∧ va_D (va_A [(kd, .inl ((D.1 102), n, .inr (.inr (.inr (.inr g)))))] s.heap.size) [(kd, .inl ((D.1 102), n, .inr (.inr (.inr (.inr g))))), (ra, .inl ((D.1 102), (n + n / 2), .inr (.inr (.inr (.inr (va_cpy g (fun _ => none) 0 0 n))))))]) (va_A [(kd, .inl ((D.1 102), n, .inr (.inr (.inr (.inr g)))))] s.heap.size)) ([.ref kd, .int (nI (n + n / 2))] : List Value).toArray s 1 (n + n / 2) (va_A [(kd, .inl ((D.1 102), n, .inr (.inr (.inr (.inr g)))))] s.heap.size) = Q
  have hP : va_P D vwCl [(kd, .inl ((D.1 102), n, .inr (.inr (.inr (.inr g)))))] s.heap := hP
  obtain ⟨A, hAe⟩ : ∃ A, A = va_A [(kd, .inl ((D.1 102), n, .inr (.inr (.inr (.inr g)))))] s.heap.size := ⟨_, rfl⟩
  rw [← hAe] at hD hZ hI hEl hOv hS
  have hA : ∀ q : Nat, s.heap.size ≤ q → A q := fun q h => by rw [hAe]; exact Or.inr h
  obtain ⟨H, hHe⟩ : ∃ H, H = s.heap := ⟨_, rfl⟩
  obtain ⟨locs, hLe⟩ : ∃ L : List Loc, L = [] := ⟨_, rfl⟩
  have hP : va_P D vwCl [(kd, .inl ((D.1 102), n, .inr (.inr (.inr (.inr g)))))] H := by rw [hHe]; exact hP
  have hS : va_S A s.heap H locs := by rw [hHe, hLe]; exact hS
  have hgoal : W p l e ({ frames := 2, cells := 1, slots := n + n / 2, locals := 83 } : Room) s m ([.ref kd, .int (nI (n + n / 2))] : List Value).toArray below meth c H locs 0 0 Q (F0 m 0 ls []) := by
    clear hHe hLe
    refine lv_aload_n hx hb dJ7_copyOf_1904c_0 rfl (lv_at hl 0 rfl) ?_
    refine lv_iload_n hx hb dJ7_copyOf_1904c_1 rfl (lv_at hl 1 rfl) ?_
    refine lv_aload_n hx hb dJ7_copyOf_1904c_2 rfl (lv_at hl 0 rfl) ?_
    refine va_getC hx hb (hml.trans hl.1.symm) hown (hts _ q_1233) (va_Dc.use hI.2.2.2.2.2) (hts _ q_1691) (hts _ q_1234) (hts _ q_1254) hI.2.2.2.2.1 (oarr_recv hK hP (q0 := 0) rfl) (Nat.le_of_ble_eq_true rfl) (Nat.le_of_ble_eq_true rfl) dJ7_copyOf_1904c_3 ?_
    have hPc := hP.sub (ws' := [(kd, .inl ((D.1 102), n, .inr (.inr (.inr (.inr g)))))]) [0] rfl
    have hDc := hD.sub (ws' := [(kd, .inl ((D.1 102), n, .inr (.inr (.inr (.inr g)))))]) [0] (by decide) rfl
    have hFc := va_free (wc := [(kd, .inl ((D.1 102), n, .inr (.inr (.inr (.inr g)))))]) hD hS hA [0] rfl
    refine va_callr (va_runS (As := [.ref kd, .int (nI (n + n / 2)), .ref (D.2 200 2)]) (rest := []) ⟨hx, hb, hml, hown, hts⟩ (c_J7_copyOf_6403c l D kd n g CC (nI (n + n / 2)) H.size (show 10 ≤ n from (by omega)) (show n ≤ 40000 from (by omega)) (show (nI (n + n / 2)) = nI (n + n / 2) from rfl)) (cwS 3 hts (gi_S q_1255 q_1256 q_96 q_1257) rfl rfl rfl (by decide +kernel) ⟨Nat.le_of_ble_eq_true rfl, Nat.le_of_ble_eq_true rfl⟩) ⟨mPre_blind, mPre_mk hS hFc hEl hOv hCa (lwI_for hI hS hFc) hPc hK hDc hN (lwZ_for hZ hS hFc)⟩ rfl rfl hl.1 rfl (lv_room (Nat.le_of_ble_eq_true rfl)) dJ7_copyOf_1904c_6 ⟨(show 0 + 1 ≤ 1 from (by omega)), (show 0 + (n + n / 2) ≤ (n + n / 2) from (by omega))⟩) hS (fun q _ h => hFc q h) hFc (fun u ra_6 t H1 locs ht hvm hw hBk hz1 hk1 hS => ?_)
    obtain ⟨hP1, hD1⟩ := hBk
    rw [ht] at hP1
    obtain ⟨hP, hD⟩ := va_join (wr := []) (w1 := [(kd, .inl ((D.1 102), n, .inr (.inr (.inr (.inr g))))), (ra_6, .inl ((D.1 102), (n + n / 2), .inr (.inr (.inr (.inr (va_cpy g (fun _ => none) 0 0 n))))))]) hP hD [0] [] rfl rfl (by decide) (by decide) hk1 hFc hP1 hD1
    clear hPc hDc hFc hP1 hD1 hk1 hz1
    clear hvm ht u; clear t
    generalize H1 = H at hP hS ⊢
    have hP : va_P D vwCl [(kd, .inl ((D.1 102), n, .inr (.inr (.inr (.inr g))))), (ra_6, .inl ((D.1 102), (n + n / 2), .inr (.inr (.inr (.inr (va_cpy g (fun _ => none) 0 0 n))))))] H := hP
    have hD : va_D A [(kd, .inl ((D.1 102), n, .inr (.inr (.inr (.inr g))))), (ra_6, .inl ((D.1 102), (n + n / 2), .inr (.inr (.inr (.inr (va_cpy g (fun _ => none) 0 0 n))))))] := hD
    subst hQe
    subst hAe
    refine W.widen (k := 1) (n := n + n / 2) (by omega) (by omega) ?_
    have hP9 := hP.sub (ws' := [(kd, .inl ((D.1 102), n, .inr (.inr (.inr (.inr g))))), (ra_6, .inl ((D.1 102), (n + n / 2), .inr (.inr (.inr (.inr (va_cpy g (fun _ => none) 0 0 n))))))]) [0, 1] rfl
    have hD9 := hD.sub (ws' := [(kd, .inl ((D.1 102), n, .inr (.inr (.inr (.inr g))))), (ra_6, .inl ((D.1 102), (n + n / 2), .inr (.inr (.inr (.inr (va_cpy g (fun _ => none) 0 0 n))))))]) [0, 1] (by decide) rfl
    exact W.aret (v := .ref ra_6) hx hb hr (by first | exact Or.inl ⟨_, rfl⟩ | exact Or.inr ⟨_, rfl⟩) (Or.inr ⟨_, rfl⟩) (fun t ht hW => ⟨⟨(), ra_6, rfl, trivial, (by rw [ht]; exact hP9), (hD9)⟩, hS.F ht⟩) hS.2.2 dJ7_copyOf_1904c_9
  rw [hHe, hLe] at hgoal
  exact hgoal


set_option maxHeartbeats 4000000 in
set_option maxRecDepth 100000 in
theorem c_Jx4a65c_grow_92f84G (l : Launch) (D : va_G) (kl : Nat) (km : Int32) (kd : Nat) (n : Nat) (g : Nat → Option Nat) (CC : String) (x1 : Int32) (sz : Nat) (h10 : 10 ≤ n) (hnb : n ≤ 40000) (hx1 : x1 = nI (n + 1)) : Met l yJx4a65c_grow_92f84 (Cond.code yJx4a65c_grow_92f84 cJx4a65c_grow_92f84 4 (some (.array (.object "java/lang/Object"))) :: lwAll) ({ frames := 3, cells := 1, slots := n + n / 2, locals := 104 } : Room) (va_Pc [.ref kl, .int x1] (mPre D (lwTY2 D) [(kl, .inr (6, [.int km, .ref kd, .int (nI n)])), (kd, .inl ((D.1 102), n, .inr (.inr (.inr (.inr g)))))] sz CC n g none)) (va_Qr (fun (_ : Unit) => True) (fun (_ : Unit) (ra : Nat) t => va_P D vwCl [(kl, .inr (6, [.int km, .ref ra, .int (nI n)])), (kd, .inl ((D.1 102), n, .inr (.inr (.inr (.inr g))))), (ra, .inl ((D.1 102), (n + n / 2), .inr (.inr (.inr (.inr (va_cpy g (fun _ => none) 0 0 n))))))] t.heap ∧ va_D (va_A [(kl, .inr (6, [.int km, .ref kd, .int (nI n)])), (kd, .inl ((D.1 102), n, .inr (.inr (.inr (.inr g)))))] sz) [(kl, .inr (6, [.int km, .ref ra, .int (nI n)])), (kd, .inl ((D.1 102), n, .inr (.inr (.inr (.inr g))))), (ra, .inl ((D.1 102), (n + n / 2), .inr (.inr (.inr (.inr (va_cpy g (fun _ => none) 0 0 n))))))]) (va_A [(kl, .inr (6, [.int km, .ref kd, .int (nI n)])), (kd, .inl ((D.1 102), n, .inr (.inr (.inr (.inr g)))))] sz)) 1 (n + n / 2) (va_A [(kl, .inr (6, [.int km, .ref kd, .int (nI n)])), (kd, .inl ((D.1 102), n, .inr (.inr (.inr (.inr g)))))] sz) := by
  subst hx1
  refine Met.ofW (cc := cJx4a65c_grow_92f84) (maxL := 4) (ret := (some (.array (.object "java/lang/Object")))) (by decide) rfl ?_
  intro p e s m args below meth c s₁ B hml hv
  obtain ⟨rfl, ⟨⟨hsz, hP, hK, hD0, hN, hZ⟩, hI⟩, hEl, hOv, hCa⟩ := hv
  have hx := B.exec
  have hb := B.bytes
  have hr := B.returns
  have hts : ∀ wd ∈ lwAll, wd.before ([.ref kl, .int (nI (n + 1))] : List Value).toArray s = true := fun wd h => atoms_spec (ws := (Cond.code yJx4a65c_grow_92f84 cJx4a65c_grow_92f84 4 (some (.array (.object "java/lang/Object"))) :: lwAll)) B.pre wd (List.mem_cons_of_mem _ h)
  have hown : s.vm.findClass RJx4a65c = some m.cls := findClass_of_methodNamed B.named
  have hlocks := B.notSynchronized
  subst hsz
  have hD := hD0.self (sz := s.heap.size)
  have hl := lv_entry ([.ref kl, .int (nI (n + 1))]) (n := 4) (Nat.le_of_ble_eq_true rfl)
  rw [lg_entry_eq]
  generalize (lg_sl ([.ref kl, .int (nI (n + 1))]) ++ List.replicate (4 - (lg_sl ([.ref kl, .int (nI (n + 1))])).length) Slot.unset).toArray = ls at hl ⊢
  have hl : lv_has ls 4 [(0, .ref kl), (1, .int (nI (n + 1)))] := hl
  have hS : va_S (va_A [(kl, .inr (6, [.int km, .ref kd, .int (nI n)])), (kd, .inl ((D.1 102), n, .inr (.inr (.inr (.inr g)))))] s.heap.size) s.heap s.heap [] := va_S.rf
  generalize hQe : MQ below (va_Qr (fun (_ : Unit) => True) (fun (_ : Unit) (ra : Nat) t => va_P D vwCl [(kl, .inr (6, [.int km, .ref ra, .int (nI n)])), (kd, .inl ((D.1 102), n, .inr (.inr (.inr (.inr g))))), (ra, .inl ((D.1 102), (n + n / 2), .inr (.inr (.inr (.inr (va_cpy g (fun _ => none) 0 0 n))))))] t.heap ∧ va_D (va_A [(kl, .inr (6, [.int km, .ref kd, .int (nI n)])), (kd, .inl ((D.1 102), n, .inr (.inr (.inr (.inr g)))))] s.heap.size) [(kl, .inr (6, [.int km, .ref ra, .int (nI n)])), (kd, .inl ((D.1 102), n, .inr (.inr (.inr (.inr g))))), (ra, .inl ((D.1 102), (n + n / 2), .inr (.inr (.inr (.inr (va_cpy g (fun _ => none) 0 0 n))))))]) (va_A [(kl, .inr (6, [.int km, .ref kd, .int (nI n)])), (kd, .inl ((D.1 102), n, .inr (.inr (.inr (.inr g)))))] s.heap.size)) ([.ref kl, .int (nI (n + 1))] : List Value).toArray s 1 (n + n / 2) (va_A [(kl, .inr (6, [.int km, .ref kd, .int (nI n)])), (kd, .inl ((D.1 102), n, .inr (.inr (.inr (.inr g)))))] s.heap.size) = Q
  have hP : va_P D vwCl [(kl, .inr (6, [.int km, .ref kd, .int (nI n)])), (kd, .inl ((D.1 102), n, .inr (.inr (.inr (.inr g)))))] s.heap := hP
  obtain ⟨A, hAe⟩ : ∃ A, A = va_A [(kl, .inr (6, [.int km, .ref kd, .int (nI n)])), (kd, .inl ((D.1 102), n, .inr (.inr (.inr (.inr g)))))] s.heap.size := ⟨_, rfl⟩
  rw [← hAe] at hD hZ hI hEl hOv hS
  have hA : ∀ q : Nat, s.heap.size ≤ q → A q := fun q h => by rw [hAe]; exact Or.inr h
  obtain ⟨H, hHe⟩ : ∃ H, H = s.heap := ⟨_, rfl⟩
  obtain ⟨locs, hLe⟩ : ∃ L : List Loc, L = [] := ⟨_, rfl⟩
  have hP : va_P D vwCl [(kl, .inr (6, [.int km, .ref kd, .int (nI n)])), (kd, .inl ((D.1 102), n, .inr (.inr (.inr (.inr g)))))] H := by rw [hHe]; exact hP
  have hS : va_S A s.heap H locs := by rw [hHe, hLe]; exact hS
  have hgoal : W p l e ({ frames := 3, cells := 1, slots := n + n / 2, locals := 104 } : Room) s m ([.ref kl, .int (nI (n + 1))] : List Value).toArray below meth c H locs 0 0 Q (F0 m 0 ls []) := by
    clear hHe hLe
    refine lv_aload_n hx hb dJx4a65c_grow_92f84_0 rfl (lv_at hl 0 rfl) ?_
    refine va_get (D := D) (ci := 6) (v := .ref kd) (C := RJx4a65c) (T := TJx4a65c) (N := 3) hx hb hts in_Jx4a65c hown hK hP 0 rfl rfl 1 (by decide) (hts _ q_1151) (fun _ h9 => h9) rfl dJx4a65c_grow_92f84_1 ?_
    refine va_alen hx hb hK hP 1 2 rfl rfl (v := nI n) rfl dJx4a65c_grow_92f84_4 ?_
    refine lv_istore_n (lv' := [(2, .int (nI n)), (0, .ref kl), (1, .int (nI (n + 1)))]) hx hb dJx4a65c_grow_92f84_5 rfl hl (by decide) rfl (fun ls hl => ?_)
    refine lv_iload_n hx hb dJx4a65c_grow_92f84_6 rfl (lv_at hl 0 rfl) ?_
    refine lv_if_gt (tgt := 20) hx hb dJx4a65c_grow_92f84_7 (by decide) (fun c_1 => ?_) (fun c_1 => ?_)
    · refine lv_iload_n hx hb dJx4a65c_grow_92f84_20 rfl (lv_at hl 0 rfl) ?_
      refine lv_iload_n hx hb dJx4a65c_grow_92f84_21 rfl (lv_at hl 2 rfl) ?_
      refine lv_iload_n hx hb dJx4a65c_grow_92f84_22 rfl (lv_at hl 0 rfl) ?_
      refine lv_isub hx hb dJx4a65c_grow_92f84_23 ?_
      rw [show ((nI (n + 1)) - (nI n) : Int32) = nI 1 from (by have k := pk_sub (a := n + 1) (b := n) (by omega); rw [Nat.add_sub_cancel_left] at k; exact k)]
      refine lv_iload_n hx hb dJx4a65c_grow_92f84_24 rfl (lv_at hl 0 rfl) ?_
      refine lv_iconst (v := 1) hx hb dJx4a65c_grow_92f84_25 (by decide) ?_
      refine lv_ishr hx hb dJx4a65c_grow_92f84_26 ?_
      rw [show ((nI n) >>> ((1 : Int32) &&& 31) : Int32) = nI (n / 2) from (by have k := pk_shrN (n := n) (by omega) ((1 : Int32) &&& 31) 1 (by decide); rw [Nat.pow_one] at k; exact k)]
      have hPc := hP.sub (ws' := []) [] rfl
      have hDc := hD.sub (ws' := []) [] (by decide) rfl
      have hFc := va_free (wc := []) hD hS hA [] rfl
      refine va_calli (va_runS (As := [.int (nI n), .int (nI 1), .int (nI (n / 2))]) (rest := []) ⟨hx, hb, hml, hown, hts⟩ (c_J8_newLength_cabcc l D n 1 (n / 2) (nI n) (nI 1) (nI (n / 2)) H.size (show 1 < (n / 2) from (by omega)) (show n + (n / 2) ≤ 100000 from (by omega)) (show (nI n) = nI n from rfl) (show (nI 1) = nI 1 from rfl) (show (nI (n / 2)) = nI (n / 2) from rfl)) ⟨callB_of 3 hts (gi_sub q_347) rfl rfl rfl (hts _ q_94) (hts _ q_1229) (by decide +kernel) ⟨Nat.le_of_ble_eq_true rfl, Nat.le_of_ble_eq_true rfl⟩, (hts _ q_346)⟩ ⟨cPre_blind, cPre_mk hPc (hK.sub [0, 1] rfl) hDc hN (lwZ_for hZ hS hFc)⟩ rfl rfl hl.1 rfl (lv_room (Nat.le_of_ble_eq_true rfl)) dJx4a65c_grow_92f84_27 ⟨(show 0 + 0 ≤ 1 from (by omega)), (show 0 + 0 ≤ (n + n / 2) from (by omega))⟩) hS (fun q h1 h2 => absurd h2 (Nat.not_le.mpr h1)) (fun q h => hA q (Nat.le_trans hS.1 h)) (fun r_27 u t H1 locs ht hvm hw hBk hz1 hk1 hS => ?_)
      have hP := va_P_ro hP hk1
      subst hw
      clear hBk hvm ht u hz1 hk1
      clear hPc hDc hFc; clear t
      generalize H1 = H at hP hS ⊢
      rw [show (F_J8_newLength_cabcc n (n / 2) : Int32) = nI (n + n / 2) from rfl]
      refine lv_istore_n (lv' := [(3, .int (nI (n + n / 2))), (2, .int (nI n)), (0, .ref kl), (1, .int (nI (n + 1)))]) hx hb dJx4a65c_grow_92f84_30 rfl hl (by decide) rfl (fun ls hl => ?_)
      refine lv_aload_n hx hb dJx4a65c_grow_92f84_31 rfl (lv_at hl 2 rfl) ?_
      refine lv_aload_n hx hb dJx4a65c_grow_92f84_32 rfl (lv_at hl 2 rfl) ?_
      refine va_get (D := D) (ci := 6) (v := .ref kd) (C := RJx4a65c) (T := TJx4a65c) (N := 3) hx hb hts in_Jx4a65c hown hK hP 0 rfl rfl 1 (by decide) (hts _ q_1151) (fun _ h9 => h9) rfl dJx4a65c_grow_92f84_33 ?_
      refine lv_iload_n hx hb dJx4a65c_grow_92f84_36 rfl (lv_at hl 0 rfl) ?_
      have hPc := hP.sub (ws' := [(kd, .inl ((D.1 102), n, .inr (.inr (.inr (.inr g)))))]) [1] rfl
      have hDc := hD.sub (ws' := [(kd, .inl ((D.1 102), n, .inr (.inr (.inr (.inr g)))))]) [1] (by decide) rfl
      have hFc := va_free (wc := [(kd, .inl ((D.1 102), n, .inr (.inr (.inr (.inr g)))))]) hD hS hA [1] rfl
      refine va_callr (va_runS (As := [.ref kd, .int (nI (n + n / 2))]) (rest := [.ref kl]) ⟨hx, hb, hml, hown, hts⟩ (c_J7_copyOf_1904c l D kd n g CC (nI (n + n / 2)) H.size (show 10 ≤ n from (by omega)) (show n ≤ 40000 from (by omega)) (show (nI (n + n / 2)) = nI (n + n / 2) from rfl)) ⟨callB_of 2 hts (gi_sub q_1232) rfl rfl rfl (hts _ q_96) (hts _ q_1230) (by decide +kernel) ⟨Nat.le_of_ble_eq_true rfl, Nat.le_of_ble_eq_true rfl⟩, (hts _ q_1231)⟩ ⟨mPre_blind, mPre_mk hS hFc hEl hOv hCa (lwI_for hI hS hFc) hPc hK hDc hN (lwZ_for hZ hS hFc)⟩ rfl rfl hl.1 rfl (lv_room (Nat.le_of_ble_eq_true rfl)) dJx4a65c_grow_92f84_37 ⟨(show 0 + 1 ≤ 1 from (by omega)), (show 0 + (n + n / 2) ≤ (n + n / 2) from (by omega))⟩) hS (fun q _ h => hFc q h) hFc (fun u ra_37 t H1 locs ht hvm hw hBk hz1 hk1 hS => ?_)
      obtain ⟨hP1, hD1⟩ := hBk
      rw [ht] at hP1
      obtain ⟨hP, hD⟩ := va_join (wr := [(kl, .inr (6, [.int km, .ref kd, .int (nI n)]))]) (w1 := [(kd, .inl ((D.1 102), n, .inr (.inr (.inr (.inr g))))), (ra_37, .inl ((D.1 102), (n + n / 2), .inr (.inr (.inr (.inr (va_cpy g (fun _ => none) 0 0 n))))))]) hP hD [1] [0] rfl rfl (by decide) (by decide) hk1 hFc hP1 hD1
      clear hPc hDc hFc hP1 hD1 hk1 hz1
      clear hvm ht u; clear t
      generalize H1 = H at hP hS ⊢
      have hP : va_P D vwCl [(kl, .inr (6, [.int km, .ref kd, .int (nI n)])), (kd, .inl ((D.1 102), n, .inr (.inr (.inr (.inr g))))), (ra_37, .inl ((D.1 102), (n + n / 2), .inr (.inr (.inr (.inr (va_cpy g (fun _ => none) 0 0 n))))))] H := hP
      have hD : va_D A [(kl, .inr (6, [.int km, .ref kd, .int (nI n)])), (kd, .inl ((D.1 102), n, .inr (.inr (.inr (.inr g))))), (ra_37, .inl ((D.1 102), (n + n / 2), .inr (.inr (.inr (.inr (va_cpy g (fun _ => none) 0 0 n))))))] := hD
      refine lv_dup_x1 hx hb dJx4a65c_grow_92f84_40 rfl rfl ?_
      refine va_put (D := D) (ci := 6) (v := .ref ra_37) (ty := (.array (.object "java/lang/Object"))) (C := RJx4a65c) (T := TJx4a65c) (N := 3) hx hb hts in_Jx4a65c tyJx4a65c tyJx4a65c_ok nmJx4a65c hown hK hP hD hS 0 rfl rfl 1 (by decide) (hts _ q_1151) (fun _ h9 => h9) rfl (by decide +kernel) rfl rfl (Nat.le_of_ble_eq_true rfl) dJx4a65c_grow_92f84_41 (fun H locs hP hD hS => ?_)
      have hP : va_P D vwCl [(kl, .inr (6, [.int km, .ref ra_37, .int (nI n)])), (kd, .inl ((D.1 102), n, .inr (.inr (.inr (.inr g))))), (ra_37, .inl ((D.1 102), (n + n / 2), .inr (.inr (.inr (.inr (va_cpy g (fun _ => none) 0 0 n))))))] H := hP
      have hD : va_D A [(kl, .inr (6, [.int km, .ref ra_37, .int (nI n)])), (kd, .inl ((D.1 102), n, .inr (.inr (.inr (.inr g))))), (ra_37, .inl ((D.1 102), (n + n / 2), .inr (.inr (.inr (.inr (va_cpy g (fun _ => none) 0 0 n))))))] := hD
      subst hQe
      subst hAe
      refine W.widen (k := 1) (n := n + n / 2) (by omega) (by omega) ?_
      have hP9 := hP.sub (ws' := [(kl, .inr (6, [.int km, .ref ra_37, .int (nI n)])), (kd, .inl ((D.1 102), n, .inr (.inr (.inr (.inr g))))), (ra_37, .inl ((D.1 102), (n + n / 2), .inr (.inr (.inr (.inr (va_cpy g (fun _ => none) 0 0 n))))))]) [0, 1, 2] rfl
      have hD9 := hD.sub (ws' := [(kl, .inr (6, [.int km, .ref ra_37, .int (nI n)])), (kd, .inl ((D.1 102), n, .inr (.inr (.inr (.inr g))))), (ra_37, .inl ((D.1 102), (n + n / 2), .inr (.inr (.inr (.inr (va_cpy g (fun _ => none) 0 0 n))))))]) [0, 1, 2] (by decide) rfl
      exact W.aret (v := .ref ra_37) hx hb hr (by first | exact Or.inl ⟨_, rfl⟩ | exact Or.inr ⟨_, rfl⟩) (Or.inr ⟨_, rfl⟩) (fun t ht hW => ⟨⟨(), ra_37, rfl, trivial, (by rw [ht]; exact hP9), (hD9)⟩, hS.F ht⟩) hS.2.2 dJx4a65c_grow_92f84_44
    · exact absurd (nI_lt (a := 0) (by omega) (by omega)) c_1
  rw [hHe, hLe] at hgoal
  exact hgoal


set_option maxHeartbeats 4000000 in
set_option maxRecDepth 100000 in
theorem c_Jx4a65c_grow_d5877G (l : Launch) (D : va_G) (kl : Nat) (km : Int32) (kd : Nat) (n : Nat) (g : Nat → Option Nat) (CC : String) (sz : Nat) (h10 : 10 ≤ n) (hnb : n ≤ 40000) : Met l yJx4a65c_grow_d5877 (Cond.code yJx4a65c_grow_d5877 cJx4a65c_grow_d5877 1 (some (.array (.object "java/lang/Object"))) :: lwAll) ({ frames := 4, cells := 1, slots := n + n / 2, locals := 127 } : Room) (va_Pc [.ref kl] (mPre D (lwTY2 D) [(kl, .inr (6, [.int km, .ref kd, .int (nI n)])), (kd, .inl ((D.1 102), n, .inr (.inr (.inr (.inr g)))))] sz CC n g none)) (va_Qr (fun (_ : Unit) => True) (fun (_ : Unit) (ra : Nat) t => va_P D vwCl [(kl, .inr (6, [.int km, .ref ra, .int (nI n)])), (kd, .inl ((D.1 102), n, .inr (.inr (.inr (.inr g))))), (ra, .inl ((D.1 102), (n + n / 2), .inr (.inr (.inr (.inr (va_cpy g (fun _ => none) 0 0 n))))))] t.heap ∧ va_D (va_A [(kl, .inr (6, [.int km, .ref kd, .int (nI n)])), (kd, .inl ((D.1 102), n, .inr (.inr (.inr (.inr g)))))] sz) [(kl, .inr (6, [.int km, .ref ra, .int (nI n)])), (kd, .inl ((D.1 102), n, .inr (.inr (.inr (.inr g))))), (ra, .inl ((D.1 102), (n + n / 2), .inr (.inr (.inr (.inr (va_cpy g (fun _ => none) 0 0 n))))))]) (va_A [(kl, .inr (6, [.int km, .ref kd, .int (nI n)])), (kd, .inl ((D.1 102), n, .inr (.inr (.inr (.inr g)))))] sz)) 1 (n + n / 2) (va_A [(kl, .inr (6, [.int km, .ref kd, .int (nI n)])), (kd, .inl ((D.1 102), n, .inr (.inr (.inr (.inr g)))))] sz) := by
  refine Met.ofW (cc := cJx4a65c_grow_d5877) (maxL := 1) (ret := (some (.array (.object "java/lang/Object")))) (by decide) rfl ?_
  intro p e s m args below meth c s₁ B hml hv
  obtain ⟨rfl, ⟨⟨hsz, hP, hK, hD0, hN, hZ⟩, hI⟩, hEl, hOv, hCa⟩ := hv
  have hx := B.exec
  have hb := B.bytes
  have hr := B.returns
  have hts : ∀ wd ∈ lwAll, wd.before ([.ref kl] : List Value).toArray s = true := fun wd h => atoms_spec (ws := (Cond.code yJx4a65c_grow_d5877 cJx4a65c_grow_d5877 1 (some (.array (.object "java/lang/Object"))) :: lwAll)) B.pre wd (List.mem_cons_of_mem _ h)
  have hown : s.vm.findClass RJx4a65c = some m.cls := findClass_of_methodNamed B.named
  have hlocks := B.notSynchronized
  subst hsz
  have hD := hD0.self (sz := s.heap.size)
  have hl := lv_entry ([.ref kl]) (n := 1) (Nat.le_of_ble_eq_true rfl)
  rw [lg_entry_eq]
  generalize (lg_sl ([.ref kl]) ++ List.replicate (1 - (lg_sl ([.ref kl])).length) Slot.unset).toArray = ls at hl ⊢
  have hl : lv_has ls 1 [(0, .ref kl)] := hl
  have hS : va_S (va_A [(kl, .inr (6, [.int km, .ref kd, .int (nI n)])), (kd, .inl ((D.1 102), n, .inr (.inr (.inr (.inr g)))))] s.heap.size) s.heap s.heap [] := va_S.rf
  generalize hQe : MQ below (va_Qr (fun (_ : Unit) => True) (fun (_ : Unit) (ra : Nat) t => va_P D vwCl [(kl, .inr (6, [.int km, .ref ra, .int (nI n)])), (kd, .inl ((D.1 102), n, .inr (.inr (.inr (.inr g))))), (ra, .inl ((D.1 102), (n + n / 2), .inr (.inr (.inr (.inr (va_cpy g (fun _ => none) 0 0 n))))))] t.heap ∧ va_D (va_A [(kl, .inr (6, [.int km, .ref kd, .int (nI n)])), (kd, .inl ((D.1 102), n, .inr (.inr (.inr (.inr g)))))] s.heap.size) [(kl, .inr (6, [.int km, .ref ra, .int (nI n)])), (kd, .inl ((D.1 102), n, .inr (.inr (.inr (.inr g))))), (ra, .inl ((D.1 102), (n + n / 2), .inr (.inr (.inr (.inr (va_cpy g (fun _ => none) 0 0 n))))))]) (va_A [(kl, .inr (6, [.int km, .ref kd, .int (nI n)])), (kd, .inl ((D.1 102), n, .inr (.inr (.inr (.inr g)))))] s.heap.size)) ([.ref kl] : List Value).toArray s 1 (n + n / 2) (va_A [(kl, .inr (6, [.int km, .ref kd, .int (nI n)])), (kd, .inl ((D.1 102), n, .inr (.inr (.inr (.inr g)))))] s.heap.size) = Q
  have hP : va_P D vwCl [(kl, .inr (6, [.int km, .ref kd, .int (nI n)])), (kd, .inl ((D.1 102), n, .inr (.inr (.inr (.inr g)))))] s.heap := hP
  obtain ⟨A, hAe⟩ : ∃ A, A = va_A [(kl, .inr (6, [.int km, .ref kd, .int (nI n)])), (kd, .inl ((D.1 102), n, .inr (.inr (.inr (.inr g)))))] s.heap.size := ⟨_, rfl⟩
  rw [← hAe] at hD hZ hI hEl hOv hS
  have hA : ∀ q : Nat, s.heap.size ≤ q → A q := fun q h => by rw [hAe]; exact Or.inr h
  obtain ⟨H, hHe⟩ : ∃ H, H = s.heap := ⟨_, rfl⟩
  obtain ⟨locs, hLe⟩ : ∃ L : List Loc, L = [] := ⟨_, rfl⟩
  have hP : va_P D vwCl [(kl, .inr (6, [.int km, .ref kd, .int (nI n)])), (kd, .inl ((D.1 102), n, .inr (.inr (.inr (.inr g)))))] H := by rw [hHe]; exact hP
  have hS : va_S A s.heap H locs := by rw [hHe, hLe]; exact hS
  have hgoal : W p l e ({ frames := 4, cells := 1, slots := n + n / 2, locals := 127 } : Room) s m ([.ref kl] : List Value).toArray below meth c H locs 0 0 Q (F0 m 0 ls []) := by
    clear hHe hLe
    refine lv_aload_n hx hb dJx4a65c_grow_d5877_0 rfl (lv_at hl 0 rfl) ?_
    refine lv_aload_n hx hb dJx4a65c_grow_d5877_1 rfl (lv_at hl 0 rfl) ?_
    refine va_get (D := D) (ci := 6) (v := .int (nI n)) (C := RJx4a65c) (T := TJx4a65c) (N := 3) hx hb hts in_Jx4a65c hown hK hP 0 rfl rfl 2 (by decide) (hts _ q_1154) (fun _ h9 => h9) rfl dJx4a65c_grow_d5877_2 ?_
    refine lv_iconst (v := 1) hx hb dJx4a65c_grow_d5877_5 (by decide) ?_
    refine lv_iadd hx hb dJx4a65c_grow_d5877_6 ?_
    rw [show ((nI n) + 1 : Int32) = nI (n + 1) from (nI_1 _)]
    have hPc := hP.sub (ws' := [(kl, .inr (6, [.int km, .ref kd, .int (nI n)])), (kd, .inl ((D.1 102), n, .inr (.inr (.inr (.inr g)))))]) [0, 1] rfl
    have hDc := hD.sub (ws' := [(kl, .inr (6, [.int km, .ref kd, .int (nI n)])), (kd, .inl ((D.1 102), n, .inr (.inr (.inr (.inr g)))))]) [0, 1] (by decide) rfl
    have hFc := va_free (wc := [(kl, .inr (6, [.int km, .ref kd, .int (nI n)])), (kd, .inl ((D.1 102), n, .inr (.inr (.inr (.inr g)))))]) hD hS hA [0, 1] rfl
    refine va_callr (va_runV (As := [.int (nI (n + 1))]) (rest := []) ⟨hx, hb, hml, hown, hts⟩ (c_Jx4a65c_grow_92f84G l D kl km kd n g CC (nI (n + 1)) H.size (show 10 ≤ n from (by omega)) (show n ≤ 40000 from (by omega)) (show (nI (n + 1)) = nI (n + 1) from rfl)) (cwV 1 hts (gi_V q_1225 q_1227 q_51 q_107 q_1228) rfl rfl rfl (by decide +kernel) ⟨Nat.le_of_ble_eq_true rfl, Nat.le_of_ble_eq_true rfl⟩) ⟨mPre_blind, va_recv hK hP (ci := 6) (q0 := 0) rfl rfl, mPre_mk hS hFc hEl hOv hCa (lwI_for hI hS hFc) hPc hK hDc hN (lwZ_for hZ hS hFc)⟩ rfl rfl hl.1 rfl (lv_room (Nat.le_of_ble_eq_true rfl)) dJx4a65c_grow_d5877_7 ⟨(show 0 + 1 ≤ 1 from (by omega)), (show 0 + (n + n / 2) ≤ (n + n / 2) from (by omega))⟩) hS (fun q _ h => hFc q h) hFc (fun u ra_7 t H1 locs ht hvm hw hBk hz1 hk1 hS => ?_)
    obtain ⟨hP1, hD1⟩ := hBk
    rw [ht] at hP1
    obtain ⟨hP, hD⟩ := va_join (wr := []) (w1 := [(kl, .inr (6, [.int km, .ref ra_7, .int (nI n)])), (kd, .inl ((D.1 102), n, .inr (.inr (.inr (.inr g))))), (ra_7, .inl ((D.1 102), (n + n / 2), .inr (.inr (.inr (.inr (va_cpy g (fun _ => none) 0 0 n))))))]) hP hD [0, 1] [] rfl rfl (by decide) (by decide) hk1 hFc hP1 hD1
    clear hPc hDc hFc hP1 hD1 hk1 hz1
    clear hvm ht u; clear t
    generalize H1 = H at hP hS ⊢
    have hP : va_P D vwCl [(kl, .inr (6, [.int km, .ref ra_7, .int (nI n)])), (kd, .inl ((D.1 102), n, .inr (.inr (.inr (.inr g))))), (ra_7, .inl ((D.1 102), (n + n / 2), .inr (.inr (.inr (.inr (va_cpy g (fun _ => none) 0 0 n))))))] H := hP
    have hD : va_D A [(kl, .inr (6, [.int km, .ref ra_7, .int (nI n)])), (kd, .inl ((D.1 102), n, .inr (.inr (.inr (.inr g))))), (ra_7, .inl ((D.1 102), (n + n / 2), .inr (.inr (.inr (.inr (va_cpy g (fun _ => none) 0 0 n))))))] := hD
    subst hQe
    subst hAe
    refine W.widen (k := 1) (n := n + n / 2) (by omega) (by omega) ?_
    have hP9 := hP.sub (ws' := [(kl, .inr (6, [.int km, .ref ra_7, .int (nI n)])), (kd, .inl ((D.1 102), n, .inr (.inr (.inr (.inr g))))), (ra_7, .inl ((D.1 102), (n + n / 2), .inr (.inr (.inr (.inr (va_cpy g (fun _ => none) 0 0 n))))))]) [0, 1, 2] rfl
    have hD9 := hD.sub (ws' := [(kl, .inr (6, [.int km, .ref ra_7, .int (nI n)])), (kd, .inl ((D.1 102), n, .inr (.inr (.inr (.inr g))))), (ra_7, .inl ((D.1 102), (n + n / 2), .inr (.inr (.inr (.inr (va_cpy g (fun _ => none) 0 0 n))))))]) [0, 1, 2] (by decide) rfl
    exact W.aret (v := .ref ra_7) hx hb hr (by first | exact Or.inl ⟨_, rfl⟩ | exact Or.inr ⟨_, rfl⟩) (Or.inr ⟨_, rfl⟩) (fun t ht hW => ⟨⟨(), ra_7, rfl, trivial, (by rw [ht]; exact hP9), (hD9)⟩, hS.F ht⟩) hS.2.2 dJx4a65c_grow_d5877_10
  rw [hHe, hLe] at hgoal
  exact hgoal
