theorem gi_F {own : String} {idx : Nat} {C : String} {x y : MethodName} {b : Cond} (h1 : Cond.methodLink own idx x ∈ lwAll) (h3 : Cond.selects C x y ∈ lwAll) (h4 : Cond.instanceMethod y ∈ lwAll) (h5 : Cond.initialized y.cls ∈ lwAll) (h6 : b ∈ lwAll) : GoodIn lwAll (va_wsF own idx C x y (b :: lwAll)) :=
  gi_cons h1 (gi_cons h3 (gi_cons h4 (gi_cons h5 (gi_sub h6))))
theorem emp_nz {n : Nat} (hn : n ≤ 100000) (h : F_Jx4a65c_isEmpty_aae02 n = 0) : n ≠ 0 := by
  intro e
  subst e
  exact absurd h (by decide)
theorem nI_ne9 {a b : Nat} (h : a ≠ b) (ha : a ≤ 100000) (hb : b ≤ 100000) : ¬ nI a = nI b := fun e => h (by
  have h3 := congrArg Int32.toInt e
  rw [nI_toInt (by omega), nI_toInt (by omega)] at h3
  omega)
theorem vo_lo {v : Nat} (h : v ≤ 100000) : ¬ nI v < (-128) := fun h2 => by
  rw [Int32.lt_iff_toInt_lt, nI_toInt (by omega)] at h2
  have h3 : (-128 : Int32).toInt = -128 := by decide
  rw [h3] at h2
  omega
theorem vo_hi {v : Nat} (h : v ≤ 127) : ¬ (127 : Int32) < nI v := fun h2 => by
  rw [Int32.lt_iff_toInt_lt, nI_toInt (by omega)] at h2
  have h3 : (127 : Int32).toInt = 127 := by decide
  rw [h3] at h2
  omega
theorem vo_ix {v : Nat} (h : v ≤ 127) : (nI v + 128).toNatClampNeg = v + 128 := by
  rw [show nI v + 128 = nI (v + 128) from nI_add v 128, nI_clamp (by omega)]
theorem vo_in {v : Nat} (h : v ≤ 127) : vp_in (nI v + 128) 256 := by
  rw [show nI v + 128 = nI (v + 128) from nI_add v 128]
  exact vp_in_nI (by omega) (by omega)


set_option maxHeartbeats 4000000 in
set_option maxRecDepth 100000 in
theorem c_Jx35411_init_45d68 (l : Launch) (D : va_G) (it : Nat) (cu : Int32) (lr : Int32) (em : Int32) (kl : Nat) (km : Int32) (kd : Nat) (n : Nat) (sz : Nat)  : Met l yJx35411_init_45d68 (Cond.code yJx35411_init_45d68 cJx35411_init_45d68 2 none :: lwAll) ({ frames := 1, cells := 0, slots := 0, locals := 12 } : Room) (va_Pc [.ref it, .ref kl] (cPre D (lwTY D) [(it, .inr (5, [.int cu, .int lr, .int em, .null])), (kl, .inr (6, [.int km, .ref kd, .int (nI n)]))] sz)) (va_Qv (fun (_ : Unit) => True) (fun (_ : Unit) t => va_P D vwCl [(it, .inr (5, [.int cu, .int (-1), .int km, .ref kl])), (kl, .inr (6, [.int km, .ref kd, .int (nI n)]))] t.heap ∧ va_D (va_A [(it, .inr (5, [.int cu, .int lr, .int em, .null])), (kl, .inr (6, [.int km, .ref kd, .int (nI n)]))] sz) [(it, .inr (5, [.int cu, .int (-1), .int km, .ref kl])), (kl, .inr (6, [.int km, .ref kd, .int (nI n)]))]) (va_A [(it, .inr (5, [.int cu, .int lr, .int em, .null])), (kl, .inr (6, [.int km, .ref kd, .int (nI n)]))] sz)) 0 0 (va_A [(it, .inr (5, [.int cu, .int lr, .int em, .null])), (kl, .inr (6, [.int km, .ref kd, .int (nI n)]))] sz) := by
  refine Met.ofW (cc := cJx35411_init_45d68) (maxL := 2) (ret := none) (by decide) rfl ?_
  intro p e s m args below meth c s₁ B hml hv
  obtain ⟨rfl, hsz, hP, hK, hD0, hN, hZ⟩ := hv
  have hx := B.exec
  have hb := B.bytes
  have hr := B.returns
  have hts : ∀ wd ∈ lwAll, wd.before ([.ref it, .ref kl] : List Value).toArray s = true := fun wd h => atoms_spec (ws := (Cond.code yJx35411_init_45d68 cJx35411_init_45d68 2 none :: lwAll)) B.pre wd (List.mem_cons_of_mem _ h)
  have hown : s.vm.findClass RJx35411 = some m.cls := findClass_of_methodNamed B.named
  have hlocks := B.notSynchronized
  have hin : meth.name = "<init>" := (name_of_methodNamed B.named B.method).1
  subst hsz
  have hD := hD0.self (sz := s.heap.size)
  have hl := lv_entry ([.ref it, .ref kl]) (n := 2) (Nat.le_of_ble_eq_true rfl)
  rw [lg_entry_eq]
  generalize (lg_sl ([.ref it, .ref kl]) ++ List.replicate (2 - (lg_sl ([.ref it, .ref kl])).length) Slot.unset).toArray = ls at hl ⊢
  have hl : lv_has ls 2 [(0, .ref it), (1, .ref kl)] := hl
  have hS : va_S (va_A [(it, .inr (5, [.int cu, .int lr, .int em, .null])), (kl, .inr (6, [.int km, .ref kd, .int (nI n)]))] s.heap.size) s.heap s.heap [] := va_S.rf
  generalize hQe : MQ below (va_Qv (fun (_ : Unit) => True) (fun (_ : Unit) t => va_P D vwCl [(it, .inr (5, [.int cu, .int (-1), .int km, .ref kl])), (kl, .inr (6, [.int km, .ref kd, .int (nI n)]))] t.heap ∧ va_D (va_A [(it, .inr (5, [.int cu, .int lr, .int em, .null])), (kl, .inr (6, [.int km, .ref kd, .int (nI n)]))] s.heap.size) [(it, .inr (5, [.int cu, .int (-1), .int km, .ref kl])), (kl, .inr (6, [.int km, .ref kd, .int (nI n)]))]) (va_A [(it, .inr (5, [.int cu, .int lr, .int em, .null])), (kl, .inr (6, [.int km, .ref kd, .int (nI n)]))] s.heap.size)) ([.ref it, .ref kl] : List Value).toArray s 0 0 (va_A [(it, .inr (5, [.int cu, .int lr, .int em, .null])), (kl, .inr (6, [.int km, .ref kd, .int (nI n)]))] s.heap.size) = Q
  have hP : va_P D vwCl [(it, .inr (5, [.int cu, .int lr, .int em, .null])), (kl, .inr (6, [.int km, .ref kd, .int (nI n)]))] s.heap := hP
  obtain ⟨A, hAe⟩ : ∃ A, A = va_A [(it, .inr (5, [.int cu, .int lr, .int em, .null])), (kl, .inr (6, [.int km, .ref kd, .int (nI n)]))] s.heap.size := ⟨_, rfl⟩
  rw [← hAe] at hD hZ hS
  have hA : ∀ q : Nat, s.heap.size ≤ q → A q := fun q h => by rw [hAe]; exact Or.inr h
  obtain ⟨H, hHe⟩ : ∃ H, H = s.heap := ⟨_, rfl⟩
  obtain ⟨locs, hLe⟩ : ∃ L : List Loc, L = [] := ⟨_, rfl⟩
  have hP : va_P D vwCl [(it, .inr (5, [.int cu, .int lr, .int em, .null])), (kl, .inr (6, [.int km, .ref kd, .int (nI n)]))] H := by rw [hHe]; exact hP
  have hS : va_S A s.heap H locs := by rw [hHe, hLe]; exact hS
  have hgoal : W p l e ({ frames := 1, cells := 0, slots := 0, locals := 12 } : Room) s m ([.ref it, .ref kl] : List Value).toArray below meth c H locs 0 0 Q (F0 m 0 ls []) := by
    clear hHe hLe
    refine lv_aload_n hx hb dJx35411_init_45d68_0 rfl (lv_at hl 0 rfl) ?_
    refine lv_aload_n hx hb dJx35411_init_45d68_1 rfl (lv_at hl 1 rfl) ?_
    refine va_putF (D := D) (ci := 5) (v := .ref kl) (ty := (.object "java/util/ArrayList")) (C := RJx35411) (T := TJx35411) (N := 4) hx hb hts in_Jx35411 tyJx35411 tyJx35411_ok nmJx35411 hown hK hP hD hS 0 rfl rfl 3 (by decide) (hts _ q_1449) (fun _ h9 => h9) rfl hin rfl (by decide +kernel) rfl rfl (Nat.le_of_ble_eq_true rfl) dJx35411_init_45d68_2 (fun H locs hP hD hS => ?_)
    have hP : va_P D vwCl [(it, .inr (5, [.int cu, .int lr, .int em, .ref kl])), (kl, .inr (6, [.int km, .ref kd, .int (nI n)]))] H := hP
    have hD : va_D A [(it, .inr (5, [.int cu, .int lr, .int em, .ref kl])), (kl, .inr (6, [.int km, .ref kd, .int (nI n)]))] := hD
    refine lv_aload_n hx hb dJx35411_init_45d68_5 rfl (lv_at hl 0 rfl) ?_
    refine W.objInit hx hb hown (hts _ q_1445) (hts _ q_120) (hts _ q_121) rfl (by rw [hml]; exact hl.1) rfl dJx35411_init_45d68_6 (Nat.le_of_ble_eq_true rfl) (Nat.le_of_ble_eq_true rfl) ?_
    refine W.eq (g2 := F0 m 9 ls []) rfl ?_
    refine lv_aload_n hx hb dJx35411_init_45d68_9 rfl (lv_at hl 0 rfl) ?_
    refine lv_iconst (v := (-1)) hx hb dJx35411_init_45d68_10 (by decide) ?_
    refine va_put (D := D) (ci := 5) (v := .int (-1)) (ty := .int) (C := RJx35411) (T := TJx35411) (N := 4) hx hb hts in_Jx35411 tyJx35411 tyJx35411_ok nmJx35411 hown hK hP hD hS 0 rfl rfl 1 (by decide) (hts _ q_1447) (fun _ h9 => h9) rfl (by decide +kernel) rfl rfl (Nat.le_of_ble_eq_true rfl) dJx35411_init_45d68_11 (fun H locs hP hD hS => ?_)
    have hP : va_P D vwCl [(it, .inr (5, [.int cu, .int (-1), .int em, .ref kl])), (kl, .inr (6, [.int km, .ref kd, .int (nI n)]))] H := hP
    have hD : va_D A [(it, .inr (5, [.int cu, .int (-1), .int em, .ref kl])), (kl, .inr (6, [.int km, .ref kd, .int (nI n)]))] := hD
    refine lv_aload_n hx hb dJx35411_init_45d68_14 rfl (lv_at hl 0 rfl) ?_
    refine lv_aload_n hx hb dJx35411_init_45d68_15 rfl (lv_at hl 0 rfl) ?_
    refine va_get (D := D) (ci := 5) (v := .ref kl) (C := RJx35411) (T := TJx35411) (N := 4) hx hb hts in_Jx35411 hown hK hP 0 rfl rfl 3 (by decide) (hts _ q_1449) (fun _ h9 => h9) rfl dJx35411_init_45d68_16 ?_
    refine va_get (D := D) (ci := 6) (v := .int km) (C := RJx4a65c) (T := TJx4a65c) (N := 3) hx hb hts in_Jx4a65c hown hK hP 1 rfl rfl 0 (by decide) (hts _ q_1156) (fun x9 h9 => u_same (hts _ q_1157) x9 h9) rfl dJx35411_init_45d68_19 ?_
    refine va_put (D := D) (ci := 5) (v := .int km) (ty := .int) (C := RJx35411) (T := TJx35411) (N := 4) hx hb hts in_Jx35411 tyJx35411 tyJx35411_ok nmJx35411 hown hK hP hD hS 0 rfl rfl 2 (by decide) (hts _ q_1448) (fun _ h9 => h9) rfl (by decide +kernel) rfl rfl (Nat.le_of_ble_eq_true rfl) dJx35411_init_45d68_22 (fun H locs hP hD hS => ?_)
    have hP : va_P D vwCl [(it, .inr (5, [.int cu, .int (-1), .int km, .ref kl])), (kl, .inr (6, [.int km, .ref kd, .int (nI n)]))] H := hP
    have hD : va_D A [(it, .inr (5, [.int cu, .int (-1), .int km, .ref kl])), (kl, .inr (6, [.int km, .ref kd, .int (nI n)]))] := hD
    subst hQe
    subst hAe
    have hP9 := hP.sub (ws' := [(it, .inr (5, [.int cu, .int (-1), .int km, .ref kl])), (kl, .inr (6, [.int km, .ref kd, .int (nI n)]))]) [0, 1] rfl
    have hD9 := hD.sub (ws' := [(it, .inr (5, [.int cu, .int (-1), .int km, .ref kl])), (kl, .inr (6, [.int km, .ref kd, .int (nI n)]))]) [0, 1] (by decide) rfl
    exact W.vret hx hb hr (fun t ht hW => ⟨⟨(), rfl, trivial, (by rw [ht]; exact hP9), (hD9)⟩, hS.F ht⟩) hS.2.2 dJx35411_init_45d68_25
  rw [hHe, hLe] at hgoal
  exact hgoal


set_option maxHeartbeats 4000000 in
set_option maxRecDepth 100000 in
theorem c_Jx4a65c_iterator_32c93 (l : Launch) (D : va_G) (kl : Nat) (km : Int32) (kd : Nat) (n : Nat) (sz : Nat)  : Met l yJx4a65c_iterator_32c93 (Cond.code yJx4a65c_iterator_32c93 cJx4a65c_iterator_32c93 1 (some (.object "java/util/Iterator")) :: lwAll) ({ frames := 2, cells := 1, slots := 4, locals := 33 } : Room) (va_Pc [.ref kl] (cPre D (lwTY D) [(kl, .inr (6, [.int km, .ref kd, .int (nI n)]))] sz)) (va_Qr (fun (_ : Unit) => True) (fun (_ : Unit) (ra : Nat) t => va_P D vwCl [(kl, .inr (6, [.int km, .ref kd, .int (nI n)])), (ra, .inr (5, [.int 0, .int (-1), .int km, .ref kl]))] t.heap ∧ va_D (va_A [(kl, .inr (6, [.int km, .ref kd, .int (nI n)]))] sz) [(kl, .inr (6, [.int km, .ref kd, .int (nI n)])), (ra, .inr (5, [.int 0, .int (-1), .int km, .ref kl]))]) (va_A [(kl, .inr (6, [.int km, .ref kd, .int (nI n)]))] sz)) 1 4 (va_A [(kl, .inr (6, [.int km, .ref kd, .int (nI n)]))] sz) := by
  refine Met.ofW (cc := cJx4a65c_iterator_32c93) (maxL := 1) (ret := (some (.object "java/util/Iterator"))) (by decide) rfl ?_
  intro p e s m args below meth c s₁ B hml hv
  obtain ⟨rfl, hsz, hP, hK, hD0, hN, hZ⟩ := hv
  have hx := B.exec
  have hb := B.bytes
  have hr := B.returns
  have hts : ∀ wd ∈ lwAll, wd.before ([.ref kl] : List Value).toArray s = true := fun wd h => atoms_spec (ws := (Cond.code yJx4a65c_iterator_32c93 cJx4a65c_iterator_32c93 1 (some (.object "java/util/Iterator")) :: lwAll)) B.pre wd (List.mem_cons_of_mem _ h)
  have hown : s.vm.findClass RJx4a65c = some m.cls := findClass_of_methodNamed B.named
  have hlocks := B.notSynchronized
  subst hsz
  have hD := hD0.self (sz := s.heap.size)
  have hl := lv_entry ([.ref kl]) (n := 1) (Nat.le_of_ble_eq_true rfl)
  rw [lg_entry_eq]
  generalize (lg_sl ([.ref kl]) ++ List.replicate (1 - (lg_sl ([.ref kl])).length) Slot.unset).toArray = ls at hl ⊢
  have hl : lv_has ls 1 [(0, .ref kl)] := hl
  have hS : va_S (va_A [(kl, .inr (6, [.int km, .ref kd, .int (nI n)]))] s.heap.size) s.heap s.heap [] := va_S.rf
  generalize hQe : MQ below (va_Qr (fun (_ : Unit) => True) (fun (_ : Unit) (ra : Nat) t => va_P D vwCl [(kl, .inr (6, [.int km, .ref kd, .int (nI n)])), (ra, .inr (5, [.int 0, .int (-1), .int km, .ref kl]))] t.heap ∧ va_D (va_A [(kl, .inr (6, [.int km, .ref kd, .int (nI n)]))] s.heap.size) [(kl, .inr (6, [.int km, .ref kd, .int (nI n)])), (ra, .inr (5, [.int 0, .int (-1), .int km, .ref kl]))]) (va_A [(kl, .inr (6, [.int km, .ref kd, .int (nI n)]))] s.heap.size)) ([.ref kl] : List Value).toArray s 1 4 (va_A [(kl, .inr (6, [.int km, .ref kd, .int (nI n)]))] s.heap.size) = Q
  have hP : va_P D vwCl [(kl, .inr (6, [.int km, .ref kd, .int (nI n)]))] s.heap := hP
  obtain ⟨A, hAe⟩ : ∃ A, A = va_A [(kl, .inr (6, [.int km, .ref kd, .int (nI n)]))] s.heap.size := ⟨_, rfl⟩
  rw [← hAe] at hD hZ hS
  have hA : ∀ q : Nat, s.heap.size ≤ q → A q := fun q h => by rw [hAe]; exact Or.inr h
  obtain ⟨H, hHe⟩ : ∃ H, H = s.heap := ⟨_, rfl⟩
  obtain ⟨locs, hLe⟩ : ∃ L : List Loc, L = [] := ⟨_, rfl⟩
  have hP : va_P D vwCl [(kl, .inr (6, [.int km, .ref kd, .int (nI n)]))] H := by rw [hHe]; exact hP
  have hS : va_S A s.heap H locs := by rw [hHe, hLe]; exact hS
  have hgoal : W p l e ({ frames := 2, cells := 1, slots := 4, locals := 33 } : Room) s m ([.ref kl] : List Value).toArray below meth c H locs 0 0 Q (F0 m 0 ls []) := by
    clear hHe hLe
    refine va_new (ci := 5) (fs := [.int 0, .int 0, .int 0, .null]) (C := RJx35411) (T := TJx35411) (N := 4) hx hb hts in_Jx35411 tyJx35411 tyJx35411_ok hown (hts _ q_1440) (hts _ q_1441) (hts _ q_112) hK hP hD hS hA rfl (fun j hj => by rcases (show j = 0 ∨ j = 1 ∨ j = 2 ∨ j = 3 by omega) with rfl | rfl | rfl | rfl <;> rfl) (show 0 + 1 ≤ 1 from (by omega)) (show 0 + 4 ≤ 4 from (by omega)) dJx4a65c_iterator_32c93_0 (fun o_0 H hP hD hS => ?_)
    have hP : va_P D vwCl [(kl, .inr (6, [.int km, .ref kd, .int (nI n)])), (o_0, .inr (5, [.int 0, .int 0, .int 0, .null]))] H := hP
    have hD : va_D A [(kl, .inr (6, [.int km, .ref kd, .int (nI n)])), (o_0, .inr (5, [.int 0, .int 0, .int 0, .null]))] := hD
    refine lv_dup hx hb dJx4a65c_iterator_32c93_3 rfl ?_
    refine lv_aload_n hx hb dJx4a65c_iterator_32c93_4 rfl (lv_at hl 0 rfl) ?_
    have hPc := hP.sub (ws' := [(o_0, .inr (5, [.int 0, .int 0, .int 0, .null])), (kl, .inr (6, [.int km, .ref kd, .int (nI n)]))]) [1, 0] rfl
    have hDc := hD.sub (ws' := [(o_0, .inr (5, [.int 0, .int 0, .int 0, .null])), (kl, .inr (6, [.int km, .ref kd, .int (nI n)]))]) [1, 0] (by decide) rfl
    have hFc := va_free (wc := [(o_0, .inr (5, [.int 0, .int 0, .int 0, .null])), (kl, .inr (6, [.int km, .ref kd, .int (nI n)]))]) hD hS hA [1, 0] rfl
    refine va_callv (va_runI (As := [.ref kl]) (rest := [.ref o_0]) ⟨hx, hb, hml, hown, hts⟩ (c_Jx35411_init_45d68 l D o_0 0 0 0 kl km kd n H.size ) ⟨callB_of 1 hts (gi_sub q_1444) rfl rfl rfl (hts _ q_112) (hts _ q_1442) (by decide +kernel) ⟨Nat.le_of_ble_eq_true rfl, Nat.le_of_ble_eq_true rfl⟩, rfl, (hts _ q_1443)⟩ ⟨cPre_blind, cPre_mk hPc hK hDc hN (lwZ_for hZ hS hFc)⟩ rfl rfl hl.1 rfl (lv_room (Nat.le_of_ble_eq_true rfl)) dJx4a65c_iterator_32c93_5 ⟨(show (0 + 1) + 0 ≤ 1 from (by omega)), (show (0 + 4) + 0 ≤ 4 from (by omega))⟩) hS (fun q _ h => hFc q h) hFc (fun u t H1 locs ht hvm hw hBk hz1 hk1 hS => ?_)
    obtain ⟨hP1, hD1⟩ := hBk
    rw [ht] at hP1
    obtain ⟨hP, hD⟩ := va_join (wr := []) (w1 := [(o_0, .inr (5, [.int 0, .int (-1), .int km, .ref kl])), (kl, .inr (6, [.int km, .ref kd, .int (nI n)]))]) hP hD [1, 0] [] rfl rfl (by decide) (by decide) hk1 hFc hP1 hD1
    clear hPc hDc hFc hP1 hD1 hk1 hz1
    clear hvm ht u; clear t
    generalize H1 = H at hP hS ⊢
    have hP : va_P D vwCl [(o_0, .inr (5, [.int 0, .int (-1), .int km, .ref kl])), (kl, .inr (6, [.int km, .ref kd, .int (nI n)]))] H := hP
    have hD : va_D A [(o_0, .inr (5, [.int 0, .int (-1), .int km, .ref kl])), (kl, .inr (6, [.int km, .ref kd, .int (nI n)]))] := hD
    subst hQe
    subst hAe
    refine W.widen (k := 1) (n := 4) (by omega) (by omega) ?_
    have hP9 := hP.sub (ws' := [(kl, .inr (6, [.int km, .ref kd, .int (nI n)])), (o_0, .inr (5, [.int 0, .int (-1), .int km, .ref kl]))]) [1, 0] rfl
    have hD9 := hD.sub (ws' := [(kl, .inr (6, [.int km, .ref kd, .int (nI n)])), (o_0, .inr (5, [.int 0, .int (-1), .int km, .ref kl]))]) [1, 0] (by decide) rfl
    exact W.aret (v := .ref o_0) hx hb hr (by first | exact Or.inl ⟨_, rfl⟩ | exact Or.inr ⟨_, rfl⟩) (Or.inr ⟨_, rfl⟩) (fun t ht hW => ⟨⟨(), o_0, rfl, trivial, (by rw [ht]; exact hP9), (hD9)⟩, hS.F ht⟩) hS.2.2 dJx4a65c_iterator_32c93_8
  rw [hHe, hLe] at hgoal
  exact hgoal

def F_Jx35411_hasNext_aae02 (ci : Nat) (n : Nat) : Int32 := (if (nI ci) = (nI n) then 0 else 1)
set_option maxHeartbeats 4000000 in
set_option maxRecDepth 100000 in
theorem c_Jx35411_hasNext_aae02 (l : Launch) (D : va_G) (it : Nat) (ci : Nat) (lr : Int32) (kl : Nat) (km : Int32) (kd : Nat) (n : Nat) (sz : Nat)  : Met l yJx35411_hasNext_aae02 (Cond.code yJx35411_hasNext_aae02 cJx35411_hasNext_aae02 1 (some .boolean) :: lwAll) ({ frames := 0, cells := 0, slots := 0, locals := 0 } : Room) (va_Pc [.ref it] (cPre D (lwTY D) [(it, .inr (5, [.int (nI ci), .int lr, .int km, .ref kl])), (kl, .inr (6, [.int km, .ref kd, .int (nI n)]))] sz)) (va_Qi (fun (r : Int32) (_ : Unit) => r = (F_Jx35411_hasNext_aae02 ci n) ∧ (r = 0 ∨ r = 1)) (fun _ _ => True) (fun q : Nat => sz ≤ q)) 0 0 (fun q : Nat => sz ≤ q) := by
  refine Met.ofW (cc := cJx35411_hasNext_aae02) (maxL := 1) (ret := (some .boolean)) (by decide) rfl ?_
  intro p e s m args below meth c s₁ B hml hv
  obtain ⟨rfl, hsz, hP, hK, hD0, hN, hZ⟩ := hv
  have hx := B.exec
  have hb := B.bytes
  have hr := B.returns
  have hts : ∀ wd ∈ lwAll, wd.before ([.ref it] : List Value).toArray s = true := fun wd h => atoms_spec (ws := (Cond.code yJx35411_hasNext_aae02 cJx35411_hasNext_aae02 1 (some .boolean) :: lwAll)) B.pre wd (List.mem_cons_of_mem _ h)
  have hown : s.vm.findClass RJx35411 = some m.cls := findClass_of_methodNamed B.named
  have hlocks := B.notSynchronized
  subst hsz
  have hD := hD0.self (sz := s.heap.size)
  have hl := lv_entry ([.ref it]) (n := 1) (Nat.le_of_ble_eq_true rfl)
  rw [lg_entry_eq]
  generalize (lg_sl ([.ref it]) ++ List.replicate (1 - (lg_sl ([.ref it])).length) Slot.unset).toArray = ls at hl ⊢
  have hl : lv_has ls 1 [(0, .ref it)] := hl
  have hS : va_S (fun q : Nat => s.heap.size ≤ q) s.heap s.heap [] := va_S.rf
  generalize hQe : MQ below (va_Qi (fun (r : Int32) (_ : Unit) => r = (F_Jx35411_hasNext_aae02 ci n) ∧ (r = 0 ∨ r = 1)) (fun _ _ => True) (fun q : Nat => s.heap.size ≤ q)) ([.ref it] : List Value).toArray s 0 0 (fun q : Nat => s.heap.size ≤ q) = Q
  have hP : va_P D vwCl [(it, .inr (5, [.int (nI ci), .int lr, .int km, .ref kl])), (kl, .inr (6, [.int km, .ref kd, .int (nI n)]))] s.heap := hP
  obtain ⟨A, hAe⟩ : ∃ A, A = va_A [(it, .inr (5, [.int (nI ci), .int lr, .int km, .ref kl])), (kl, .inr (6, [.int km, .ref kd, .int (nI n)]))] s.heap.size := ⟨_, rfl⟩
  rw [← hAe] at hD hZ
  have hA : ∀ q : Nat, s.heap.size ≤ q → A q := fun q h => by rw [hAe]; exact Or.inr h
  obtain ⟨H, hHe⟩ : ∃ H, H = s.heap := ⟨_, rfl⟩
  obtain ⟨locs, hLe⟩ : ∃ L : List Loc, L = [] := ⟨_, rfl⟩
  have hP : va_P D vwCl [(it, .inr (5, [.int (nI ci), .int lr, .int km, .ref kl])), (kl, .inr (6, [.int km, .ref kd, .int (nI n)]))] H := by rw [hHe]; exact hP
  have hS : va_S (fun q : Nat => s.heap.size ≤ q) s.heap H locs := by rw [hHe, hLe]; exact hS
  have hgoal : W p l e ({ frames := 0, cells := 0, slots := 0, locals := 0 } : Room) s m ([.ref it] : List Value).toArray below meth c H locs 0 0 Q (F0 m 0 ls []) := by
    clear hHe hLe
    refine lv_aload_n hx hb dJx35411_hasNext_aae02_0 rfl (lv_at hl 0 rfl) ?_
    refine va_get (D := D) (ci := 5) (v := .int (nI ci)) (C := RJx35411) (T := TJx35411) (N := 4) hx hb hts in_Jx35411 hown hK hP 0 rfl rfl 0 (by decide) (hts _ q_1446) (fun _ h9 => h9) rfl dJx35411_hasNext_aae02_1 ?_
    refine lv_aload_n hx hb dJx35411_hasNext_aae02_4 rfl (lv_at hl 0 rfl) ?_
    refine va_get (D := D) (ci := 5) (v := .ref kl) (C := RJx35411) (T := TJx35411) (N := 4) hx hb hts in_Jx35411 hown hK hP 0 rfl rfl 3 (by decide) (hts _ q_1449) (fun _ h9 => h9) rfl dJx35411_hasNext_aae02_5 ?_
    refine va_getN (D := D) (ci := 6) (v := .int (nI n)) (C := RJx4a65c) (T := TJx4a65c) (N := 3) hx hb hts in_Jx4a65c hown hK hP 1 rfl rfl 2 (by decide) (va_Nw.use rfl (hN.1 _ n_1153)) (fun _ h9 => h9) rfl dJx35411_hasNext_aae02_8 ?_
    refine lv_icmp_eq (tgt := 18) hx hb dJx35411_hasNext_aae02_11 (by decide) (fun c_1 => ?_) (fun c_1 => ?_)
    · refine lv_iconst (v := 0) hx hb dJx35411_hasNext_aae02_18 (by decide) ?_
      subst hQe
      exact W.zret (ty := .boolean) (v := 0) hx hb hr (zb_narrow zb_0) (fun t ht hW => ⟨⟨0, (), rfl, ⟨(by unfold F_Jx35411_hasNext_aae02; rw [if_pos c_1]), zb_0⟩, trivial⟩, hS.F ht⟩) hS.2.2 dJx35411_hasNext_aae02_19
    · refine lv_iconst (v := 1) hx hb dJx35411_hasNext_aae02_14 (by decide) ?_
      refine lv_goto (tgt := 19) hx hb dJx35411_hasNext_aae02_15 (by decide) ?_
      subst hQe
      exact W.zret (ty := .boolean) (v := 1) hx hb hr (zb_narrow zb_1) (fun t ht hW => ⟨⟨1, (), rfl, ⟨(by unfold F_Jx35411_hasNext_aae02; rw [if_neg c_1]), zb_1⟩, trivial⟩, hS.F ht⟩) hS.2.2 dJx35411_hasNext_aae02_19
  rw [hHe, hLe] at hgoal
  exact hgoal


set_option maxHeartbeats 4000000 in
set_option maxRecDepth 100000 in
theorem c_Jx35411_checkForComodification_da8c8 (l : Launch) (D : va_G) (it : Nat) (ci : Nat) (lr : Int32) (kl : Nat) (km : Int32) (kd : Nat) (n : Nat) (sz : Nat)  : Met l yJx35411_checkForComodification_da8c8 (Cond.code yJx35411_checkForComodification_da8c8 cJx35411_checkForComodification_da8c8 1 none :: lwAll) ({ frames := 0, cells := 0, slots := 0, locals := 0 } : Room) (va_Pc [.ref it] (cPre D (lwTY D) [(it, .inr (5, [.int (nI ci), .int lr, .int km, .ref kl])), (kl, .inr (6, [.int km, .ref kd, .int (nI n)]))] sz)) (va_Qv (fun (_ : Unit) => True) (fun _ _ => True) (fun q : Nat => sz ≤ q)) 0 0 (fun q : Nat => sz ≤ q) := by
  refine Met.ofW (cc := cJx35411_checkForComodification_da8c8) (maxL := 1) (ret := none) (by decide) rfl ?_
  intro p e s m args below meth c s₁ B hml hv
  obtain ⟨rfl, hsz, hP, hK, hD0, hN, hZ⟩ := hv
  have hx := B.exec
  have hb := B.bytes
  have hr := B.returns
  have hts : ∀ wd ∈ lwAll, wd.before ([.ref it] : List Value).toArray s = true := fun wd h => atoms_spec (ws := (Cond.code yJx35411_checkForComodification_da8c8 cJx35411_checkForComodification_da8c8 1 none :: lwAll)) B.pre wd (List.mem_cons_of_mem _ h)
  have hown : s.vm.findClass RJx35411 = some m.cls := findClass_of_methodNamed B.named
  have hlocks := B.notSynchronized
  subst hsz
  have hD := hD0.self (sz := s.heap.size)
  have hl := lv_entry ([.ref it]) (n := 1) (Nat.le_of_ble_eq_true rfl)
  rw [lg_entry_eq]
  generalize (lg_sl ([.ref it]) ++ List.replicate (1 - (lg_sl ([.ref it])).length) Slot.unset).toArray = ls at hl ⊢
  have hl : lv_has ls 1 [(0, .ref it)] := hl
  have hS : va_S (fun q : Nat => s.heap.size ≤ q) s.heap s.heap [] := va_S.rf
  generalize hQe : MQ below (va_Qv (fun (_ : Unit) => True) (fun _ _ => True) (fun q : Nat => s.heap.size ≤ q)) ([.ref it] : List Value).toArray s 0 0 (fun q : Nat => s.heap.size ≤ q) = Q
  have hP : va_P D vwCl [(it, .inr (5, [.int (nI ci), .int lr, .int km, .ref kl])), (kl, .inr (6, [.int km, .ref kd, .int (nI n)]))] s.heap := hP
  obtain ⟨A, hAe⟩ : ∃ A, A = va_A [(it, .inr (5, [.int (nI ci), .int lr, .int km, .ref kl])), (kl, .inr (6, [.int km, .ref kd, .int (nI n)]))] s.heap.size := ⟨_, rfl⟩
  rw [← hAe] at hD hZ
  have hA : ∀ q : Nat, s.heap.size ≤ q → A q := fun q h => by rw [hAe]; exact Or.inr h
  obtain ⟨H, hHe⟩ : ∃ H, H = s.heap := ⟨_, rfl⟩
  obtain ⟨locs, hLe⟩ : ∃ L : List Loc, L = [] := ⟨_, rfl⟩
  have hP : va_P D vwCl [(it, .inr (5, [.int (nI ci), .int lr, .int km, .ref kl])), (kl, .inr (6, [.int km, .ref kd, .int (nI n)]))] H := by rw [hHe]; exact hP
  have hS : va_S (fun q : Nat => s.heap.size ≤ q) s.heap H locs := by rw [hHe, hLe]; exact hS
  have hgoal : W p l e ({ frames := 0, cells := 0, slots := 0, locals := 0 } : Room) s m ([.ref it] : List Value).toArray below meth c H locs 0 0 Q (F0 m 0 ls []) := by
    clear hHe hLe
    refine lv_aload_n hx hb dJx35411_checkForComodification_da8c8_0 rfl (lv_at hl 0 rfl) ?_
    refine va_get (D := D) (ci := 5) (v := .ref kl) (C := RJx35411) (T := TJx35411) (N := 4) hx hb hts in_Jx35411 hown hK hP 0 rfl rfl 3 (by decide) (hts _ q_1449) (fun _ h9 => h9) rfl dJx35411_checkForComodification_da8c8_1 ?_
    refine va_get (D := D) (ci := 6) (v := .int km) (C := RJx4a65c) (T := TJx4a65c) (N := 3) hx hb hts in_Jx4a65c hown hK hP 1 rfl rfl 0 (by decide) (hts _ q_1156) (fun x9 h9 => u_same (hts _ q_1157) x9 h9) rfl dJx35411_checkForComodification_da8c8_4 ?_
    refine lv_aload_n hx hb dJx35411_checkForComodification_da8c8_7 rfl (lv_at hl 0 rfl) ?_
    refine va_get (D := D) (ci := 5) (v := .int km) (C := RJx35411) (T := TJx35411) (N := 4) hx hb hts in_Jx35411 hown hK hP 0 rfl rfl 2 (by decide) (hts _ q_1448) (fun _ h9 => h9) rfl dJx35411_checkForComodification_da8c8_8 ?_
    refine lv_icmp_eq (tgt := 22) hx hb dJx35411_checkForComodification_da8c8_11 (by decide) (fun c_1 => ?_) (fun c_1 => ?_)
    · subst hQe
      exact W.vret hx hb hr (fun t ht hW => ⟨⟨(), rfl, trivial, trivial⟩, hS.F ht⟩) hS.2.2 dJx35411_checkForComodification_da8c8_22
    · exact absurd rfl c_1
  rw [hHe, hLe] at hgoal
  exact hgoal


set_option maxHeartbeats 4000000 in
set_option maxRecDepth 100000 in
theorem c_Jx35411_next_0502b (l : Launch) (D : va_G) (it : Nat) (ci : Nat) (lr : Int32) (kl : Nat) (km : Int32) (kd : Nat) (n : Nat) (cap : Nat) (g : Nat → Option Nat) (y : Nat) (sz : Nat) (hc : ci < n) (hn : n ≤ cap) (hcb : cap ≤ 100000) (hy : g ci = some y) : Met l yJx35411_next_0502b (Cond.code yJx35411_next_0502b cJx35411_next_0502b 3 (some (.object "java/lang/Object")) :: lwAll) ({ frames := 1, cells := 0, slots := 0, locals := 20 } : Room) (va_Pc [.ref it] (rPre D (lwTY2 D) [(it, .inr (5, [.int (nI ci), .int lr, .int km, .ref kl])), (kl, .inr (6, [.int km, .ref kd, .int (nI n)])), (kd, .inl ((D.1 102), cap, .inr (.inr (.inr (.inr g)))))] sz)) (va_Qr (fun (_ : Unit) => True) (fun (_ : Unit) (ra : Nat) t => ra = y ∧ va_P D vwCl [(it, .inr (5, [.int (nI (ci + 1)), .int (nI ci), .int km, .ref kl])), (kl, .inr (6, [.int km, .ref kd, .int (nI n)])), (kd, .inl ((D.1 102), cap, .inr (.inr (.inr (.inr g)))))] t.heap ∧ va_D (va_A [(it, .inr (5, [.int (nI ci), .int lr, .int km, .ref kl])), (kl, .inr (6, [.int km, .ref kd, .int (nI n)])), (kd, .inl ((D.1 102), cap, .inr (.inr (.inr (.inr g)))))] sz) [(it, .inr (5, [.int (nI (ci + 1)), .int (nI ci), .int km, .ref kl])), (kl, .inr (6, [.int km, .ref kd, .int (nI n)])), (kd, .inl ((D.1 102), cap, .inr (.inr (.inr (.inr g)))))]) (va_A [(it, .inr (5, [.int (nI ci), .int lr, .int km, .ref kl])), (kl, .inr (6, [.int km, .ref kd, .int (nI n)])), (kd, .inl ((D.1 102), cap, .inr (.inr (.inr (.inr g)))))] sz)) 0 0 (va_A [(it, .inr (5, [.int (nI ci), .int lr, .int km, .ref kl])), (kl, .inr (6, [.int km, .ref kd, .int (nI n)])), (kd, .inl ((D.1 102), cap, .inr (.inr (.inr (.inr g)))))] sz) := by
  refine Met.ofW (cc := cJx35411_next_0502b) (maxL := 3) (ret := (some (.object "java/lang/Object"))) (by decide) rfl ?_
  intro p e s m args below meth c s₁ B hml hv
  obtain ⟨rfl, ⟨hsz, hP, hK, hD0, hN, hZ⟩, hI⟩ := hv
  have hx := B.exec
  have hb := B.bytes
  have hr := B.returns
  have hts : ∀ wd ∈ lwAll, wd.before ([.ref it] : List Value).toArray s = true := fun wd h => atoms_spec (ws := (Cond.code yJx35411_next_0502b cJx35411_next_0502b 3 (some (.object "java/lang/Object")) :: lwAll)) B.pre wd (List.mem_cons_of_mem _ h)
  have hown : s.vm.findClass RJx35411 = some m.cls := findClass_of_methodNamed B.named
  have hlocks := B.notSynchronized
  subst hsz
  have hD := hD0.self (sz := s.heap.size)
  have hl := lv_entry ([.ref it]) (n := 3) (Nat.le_of_ble_eq_true rfl)
  rw [lg_entry_eq]
  generalize (lg_sl ([.ref it]) ++ List.replicate (3 - (lg_sl ([.ref it])).length) Slot.unset).toArray = ls at hl ⊢
  have hl : lv_has ls 3 [(0, .ref it)] := hl
  have hS : va_S (va_A [(it, .inr (5, [.int (nI ci), .int lr, .int km, .ref kl])), (kl, .inr (6, [.int km, .ref kd, .int (nI n)])), (kd, .inl ((D.1 102), cap, .inr (.inr (.inr (.inr g)))))] s.heap.size) s.heap s.heap [] := va_S.rf
  generalize hQe : MQ below (va_Qr (fun (_ : Unit) => True) (fun (_ : Unit) (ra : Nat) t => ra = y ∧ va_P D vwCl [(it, .inr (5, [.int (nI (ci + 1)), .int (nI ci), .int km, .ref kl])), (kl, .inr (6, [.int km, .ref kd, .int (nI n)])), (kd, .inl ((D.1 102), cap, .inr (.inr (.inr (.inr g)))))] t.heap ∧ va_D (va_A [(it, .inr (5, [.int (nI ci), .int lr, .int km, .ref kl])), (kl, .inr (6, [.int km, .ref kd, .int (nI n)])), (kd, .inl ((D.1 102), cap, .inr (.inr (.inr (.inr g)))))] s.heap.size) [(it, .inr (5, [.int (nI (ci + 1)), .int (nI ci), .int km, .ref kl])), (kl, .inr (6, [.int km, .ref kd, .int (nI n)])), (kd, .inl ((D.1 102), cap, .inr (.inr (.inr (.inr g)))))]) (va_A [(it, .inr (5, [.int (nI ci), .int lr, .int km, .ref kl])), (kl, .inr (6, [.int km, .ref kd, .int (nI n)])), (kd, .inl ((D.1 102), cap, .inr (.inr (.inr (.inr g)))))] s.heap.size)) ([.ref it] : List Value).toArray s 0 0 (va_A [(it, .inr (5, [.int (nI ci), .int lr, .int km, .ref kl])), (kl, .inr (6, [.int km, .ref kd, .int (nI n)])), (kd, .inl ((D.1 102), cap, .inr (.inr (.inr (.inr g)))))] s.heap.size) = Q
  have hP : va_P D vwCl [(it, .inr (5, [.int (nI ci), .int lr, .int km, .ref kl])), (kl, .inr (6, [.int km, .ref kd, .int (nI n)])), (kd, .inl ((D.1 102), cap, .inr (.inr (.inr (.inr g)))))] s.heap := hP
  obtain ⟨A, hAe⟩ : ∃ A, A = va_A [(it, .inr (5, [.int (nI ci), .int lr, .int km, .ref kl])), (kl, .inr (6, [.int km, .ref kd, .int (nI n)])), (kd, .inl ((D.1 102), cap, .inr (.inr (.inr (.inr g)))))] s.heap.size := ⟨_, rfl⟩
  rw [← hAe] at hD hZ hI hS
  have hA : ∀ q : Nat, s.heap.size ≤ q → A q := fun q h => by rw [hAe]; exact Or.inr h
  obtain ⟨H, hHe⟩ : ∃ H, H = s.heap := ⟨_, rfl⟩
  obtain ⟨locs, hLe⟩ : ∃ L : List Loc, L = [] := ⟨_, rfl⟩
  have hP : va_P D vwCl [(it, .inr (5, [.int (nI ci), .int lr, .int km, .ref kl])), (kl, .inr (6, [.int km, .ref kd, .int (nI n)])), (kd, .inl ((D.1 102), cap, .inr (.inr (.inr (.inr g)))))] H := by rw [hHe]; exact hP
  have hS : va_S A s.heap H locs := by rw [hHe, hLe]; exact hS
  have hgoal : W p l e ({ frames := 1, cells := 0, slots := 0, locals := 20 } : Room) s m ([.ref it] : List Value).toArray below meth c H locs 0 0 Q (F0 m 0 ls []) := by
    clear hHe hLe
    refine lv_aload_n hx hb dJx35411_next_0502b_0 rfl (lv_at hl 0 rfl) ?_
    have hPc := hP.sub (ws' := [(it, .inr (5, [.int (nI ci), .int lr, .int km, .ref kl])), (kl, .inr (6, [.int km, .ref kd, .int (nI n)]))]) [0, 1] rfl
    have hDc := hD.sub (ws' := [(it, .inr (5, [.int (nI ci), .int lr, .int km, .ref kl])), (kl, .inr (6, [.int km, .ref kd, .int (nI n)]))]) [0, 1] (by decide) rfl
    have hFc := va_free (wc := [(it, .inr (5, [.int (nI ci), .int lr, .int km, .ref kl])), (kl, .inr (6, [.int km, .ref kd, .int (nI n)]))]) hD hS hA [0, 1] rfl
    refine va_callv (va_runV (As := []) (rest := []) ⟨hx, hb, hml, hown, hts⟩ (c_Jx35411_checkForComodification_da8c8 l D it ci lr kl km kd n H.size ) (cwV 0 hts (gi_V q_1478 q_1479 q_1480 q_112 q_1481) rfl rfl rfl (by decide +kernel) ⟨Nat.le_of_ble_eq_true rfl, Nat.le_of_ble_eq_true rfl⟩) ⟨cPre_blind, va_recv hK hP (ci := 5) (q0 := 0) rfl rfl, cPre_mk hPc (hK.sub [0, 1] rfl) hDc hN (lwZ_for hZ hS hFc)⟩ rfl rfl hl.1 rfl (lv_room (Nat.le_of_ble_eq_true rfl)) dJx35411_next_0502b_1 ⟨(Nat.le_of_ble_eq_true rfl), (Nat.le_of_ble_eq_true rfl)⟩) hS (fun q h1 h2 => absurd h2 (Nat.not_le.mpr h1)) (fun q h => hA q (Nat.le_trans hS.1 h)) (fun u t H1 locs ht hvm hw hBk hz1 hk1 hS => ?_)
    have hP := va_P_ro hP hk1
    clear hBk hvm ht u hz1 hk1
    clear hPc hDc hFc; clear t
    generalize H1 = H at hP hS ⊢
    refine lv_aload_n hx hb dJx35411_next_0502b_4 rfl (lv_at hl 0 rfl) ?_
    refine va_get (D := D) (ci := 5) (v := .int (nI ci)) (C := RJx35411) (T := TJx35411) (N := 4) hx hb hts in_Jx35411 hown hK hP 0 rfl rfl 0 (by decide) (hts _ q_1446) (fun _ h9 => h9) rfl dJx35411_next_0502b_5 ?_
    refine lv_istore_n (lv' := [(1, .int (nI ci)), (0, .ref it)]) hx hb dJx35411_next_0502b_8 rfl hl (by decide) rfl (fun ls hl => ?_)
    refine lv_iload_n hx hb dJx35411_next_0502b_9 rfl (lv_at hl 0 rfl) ?_
    refine lv_aload_n hx hb dJx35411_next_0502b_10 rfl (lv_at hl 1 rfl) ?_
    refine va_get (D := D) (ci := 5) (v := .ref kl) (C := RJx35411) (T := TJx35411) (N := 4) hx hb hts in_Jx35411 hown hK hP 0 rfl rfl 3 (by decide) (hts _ q_1449) (fun _ h9 => h9) rfl dJx35411_next_0502b_11 ?_
    refine va_getN (D := D) (ci := 6) (v := .int (nI n)) (C := RJx4a65c) (T := TJx4a65c) (N := 3) hx hb hts in_Jx4a65c hown hK hP 1 rfl rfl 2 (by decide) (va_Nw.use rfl (hN.1 _ n_1153)) (fun _ h9 => h9) rfl dJx35411_next_0502b_14 ?_
    refine lv_icmp_lt (tgt := 28) hx hb dJx35411_next_0502b_17 (by decide) (fun c_1 => ?_) (fun c_1 => ?_)
    · refine lv_aload_n hx hb dJx35411_next_0502b_28 rfl (lv_at hl 1 rfl) ?_
      refine va_get (D := D) (ci := 5) (v := .ref kl) (C := RJx35411) (T := TJx35411) (N := 4) hx hb hts in_Jx35411 hown hK hP 0 rfl rfl 3 (by decide) (hts _ q_1449) (fun _ h9 => h9) rfl dJx35411_next_0502b_29 ?_
      refine va_get (D := D) (ci := 6) (v := .ref kd) (C := RJx4a65c) (T := TJx4a65c) (N := 3) hx hb hts in_Jx4a65c hown hK hP 1 rfl rfl 1 (by decide) (hts _ q_1152) (fun _ h9 => h9) rfl dJx35411_next_0502b_32 ?_
      refine lv_astore_n (lv' := [(2, .ref kd), (1, .int (nI ci)), (0, .ref it)]) hx hb dJx35411_next_0502b_35 rfl hl (by decide) rfl (fun ls hl => ?_)
      refine lv_iload_n hx hb dJx35411_next_0502b_36 rfl (lv_at hl 1 rfl) ?_
      refine lv_aload_n hx hb dJx35411_next_0502b_37 rfl (lv_at hl 0 rfl) ?_
      refine va_alen hx hb hK hP 2 2 rfl rfl (v := nI cap) rfl dJx35411_next_0502b_38 ?_
      refine lv_icmp_lt (tgt := 50) hx hb dJx35411_next_0502b_39 (by decide) (fun c_2 => ?_) (fun c_2 => ?_)
      · refine lv_aload_n hx hb dJx35411_next_0502b_50 rfl (lv_at hl 2 rfl) ?_
        refine lv_iload_n hx hb dJx35411_next_0502b_51 rfl (lv_at hl 1 rfl) ?_
        refine lv_iconst (v := 1) hx hb dJx35411_next_0502b_52 (by decide) ?_
        refine lv_iadd hx hb dJx35411_next_0502b_53 ?_
        rw [show ((nI ci) + 1 : Int32) = nI (ci + 1) from (nI_1 _)]
        refine va_put (D := D) (ci := 5) (v := .int (nI (ci + 1))) (ty := .int) (C := RJx35411) (T := TJx35411) (N := 4) hx hb hts in_Jx35411 tyJx35411 tyJx35411_ok nmJx35411 hown hK hP hD hS 0 rfl rfl 0 (by decide) (hts _ q_1446) (fun _ h9 => h9) rfl (by decide +kernel) rfl rfl (Nat.le_of_ble_eq_true rfl) dJx35411_next_0502b_54 (fun H locs hP hD hS => ?_)
        have hP : va_P D vwCl [(it, .inr (5, [.int (nI (ci + 1)), .int lr, .int km, .ref kl])), (kl, .inr (6, [.int km, .ref kd, .int (nI n)])), (kd, .inl ((D.1 102), cap, .inr (.inr (.inr (.inr g)))))] H := hP
        have hD : va_D A [(it, .inr (5, [.int (nI (ci + 1)), .int lr, .int km, .ref kl])), (kl, .inr (6, [.int km, .ref kd, .int (nI n)])), (kd, .inl ((D.1 102), cap, .inr (.inr (.inr (.inr g)))))] := hD
        refine lv_aload_n hx hb dJx35411_next_0502b_57 rfl (lv_at hl 0 rfl) ?_
        refine lv_aload_n hx hb dJx35411_next_0502b_58 rfl (lv_at hl 2 rfl) ?_
        refine lv_iload_n hx hb dJx35411_next_0502b_59 rfl (lv_at hl 1 rfl) ?_
        refine lv_dup_x1 hx hb dJx35411_next_0502b_60 rfl rfl ?_
        refine va_put (D := D) (ci := 5) (v := .int (nI ci)) (ty := .int) (C := RJx35411) (T := TJx35411) (N := 4) hx hb hts in_Jx35411 tyJx35411 tyJx35411_ok nmJx35411 hown hK hP hD hS 0 rfl rfl 1 (by decide) (hts _ q_1447) (fun _ h9 => h9) rfl (by decide +kernel) rfl rfl (Nat.le_of_ble_eq_true rfl) dJx35411_next_0502b_61 (fun H locs hP hD hS => ?_)
        have hP : va_P D vwCl [(it, .inr (5, [.int (nI (ci + 1)), .int (nI ci), .int km, .ref kl])), (kl, .inr (6, [.int km, .ref kd, .int (nI n)])), (kd, .inl ((D.1 102), cap, .inr (.inr (.inr (.inr g)))))] H := hP
        have hD : va_D A [(it, .inr (5, [.int (nI (ci + 1)), .int (nI ci), .int km, .ref kl])), (kl, .inr (6, [.int km, .ref kd, .int (nI n)])), (kd, .inl ((D.1 102), cap, .inr (.inr (.inr (.inr g)))))] := hD
        refine va_aldq hx hb hK hP 2 2 rfl rfl (vp_in_nI (by omega) (by omega)) dJx35411_next_0502b_64 ?_
        rw [nI_clamp (by omega)]
        rw [show g ci = some y from hy]
        refine W.eq (g2 := F0 m 65 ls [.ref y]) rfl ?_
        subst hQe
        subst hAe
        have hP9 := hP.sub (ws' := [(it, .inr (5, [.int (nI (ci + 1)), .int (nI ci), .int km, .ref kl])), (kl, .inr (6, [.int km, .ref kd, .int (nI n)])), (kd, .inl ((D.1 102), cap, .inr (.inr (.inr (.inr g)))))]) [0, 1, 2] rfl
        have hD9 := hD.sub (ws' := [(it, .inr (5, [.int (nI (ci + 1)), .int (nI ci), .int km, .ref kl])), (kl, .inr (6, [.int km, .ref kd, .int (nI n)])), (kd, .inl ((D.1 102), cap, .inr (.inr (.inr (.inr g)))))]) [0, 1, 2] (by decide) rfl
        exact W.aret (v := .ref y) hx hb hr (by first | exact Or.inl ⟨_, rfl⟩ | exact Or.inr ⟨_, rfl⟩) (Or.inr ⟨_, rfl⟩) (fun t ht hW => ⟨⟨(), y, rfl, trivial, rfl, (by rw [ht]; exact hP9), (hD9)⟩, hS.F ht⟩) hS.2.2 dJx35411_next_0502b_65
      · exact absurd (nI_lt (by omega) (by omega)) c_2
    · exact absurd (nI_lt (by omega) (by omega)) c_1
  rw [hHe, hLe] at hgoal
  exact hgoal


set_option maxHeartbeats 4000000 in
set_option maxRecDepth 100000 in
theorem c_Jxa1e45_init_da8c8 (l : Launch) (D : va_G) (kl : Nat) (km : Int32) (n0 : Int32) (sz : Nat)  : Met l yJxa1e45_init_da8c8 (Cond.code yJxa1e45_init_da8c8 cJxa1e45_init_da8c8 1 none :: lwAll) ({ frames := 1, cells := 0, slots := 0, locals := 12 } : Room) (va_Pc [.ref kl] (cPre D (lwTY D) [(kl, .inr (6, [.int km, .null, .int n0]))] sz)) (va_Qv (fun (_ : Unit) => True) (fun _ _ => True) (fun q : Nat => sz ≤ q)) 0 0 (fun q : Nat => sz ≤ q) := by
  refine Met.ofW (cc := cJxa1e45_init_da8c8) (maxL := 1) (ret := none) (by decide) rfl ?_
  intro p e s m args below meth c s₁ B hml hv
  obtain ⟨rfl, hsz, hP, hK, hD0, hN, hZ⟩ := hv
  have hx := B.exec
  have hb := B.bytes
  have hr := B.returns
  have hts : ∀ wd ∈ lwAll, wd.before ([.ref kl] : List Value).toArray s = true := fun wd h => atoms_spec (ws := (Cond.code yJxa1e45_init_da8c8 cJxa1e45_init_da8c8 1 none :: lwAll)) B.pre wd (List.mem_cons_of_mem _ h)
  have hown : s.vm.findClass RJxa1e45 = some m.cls := findClass_of_methodNamed B.named
  have hlocks := B.notSynchronized
  have hin : meth.name = "<init>" := (name_of_methodNamed B.named B.method).1
  subst hsz
  have hD := hD0.self (sz := s.heap.size)
  have hl := lv_entry ([.ref kl]) (n := 1) (Nat.le_of_ble_eq_true rfl)
  rw [lg_entry_eq]
  generalize (lg_sl ([.ref kl]) ++ List.replicate (1 - (lg_sl ([.ref kl])).length) Slot.unset).toArray = ls at hl ⊢
  have hl : lv_has ls 1 [(0, .ref kl)] := hl
  have hS : va_S (fun q : Nat => s.heap.size ≤ q) s.heap s.heap [] := va_S.rf
  generalize hQe : MQ below (va_Qv (fun (_ : Unit) => True) (fun _ _ => True) (fun q : Nat => s.heap.size ≤ q)) ([.ref kl] : List Value).toArray s 0 0 (fun q : Nat => s.heap.size ≤ q) = Q
  have hP : va_P D vwCl [(kl, .inr (6, [.int km, .null, .int n0]))] s.heap := hP
  obtain ⟨A, hAe⟩ : ∃ A, A = va_A [(kl, .inr (6, [.int km, .null, .int n0]))] s.heap.size := ⟨_, rfl⟩
  rw [← hAe] at hD hZ
  have hA : ∀ q : Nat, s.heap.size ≤ q → A q := fun q h => by rw [hAe]; exact Or.inr h
  obtain ⟨H, hHe⟩ : ∃ H, H = s.heap := ⟨_, rfl⟩
  obtain ⟨locs, hLe⟩ : ∃ L : List Loc, L = [] := ⟨_, rfl⟩
  have hP : va_P D vwCl [(kl, .inr (6, [.int km, .null, .int n0]))] H := by rw [hHe]; exact hP
  have hS : va_S (fun q : Nat => s.heap.size ≤ q) s.heap H locs := by rw [hHe, hLe]; exact hS
  have hgoal : W p l e ({ frames := 1, cells := 0, slots := 0, locals := 12 } : Room) s m ([.ref kl] : List Value).toArray below meth c H locs 0 0 Q (F0 m 0 ls []) := by
    clear hHe hLe
    refine lv_aload_n hx hb dJxa1e45_init_da8c8_0 rfl (lv_at hl 0 rfl) ?_
    refine W.objInit hx hb hown (hts _ q_1148) (hts _ q_120) (hts _ q_121) rfl (by rw [hml]; exact hl.1) rfl dJxa1e45_init_da8c8_1 (Nat.le_of_ble_eq_true rfl) (Nat.le_of_ble_eq_true rfl) ?_
    refine W.eq (g2 := F0 m 4 ls []) rfl ?_
    subst hQe
    exact W.vret hx hb hr (fun t ht hW => ⟨⟨(), rfl, trivial, trivial⟩, hS.F ht⟩) hS.2.2 dJxa1e45_init_da8c8_4
  rw [hHe, hLe] at hgoal
  exact hgoal


set_option maxHeartbeats 4000000 in
set_option maxRecDepth 100000 in
theorem c_Jxc12de_init_da8c8 (l : Launch) (D : va_G) (kl : Nat) (km : Int32) (n0 : Int32) (sz : Nat)  : Met l yJxc12de_init_da8c8 (Cond.code yJxc12de_init_da8c8 cJxc12de_init_da8c8 1 none :: lwAll) ({ frames := 2, cells := 0, slots := 0, locals := 32 } : Room) (va_Pc [.ref kl] (cPre D (lwTY D) [(kl, .inr (6, [.int km, .null, .int n0]))] sz)) (va_Qv (fun (_ : Unit) => True) (fun (_ : Unit) t => va_P D vwCl [(kl, .inr (6, [.int 0, .null, .int n0]))] t.heap ∧ va_D (va_A [(kl, .inr (6, [.int km, .null, .int n0]))] sz) [(kl, .inr (6, [.int 0, .null, .int n0]))]) (va_A [(kl, .inr (6, [.int km, .null, .int n0]))] sz)) 0 0 (va_A [(kl, .inr (6, [.int km, .null, .int n0]))] sz) := by
  refine Met.ofW (cc := cJxc12de_init_da8c8) (maxL := 1) (ret := none) (by decide) rfl ?_
  intro p e s m args below meth c s₁ B hml hv
  obtain ⟨rfl, hsz, hP, hK, hD0, hN, hZ⟩ := hv
  have hx := B.exec
  have hb := B.bytes
  have hr := B.returns
  have hts : ∀ wd ∈ lwAll, wd.before ([.ref kl] : List Value).toArray s = true := fun wd h => atoms_spec (ws := (Cond.code yJxc12de_init_da8c8 cJxc12de_init_da8c8 1 none :: lwAll)) B.pre wd (List.mem_cons_of_mem _ h)
  have hown : s.vm.findClass RJxc12de = some m.cls := findClass_of_methodNamed B.named
  have hlocks := B.notSynchronized
  have hin : meth.name = "<init>" := (name_of_methodNamed B.named B.method).1
  subst hsz
  have hD := hD0.self (sz := s.heap.size)
  have hl := lv_entry ([.ref kl]) (n := 1) (Nat.le_of_ble_eq_true rfl)
  rw [lg_entry_eq]
  generalize (lg_sl ([.ref kl]) ++ List.replicate (1 - (lg_sl ([.ref kl])).length) Slot.unset).toArray = ls at hl ⊢
  have hl : lv_has ls 1 [(0, .ref kl)] := hl
  have hS : va_S (va_A [(kl, .inr (6, [.int km, .null, .int n0]))] s.heap.size) s.heap s.heap [] := va_S.rf
  generalize hQe : MQ below (va_Qv (fun (_ : Unit) => True) (fun (_ : Unit) t => va_P D vwCl [(kl, .inr (6, [.int 0, .null, .int n0]))] t.heap ∧ va_D (va_A [(kl, .inr (6, [.int km, .null, .int n0]))] s.heap.size) [(kl, .inr (6, [.int 0, .null, .int n0]))]) (va_A [(kl, .inr (6, [.int km, .null, .int n0]))] s.heap.size)) ([.ref kl] : List Value).toArray s 0 0 (va_A [(kl, .inr (6, [.int km, .null, .int n0]))] s.heap.size) = Q
  have hP : va_P D vwCl [(kl, .inr (6, [.int km, .null, .int n0]))] s.heap := hP
  obtain ⟨A, hAe⟩ : ∃ A, A = va_A [(kl, .inr (6, [.int km, .null, .int n0]))] s.heap.size := ⟨_, rfl⟩
  rw [← hAe] at hD hZ hS
  have hA : ∀ q : Nat, s.heap.size ≤ q → A q := fun q h => by rw [hAe]; exact Or.inr h
  obtain ⟨H, hHe⟩ : ∃ H, H = s.heap := ⟨_, rfl⟩
  obtain ⟨locs, hLe⟩ : ∃ L : List Loc, L = [] := ⟨_, rfl⟩
  have hP : va_P D vwCl [(kl, .inr (6, [.int km, .null, .int n0]))] H := by rw [hHe]; exact hP
  have hS : va_S A s.heap H locs := by rw [hHe, hLe]; exact hS
  have hgoal : W p l e ({ frames := 2, cells := 0, slots := 0, locals := 32 } : Room) s m ([.ref kl] : List Value).toArray below meth c H locs 0 0 Q (F0 m 0 ls []) := by
    clear hHe hLe
    refine lv_aload_n hx hb dJxc12de_init_da8c8_0 rfl (lv_at hl 0 rfl) ?_
    have hPc := hP.sub (ws' := [(kl, .inr (6, [.int km, .null, .int n0]))]) [0] rfl
    have hDc := hD.sub (ws' := [(kl, .inr (6, [.int km, .null, .int n0]))]) [0] (by decide) rfl
    have hFc := va_free (wc := [(kl, .inr (6, [.int km, .null, .int n0]))]) hD hS hA [0] rfl
    refine va_callv (va_runI (As := []) (rest := []) ⟨hx, hb, hml, hown, hts⟩ (c_Jxa1e45_init_da8c8 l D kl km n0 H.size ) ⟨callB_of 0 hts (gi_sub q_1147) rfl rfl rfl (hts _ q_105) (hts _ q_1145) (by decide +kernel) ⟨Nat.le_of_ble_eq_true rfl, Nat.le_of_ble_eq_true rfl⟩, rfl, (hts _ q_1146)⟩ ⟨cPre_blind, cPre_mk hPc hK hDc hN (lwZ_for hZ hS hFc)⟩ rfl rfl hl.1 rfl (lv_room (Nat.le_of_ble_eq_true rfl)) dJxc12de_init_da8c8_1 ⟨(Nat.le_of_ble_eq_true rfl), (Nat.le_of_ble_eq_true rfl)⟩) hS (fun q h1 h2 => absurd h2 (Nat.not_le.mpr h1)) (fun q h => hA q (Nat.le_trans hS.1 h)) (fun u t H1 locs ht hvm hw hBk hz1 hk1 hS => ?_)
    have hP := va_P_ro hP hk1
    clear hBk hvm ht u hz1 hk1
    clear hPc hDc hFc; clear t
    generalize H1 = H at hP hS ⊢
    refine lv_aload_n hx hb dJxc12de_init_da8c8_4 rfl (lv_at hl 0 rfl) ?_
    refine lv_iconst (v := 0) hx hb dJxc12de_init_da8c8_5 (by decide) ?_
    refine va_put (D := D) (ci := 6) (v := .int 0) (ty := .int) (C := RJx4a65c) (T := TJx4a65c) (N := 3) hx hb hts in_Jx4a65c tyJx4a65c tyJx4a65c_ok nmJx4a65c hown hK hP hD hS 0 rfl rfl 0 (by decide) (hts _ q_1155) (fun _ h9 => h9) rfl (by decide +kernel) rfl rfl (Nat.le_of_ble_eq_true rfl) dJxc12de_init_da8c8_6 (fun H locs hP hD hS => ?_)
    have hP : va_P D vwCl [(kl, .inr (6, [.int 0, .null, .int n0]))] H := hP
    have hD : va_D A [(kl, .inr (6, [.int 0, .null, .int n0]))] := hD
    subst hQe
    subst hAe
    have hP9 := hP.sub (ws' := [(kl, .inr (6, [.int 0, .null, .int n0]))]) [0] rfl
    have hD9 := hD.sub (ws' := [(kl, .inr (6, [.int 0, .null, .int n0]))]) [0] (by decide) rfl
    exact W.vret hx hb hr (fun t ht hW => ⟨⟨(), rfl, trivial, (by rw [ht]; exact hP9), (hD9)⟩, hS.F ht⟩) hS.2.2 dJxc12de_init_da8c8_9
  rw [hHe, hLe] at hgoal
  exact hgoal


set_option maxHeartbeats 4000000 in
set_option maxRecDepth 100000 in
theorem c_Jx4a65c_init_da8c8 (l : Launch) (D : va_G) (kl : Nat) (km : Int32) (n0 : Int32) (sz : Nat)  : Met l yJx4a65c_init_da8c8 (Cond.code yJx4a65c_init_da8c8 cJx4a65c_init_da8c8 1 none :: lwAll) ({ frames := 3, cells := 0, slots := 0, locals := 52 } : Room) (va_Pc [.ref kl] (rPre D (lwTY2 D) [(kl, .inr (6, [.int km, .null, .int n0]))] sz)) (va_Qv (fun (_ : Unit) => True) (fun (_ : Unit) t => va_P D vwCl [(kl, .inr (6, [.int 0, .ref (D.2 200 0), .int n0]))] t.heap ∧ va_D (va_A [(kl, .inr (6, [.int km, .null, .int n0]))] sz) [(kl, .inr (6, [.int 0, .ref (D.2 200 0), .int n0]))]) (va_A [(kl, .inr (6, [.int km, .null, .int n0]))] sz)) 0 0 (va_A [(kl, .inr (6, [.int km, .null, .int n0]))] sz) := by
  refine Met.ofW (cc := cJx4a65c_init_da8c8) (maxL := 1) (ret := none) (by decide) rfl ?_
  intro p e s m args below meth c s₁ B hml hv
  obtain ⟨rfl, ⟨hsz, hP, hK, hD0, hN, hZ⟩, hI⟩ := hv
  have hx := B.exec
  have hb := B.bytes
  have hr := B.returns
  have hts : ∀ wd ∈ lwAll, wd.before ([.ref kl] : List Value).toArray s = true := fun wd h => atoms_spec (ws := (Cond.code yJx4a65c_init_da8c8 cJx4a65c_init_da8c8 1 none :: lwAll)) B.pre wd (List.mem_cons_of_mem _ h)
  have hown : s.vm.findClass RJx4a65c = some m.cls := findClass_of_methodNamed B.named
  have hlocks := B.notSynchronized
  have hin : meth.name = "<init>" := (name_of_methodNamed B.named B.method).1
  subst hsz
  have hD := hD0.self (sz := s.heap.size)
  have hl := lv_entry ([.ref kl]) (n := 1) (Nat.le_of_ble_eq_true rfl)
  rw [lg_entry_eq]
  generalize (lg_sl ([.ref kl]) ++ List.replicate (1 - (lg_sl ([.ref kl])).length) Slot.unset).toArray = ls at hl ⊢
  have hl : lv_has ls 1 [(0, .ref kl)] := hl
  have hS : va_S (va_A [(kl, .inr (6, [.int km, .null, .int n0]))] s.heap.size) s.heap s.heap [] := va_S.rf
  generalize hQe : MQ below (va_Qv (fun (_ : Unit) => True) (fun (_ : Unit) t => va_P D vwCl [(kl, .inr (6, [.int 0, .ref (D.2 200 0), .int n0]))] t.heap ∧ va_D (va_A [(kl, .inr (6, [.int km, .null, .int n0]))] s.heap.size) [(kl, .inr (6, [.int 0, .ref (D.2 200 0), .int n0]))]) (va_A [(kl, .inr (6, [.int km, .null, .int n0]))] s.heap.size)) ([.ref kl] : List Value).toArray s 0 0 (va_A [(kl, .inr (6, [.int km, .null, .int n0]))] s.heap.size) = Q
  have hP : va_P D vwCl [(kl, .inr (6, [.int km, .null, .int n0]))] s.heap := hP
  obtain ⟨A, hAe⟩ : ∃ A, A = va_A [(kl, .inr (6, [.int km, .null, .int n0]))] s.heap.size := ⟨_, rfl⟩
  rw [← hAe] at hD hZ hI hS
  have hA : ∀ q : Nat, s.heap.size ≤ q → A q := fun q h => by rw [hAe]; exact Or.inr h
  obtain ⟨H, hHe⟩ : ∃ H, H = s.heap := ⟨_, rfl⟩
  obtain ⟨locs, hLe⟩ : ∃ L : List Loc, L = [] := ⟨_, rfl⟩
  have hP : va_P D vwCl [(kl, .inr (6, [.int km, .null, .int n0]))] H := by rw [hHe]; exact hP
  have hS : va_S A s.heap H locs := by rw [hHe, hLe]; exact hS
  have hgoal : W p l e ({ frames := 3, cells := 0, slots := 0, locals := 52 } : Room) s m ([.ref kl] : List Value).toArray below meth c H locs 0 0 Q (F0 m 0 ls []) := by
    clear hHe hLe
    refine lv_aload_n hx hb dJx4a65c_init_da8c8_0 rfl (lv_at hl 0 rfl) ?_
    have hPc := hP.sub (ws' := [(kl, .inr (6, [.int km, .null, .int n0]))]) [0] rfl
    have hDc := hD.sub (ws' := [(kl, .inr (6, [.int km, .null, .int n0]))]) [0] (by decide) rfl
    have hFc := va_free (wc := [(kl, .inr (6, [.int km, .null, .int n0]))]) hD hS hA [0] rfl
    refine va_callv (va_runI (As := []) (rest := []) ⟨hx, hb, hml, hown, hts⟩ (c_Jxc12de_init_da8c8 l D kl km n0 H.size ) ⟨callB_of 0 hts (gi_sub q_1144) rfl rfl rfl (hts _ q_106) (hts _ q_1142) (by decide +kernel) ⟨Nat.le_of_ble_eq_true rfl, Nat.le_of_ble_eq_true rfl⟩, rfl, (hts _ q_1143)⟩ ⟨cPre_blind, cPre_mk hPc (hK.sub [0, 1] rfl) hDc hN (lwZ_for hZ hS hFc)⟩ rfl rfl hl.1 rfl (lv_room (Nat.le_of_ble_eq_true rfl)) dJx4a65c_init_da8c8_1 ⟨(Nat.le_of_ble_eq_true rfl), (Nat.le_of_ble_eq_true rfl)⟩) hS (fun q _ h => hFc q h) hFc (fun u t H1 locs ht hvm hw hBk hz1 hk1 hS => ?_)
    obtain ⟨hP1, hD1⟩ := hBk
    rw [ht] at hP1
    obtain ⟨hP, hD⟩ := va_join (wr := []) (w1 := [(kl, .inr (6, [.int 0, .null, .int n0]))]) hP hD [0] [] rfl rfl (by decide) (by decide) hk1 hFc hP1 hD1
    clear hPc hDc hFc hP1 hD1 hk1 hz1
    clear hvm ht u; clear t
    generalize H1 = H at hP hS ⊢
    have hP : va_P D vwCl [(kl, .inr (6, [.int 0, .null, .int n0]))] H := hP
    have hD : va_D A [(kl, .inr (6, [.int 0, .null, .int n0]))] := hD
    refine lv_aload_n hx hb dJx4a65c_init_da8c8_4 rfl (lv_at hl 0 rfl) ?_
    refine va_gets hx hb hI.1.1 hS hown (hts _ q_1149) (fun _ h9 => h9) dJx4a65c_init_da8c8_5 ?_
    refine va_put (D := D) (ci := 6) (v := .ref (D.2 200 0)) (ty := (.array (.object "java/lang/Object"))) (C := RJx4a65c) (T := TJx4a65c) (N := 3) hx hb hts in_Jx4a65c tyJx4a65c tyJx4a65c_ok nmJx4a65c hown hK hP hD hS 0 rfl rfl 1 (by decide) (hts _ q_1151) (fun _ h9 => h9) rfl (by decide +kernel) rfl rfl (Nat.le_of_ble_eq_true rfl) dJx4a65c_init_da8c8_8 (fun H locs hP hD hS => ?_)
    have hP : va_P D vwCl [(kl, .inr (6, [.int 0, .ref (D.2 200 0), .int n0]))] H := hP
    have hD : va_D A [(kl, .inr (6, [.int 0, .ref (D.2 200 0), .int n0]))] := hD
    subst hQe
    subst hAe
    have hP9 := hP.sub (ws' := [(kl, .inr (6, [.int 0, .ref (D.2 200 0), .int n0]))]) [0] rfl
    have hD9 := hD.sub (ws' := [(kl, .inr (6, [.int 0, .ref (D.2 200 0), .int n0]))]) [0] (by decide) rfl
    exact W.vret hx hb hr (fun t ht hW => ⟨⟨(), rfl, trivial, (by rw [ht]; exact hP9), (hD9)⟩, hS.F ht⟩) hS.2.2 dJx4a65c_init_da8c8_11
  rw [hHe, hLe] at hgoal
  exact hgoal

def S_Jx4a65c_clear_da8c8_27  (i0 : Nat) (a0 : (Nat → Option Nat)) : (Nat → Option Nat) := va_up a0 i0 none
def F_Jx4a65c_clear_da8c8 (n : Nat) (cap : Nat) (g : Nat → Option Nat) : (Nat → Option Nat) := (if cap = 0 then g else (itr (fun i a => S_Jx4a65c_clear_da8c8_27 i a) n 0 g))
set_option maxHeartbeats 4000000 in
set_option maxRecDepth 100000 in
theorem c_Jx4a65c_clear_da8c8 (l : Launch) (D : va_G) (kl : Nat) (km : Int32) (kd : Nat) (n : Nat) (cap : Nat) (g : Nat → Option Nat) (sz : Nat) (hn : n ≤ cap) (hcb : cap ≤ 100000) : Met l yJx4a65c_clear_da8c8 (Cond.code yJx4a65c_clear_da8c8 cJx4a65c_clear_da8c8 4 none :: lwAll) ({ frames := 0, cells := 0, slots := 0, locals := 0 } : Room) (va_Pc [.ref kl] (rPre D (lwTY2 D) ((kl, .inr (6, [.int km, .ref kd, .int (nI n)])) :: (LD D cap kd g ++ [])) sz)) (va_Qv (fun (_ : Unit) => True) (fun (_ : Unit) t => va_P D vwCl ((kl, .inr (6, [.int (km + 1), .ref kd, .int (nI 0)])) :: (LD D cap kd (F_Jx4a65c_clear_da8c8 n cap g) ++ [])) t.heap ∧ va_D (va_A ((kl, .inr (6, [.int km, .ref kd, .int (nI n)])) :: (LD D cap kd g ++ [])) sz) ((kl, .inr (6, [.int (km + 1), .ref kd, .int (nI 0)])) :: (LD D cap kd (F_Jx4a65c_clear_da8c8 n cap g) ++ []))) (va_A ((kl, .inr (6, [.int km, .ref kd, .int (nI n)])) :: (LD D cap kd g ++ [])) sz)) 0 0 (va_A ((kl, .inr (6, [.int km, .ref kd, .int (nI n)])) :: (LD D cap kd g ++ [])) sz) := by
  refine Met.ofW (cc := cJx4a65c_clear_da8c8) (maxL := 4) (ret := none) (by decide) rfl ?_
  intro p e s m args below meth c s₁ B hml hv
  obtain ⟨rfl, ⟨hsz, hP, hK, hD0, hN, hZ⟩, hI⟩ := hv
  have hx := B.exec
  have hb := B.bytes
  have hr := B.returns
  have hts : ∀ wd ∈ lwAll, wd.before ([.ref kl] : List Value).toArray s = true := fun wd h => atoms_spec (ws := (Cond.code yJx4a65c_clear_da8c8 cJx4a65c_clear_da8c8 4 none :: lwAll)) B.pre wd (List.mem_cons_of_mem _ h)
  have hown : s.vm.findClass RJx4a65c = some m.cls := findClass_of_methodNamed B.named
  have hlocks := B.notSynchronized
  subst hsz
  have hD := hD0.self (sz := s.heap.size)
  have hl := lv_entry ([.ref kl]) (n := 4) (Nat.le_of_ble_eq_true rfl)
  rw [lg_entry_eq]
  generalize (lg_sl ([.ref kl]) ++ List.replicate (4 - (lg_sl ([.ref kl])).length) Slot.unset).toArray = ls at hl ⊢
  have hl : lv_has ls 4 [(0, .ref kl)] := hl
  have hS : va_S (va_A ((kl, .inr (6, [.int km, .ref kd, .int (nI n)])) :: (LD D cap kd g ++ [])) s.heap.size) s.heap s.heap [] := va_S.rf
  generalize hQe : MQ below (va_Qv (fun (_ : Unit) => True) (fun (_ : Unit) t => va_P D vwCl ((kl, .inr (6, [.int (km + 1), .ref kd, .int (nI 0)])) :: (LD D cap kd (F_Jx4a65c_clear_da8c8 n cap g) ++ [])) t.heap ∧ va_D (va_A ((kl, .inr (6, [.int km, .ref kd, .int (nI n)])) :: (LD D cap kd g ++ [])) s.heap.size) ((kl, .inr (6, [.int (km + 1), .ref kd, .int (nI 0)])) :: (LD D cap kd (F_Jx4a65c_clear_da8c8 n cap g) ++ []))) (va_A ((kl, .inr (6, [.int km, .ref kd, .int (nI n)])) :: (LD D cap kd g ++ [])) s.heap.size)) ([.ref kl] : List Value).toArray s 0 0 (va_A ((kl, .inr (6, [.int km, .ref kd, .int (nI n)])) :: (LD D cap kd g ++ [])) s.heap.size) = Q
  have hP : va_P D vwCl ((kl, .inr (6, [.int km, .ref kd, .int (nI n)])) :: (LD D cap kd g ++ [])) s.heap := hP
  obtain ⟨A, hAe⟩ : ∃ A, A = va_A ((kl, .inr (6, [.int km, .ref kd, .int (nI n)])) :: (LD D cap kd g ++ [])) s.heap.size := ⟨_, rfl⟩
  rw [← hAe] at hD hZ hI hS
  have hA : ∀ q : Nat, s.heap.size ≤ q → A q := fun q h => by rw [hAe]; exact Or.inr h
  obtain ⟨H, hHe⟩ : ∃ H, H = s.heap := ⟨_, rfl⟩
  obtain ⟨locs, hLe⟩ : ∃ L : List Loc, L = [] := ⟨_, rfl⟩
  have hP : va_P D vwCl ((kl, .inr (6, [.int km, .ref kd, .int (nI n)])) :: (LD D cap kd g ++ [])) H := by rw [hHe]; exact hP
  have hS : va_S A s.heap H locs := by rw [hHe, hLe]; exact hS
  have hgoal : W p l e ({ frames := 0, cells := 0, slots := 0, locals := 0 } : Room) s m ([.ref kl] : List Value).toArray below meth c H locs 0 0 Q (F0 m 0 ls []) := by
    clear hHe hLe
    by_cases c_1 : cap = 0
    · refine lv_aload_n hx hb dJx4a65c_clear_da8c8_0 rfl (lv_at hl 0 rfl) ?_
      refine lv_dup hx hb dJx4a65c_clear_da8c8_1 rfl ?_
      refine va_get (D := D) (ci := 6) (v := .int km) (C := RJx4a65c) (T := TJx4a65c) (N := 3) hx hb hts in_Jx4a65c hown hK hP 0 rfl rfl 0 (by decide) (hts _ q_1158) (fun x9 h9 => u_same (hts _ q_1157) x9 h9) rfl dJx4a65c_clear_da8c8_2 ?_
      refine lv_iconst (v := 1) hx hb dJx4a65c_clear_da8c8_5 (by decide) ?_
      refine lv_iadd hx hb dJx4a65c_clear_da8c8_6 ?_
      refine va_put (D := D) (ci := 6) (v := .int (km + 1)) (ty := .int) (C := RJx4a65c) (T := TJx4a65c) (N := 3) hx hb hts in_Jx4a65c tyJx4a65c tyJx4a65c_ok nmJx4a65c hown hK hP hD hS 0 rfl rfl 0 (by decide) (hts _ q_1158) (fun x9 h9 => u_same (hts _ q_1157) x9 h9) rfl (by decide +kernel) rfl rfl (Nat.le_of_ble_eq_true rfl) dJx4a65c_clear_da8c8_7 (fun H locs hP hD hS => ?_)
      have hP : va_P D vwCl ((kl, .inr (6, [.int (km + 1), .ref kd, .int (nI n)])) :: (LD D cap kd g ++ [])) H := hP
      have hD : va_D A ((kl, .inr (6, [.int (km + 1), .ref kd, .int (nI n)])) :: (LD D cap kd g ++ [])) := hD
      refine lv_aload_n hx hb dJx4a65c_clear_da8c8_10 rfl (lv_at hl 0 rfl) ?_
      refine va_get (D := D) (ci := 6) (v := .ref kd) (C := RJx4a65c) (T := TJx4a65c) (N := 3) hx hb hts in_Jx4a65c hown hK hP 0 rfl rfl 1 (by decide) (hts _ q_1151) (fun _ h9 => h9) rfl dJx4a65c_clear_da8c8_11 ?_
      refine lv_astore_n (lv' := [(1, .ref kd), (0, .ref kl)]) hx hb dJx4a65c_clear_da8c8_14 rfl hl (by decide) rfl (fun ls hl => ?_)
      refine lv_aload_n hx hb dJx4a65c_clear_da8c8_15 rfl (lv_at hl 1 rfl) ?_
      refine va_get (D := D) (ci := 6) (v := .int (nI n)) (C := RJx4a65c) (T := TJx4a65c) (N := 3) hx hb hts in_Jx4a65c hown hK hP 0 rfl rfl 2 (by decide) (hts _ q_1154) (fun _ h9 => h9) rfl dJx4a65c_clear_da8c8_16 ?_
      refine lv_istore_n (lv' := [(2, .int (nI n)), (1, .ref kd), (0, .ref kl)]) hx hb dJx4a65c_clear_da8c8_19 rfl hl (by decide) rfl (fun ls hl => ?_)
      refine lv_aload_n hx hb dJx4a65c_clear_da8c8_20 rfl (lv_at hl 2 rfl) ?_
      refine lv_iconst (v := 0) hx hb dJx4a65c_clear_da8c8_21 (by decide) ?_
      refine lv_dup_x1 hx hb dJx4a65c_clear_da8c8_22 rfl rfl ?_
      refine va_put (D := D) (ci := 6) (v := .int 0) (ty := .int) (C := RJx4a65c) (T := TJx4a65c) (N := 3) hx hb hts in_Jx4a65c tyJx4a65c tyJx4a65c_ok nmJx4a65c hown hK hP hD hS 0 rfl rfl 2 (by decide) (hts _ q_1154) (fun _ h9 => h9) rfl (by decide +kernel) rfl rfl (Nat.le_of_ble_eq_true rfl) dJx4a65c_clear_da8c8_23 (fun H locs hP hD hS => ?_)
      have hP : va_P D vwCl ((kl, .inr (6, [.int (km + 1), .ref kd, .int 0])) :: (LD D cap kd g ++ [])) H := hP
      have hD : va_D A ((kl, .inr (6, [.int (km + 1), .ref kd, .int 0])) :: (LD D cap kd g ++ [])) := hD
      refine lv_istore_n (lv' := [(3, .int 0), (2, .int (nI n)), (1, .ref kd), (0, .ref kl)]) hx hb dJx4a65c_clear_da8c8_26 rfl hl (by decide) rfl (fun ls hl => ?_)
      refine lv_iload_n hx hb dJx4a65c_clear_da8c8_27 rfl (lv_at hl 0 rfl) ?_
      refine lv_iload_n hx hb dJx4a65c_clear_da8c8_28 rfl (lv_at hl 1 rfl) ?_
      refine lv_icmp_ge (tgt := 42) hx hb dJx4a65c_clear_da8c8_29 (by decide) (fun c_2 => ?_) (fun c_2 => ?_)
      · subst hQe
        subst hAe
        have hE : (F_Jx4a65c_clear_da8c8 n cap g) = g := (by unfold F_Jx4a65c_clear_da8c8; rw [if_pos c_1])
        have hP9 : va_P D vwCl ((kl, .inr (6, [.int (km + 1), .ref kd, .int 0])) :: (LD D cap kd g ++ [])) H := wb_P (bs := [[(kl, .inr (6, [.int (km + 1), .ref kd, .int 0]))], LD D cap kd g]) (cs := [[(kl, .inr (6, [.int (km + 1), .ref kd, .int 0]))], LD D cap kd g]) [0, 1] rfl hP
        have hD9 : va_D _ ((kl, .inr (6, [.int (km + 1), .ref kd, .int 0])) :: (LD D cap kd g ++ [])) := wb_D (bs := [[(kl, .inr (6, [.int (km + 1), .ref kd, .int 0]))], LD D cap kd g]) (cs := [[(kl, .inr (6, [.int (km + 1), .ref kd, .int 0]))], LD D cap kd g]) [0, 1] (by decide) rfl hD
        exact W.vret hx hb hr (fun t ht hW => ⟨⟨(), rfl, trivial, (by (try rw [hE]); rw [ht]; exact hP9), (by (try rw [hE]); exact hD9)⟩, hS.F ht⟩) hS.2.2 dJx4a65c_clear_da8c8_42
      · exact absurd (nI_le (a := n) (b := 0) (by omega) (by omega)) c_2
    · have hLD : LD D cap kd g = [(kd, .inl ((D.1 102), cap, .inr (.inr (.inr (.inr g)))))] := if_neg c_1
      rw [hLD] at hP hD
      clear hLD
      have hP : va_P D vwCl [(kl, .inr (6, [.int km, .ref kd, .int (nI n)])), (kd, .inl ((D.1 102), cap, .inr (.inr (.inr (.inr g)))))] H := wb_P (bs := [[(kl, .inr (6, [.int km, .ref kd, .int (nI n)]))], [(kd, .inl ((D.1 102), cap, .inr (.inr (.inr (.inr g)))))]]) (cs := [[(kl, .inr (6, [.int km, .ref kd, .int (nI n)]))], [(kd, .inl ((D.1 102), cap, .inr (.inr (.inr (.inr g)))))]]) [0, 1] rfl hP
      have hD : va_D A [(kl, .inr (6, [.int km, .ref kd, .int (nI n)])), (kd, .inl ((D.1 102), cap, .inr (.inr (.inr (.inr g)))))] := wb_D (bs := [[(kl, .inr (6, [.int km, .ref kd, .int (nI n)]))], [(kd, .inl ((D.1 102), cap, .inr (.inr (.inr (.inr g)))))]]) (cs := [[(kl, .inr (6, [.int km, .ref kd, .int (nI n)]))], [(kd, .inl ((D.1 102), cap, .inr (.inr (.inr (.inr g)))))]]) [0, 1] (by decide) rfl hD
      refine lv_aload_n hx hb dJx4a65c_clear_da8c8_0 rfl (lv_at hl 0 rfl) ?_
      refine lv_dup hx hb dJx4a65c_clear_da8c8_1 rfl ?_
      refine va_get (D := D) (ci := 6) (v := .int km) (C := RJx4a65c) (T := TJx4a65c) (N := 3) hx hb hts in_Jx4a65c hown hK hP 0 rfl rfl 0 (by decide) (hts _ q_1158) (fun x9 h9 => u_same (hts _ q_1157) x9 h9) rfl dJx4a65c_clear_da8c8_2 ?_
      refine lv_iconst (v := 1) hx hb dJx4a65c_clear_da8c8_5 (by decide) ?_
      refine lv_iadd hx hb dJx4a65c_clear_da8c8_6 ?_
      refine va_put (D := D) (ci := 6) (v := .int (km + 1)) (ty := .int) (C := RJx4a65c) (T := TJx4a65c) (N := 3) hx hb hts in_Jx4a65c tyJx4a65c tyJx4a65c_ok nmJx4a65c hown hK hP hD hS 0 rfl rfl 0 (by decide) (hts _ q_1158) (fun x9 h9 => u_same (hts _ q_1157) x9 h9) rfl (by decide +kernel) rfl rfl (Nat.le_of_ble_eq_true rfl) dJx4a65c_clear_da8c8_7 (fun H locs hP hD hS => ?_)
      have hP : va_P D vwCl [(kl, .inr (6, [.int (km + 1), .ref kd, .int (nI n)])), (kd, .inl ((D.1 102), cap, .inr (.inr (.inr (.inr g)))))] H := hP
      have hD : va_D A [(kl, .inr (6, [.int (km + 1), .ref kd, .int (nI n)])), (kd, .inl ((D.1 102), cap, .inr (.inr (.inr (.inr g)))))] := hD
      refine lv_aload_n hx hb dJx4a65c_clear_da8c8_10 rfl (lv_at hl 0 rfl) ?_
      refine va_get (D := D) (ci := 6) (v := .ref kd) (C := RJx4a65c) (T := TJx4a65c) (N := 3) hx hb hts in_Jx4a65c hown hK hP 0 rfl rfl 1 (by decide) (hts _ q_1151) (fun _ h9 => h9) rfl dJx4a65c_clear_da8c8_11 ?_
      refine lv_astore_n (lv' := [(1, .ref kd), (0, .ref kl)]) hx hb dJx4a65c_clear_da8c8_14 rfl hl (by decide) rfl (fun ls hl => ?_)
      refine lv_aload_n hx hb dJx4a65c_clear_da8c8_15 rfl (lv_at hl 1 rfl) ?_
      refine va_get (D := D) (ci := 6) (v := .int (nI n)) (C := RJx4a65c) (T := TJx4a65c) (N := 3) hx hb hts in_Jx4a65c hown hK hP 0 rfl rfl 2 (by decide) (hts _ q_1154) (fun _ h9 => h9) rfl dJx4a65c_clear_da8c8_16 ?_
      refine lv_istore_n (lv' := [(2, .int (nI n)), (1, .ref kd), (0, .ref kl)]) hx hb dJx4a65c_clear_da8c8_19 rfl hl (by decide) rfl (fun ls hl => ?_)
      refine lv_aload_n hx hb dJx4a65c_clear_da8c8_20 rfl (lv_at hl 2 rfl) ?_
      refine lv_iconst (v := 0) hx hb dJx4a65c_clear_da8c8_21 (by decide) ?_
      refine lv_dup_x1 hx hb dJx4a65c_clear_da8c8_22 rfl rfl ?_
      refine va_put (D := D) (ci := 6) (v := .int 0) (ty := .int) (C := RJx4a65c) (T := TJx4a65c) (N := 3) hx hb hts in_Jx4a65c tyJx4a65c tyJx4a65c_ok nmJx4a65c hown hK hP hD hS 0 rfl rfl 2 (by decide) (hts _ q_1154) (fun _ h9 => h9) rfl (by decide +kernel) rfl rfl (Nat.le_of_ble_eq_true rfl) dJx4a65c_clear_da8c8_23 (fun H locs hP hD hS => ?_)
      have hP : va_P D vwCl [(kl, .inr (6, [.int (km + 1), .ref kd, .int 0])), (kd, .inl ((D.1 102), cap, .inr (.inr (.inr (.inr g)))))] H := hP
      have hD : va_D A [(kl, .inr (6, [.int (km + 1), .ref kd, .int 0])), (kd, .inl ((D.1 102), cap, .inr (.inr (.inr (.inr g)))))] := hD
      refine lv_istore_n (lv' := [(3, .int 0), (2, .int (nI n)), (1, .ref kd), (0, .ref kl)]) hx hb dJx4a65c_clear_da8c8_26 rfl hl (by decide) rfl (fun ls hl => ?_)
      have lp_27 : ∀ (n0 i0 : Nat), i0 + n0 = n → ∀ (a0 : (Nat → Option Nat)) (H : Heap) (locs : List Loc) (ls : Array Slot), va_P D vwCl [(kl, .inr (6, [.int (km + 1), .ref kd, .int 0])), (kd, .inl ((D.1 102), cap, .inr (.inr (.inr (.inr a0)))))] H → va_D A [(kl, .inr (6, [.int (km + 1), .ref kd, .int 0])), (kd, .inl ((D.1 102), cap, .inr (.inr (.inr (.inr a0)))))] → va_S A s.heap H locs → lv_has ls 4 [(0, .ref kl), (1, .ref kd), (2, .int (nI n)), (3, .int (nI i0))] → (∀ (H : Heap) (locs : List Loc) (ls : Array Slot), va_P D vwCl [(kl, .inr (6, [.int (km + 1), .ref kd, .int 0])), (kd, .inl ((D.1 102), cap, .inr (.inr (.inr (.inr (itr (fun i a => S_Jx4a65c_clear_da8c8_27 i a) n0 i0 a0))))))] H → va_D A [(kl, .inr (6, [.int (km + 1), .ref kd, .int 0])), (kd, .inl ((D.1 102), cap, .inr (.inr (.inr (.inr (itr (fun i a => S_Jx4a65c_clear_da8c8_27 i a) n0 i0 a0))))))] → va_S A s.heap H locs → lv_has ls 4 [(0, .ref kl), (1, .ref kd), (2, .int (nI n)), (3, .int (nI n))] → W p l e ({ frames := 0, cells := 0, slots := 0, locals := 0 } : Room) s m ([.ref kl] : List Value).toArray below meth c H locs 0 0 Q (F0 m 42 ls [])) → W p l e ({ frames := 0, cells := 0, slots := 0, locals := 0 } : Room) s m ([.ref kl] : List Value).toArray below meth c H locs 0 0 Q (F0 m 27 ls []) := by
        clear hP hD hS hl
        intro n0
        induction n0 with
        | zero =>
          intro i0 hi0 a0 H locs ls hP hD hS hl kon
          have he0 : i0 = n := by omega
          refine lv_iload_n hx hb dJx4a65c_clear_da8c8_27 rfl (lv_at hl 3 rfl) ?_
          refine lv_iload_n hx hb dJx4a65c_clear_da8c8_28 rfl (lv_at hl 2 rfl) ?_
          refine lv_icmp_ge (tgt := 42) hx hb dJx4a65c_clear_da8c8_29 (by decide) (fun c_3 => ?_) (fun c_3 => ?_)
          · exact kon H locs ls hP hD hS (by have h9 := lv_sub (l' := [(0, .ref kl), (1, .ref kd), (2, .int (nI n)), (3, .int (nI i0))]) hl [0, 1, 2, 3] rfl; (try rw [he0] at h9); exact h9) 
          · exact absurd (nI_le (a := n) (b := i0) (by omega) (by omega)) c_3
        | succ n0 ih0 =>
          intro i0 hi0 a0 H locs ls hP hD hS hl kon
          refine lv_iload_n hx hb dJx4a65c_clear_da8c8_27 rfl (lv_at hl 3 rfl) ?_
          refine lv_iload_n hx hb dJx4a65c_clear_da8c8_28 rfl (lv_at hl 2 rfl) ?_
          refine lv_icmp_ge (tgt := 42) hx hb dJx4a65c_clear_da8c8_29 (by decide) (fun c_4 => ?_) (fun c_4 => ?_)
          · exact absurd c_4 (nI_ge (a := i0) (b := n) (by omega) (by omega))
          · refine lv_aload_n hx hb dJx4a65c_clear_da8c8_32 rfl (lv_at hl 1 rfl) ?_
            refine lv_iload_n hx hb dJx4a65c_clear_da8c8_33 rfl (lv_at hl 3 rfl) ?_
            refine lv_null hx hb dJx4a65c_clear_da8c8_34 ?_
            refine va_astqN hx hb hK hP hD hS 1 2 rfl rfl (vp_in_nI (by omega) (by omega)) dJx4a65c_clear_da8c8_35 (fun H locs hP hD hS => ?_)
            rw [nI_clamp (by omega)] at hP hD
            have hP : va_P D vwCl [(kl, .inr (6, [.int (km + 1), .ref kd, .int 0])), (kd, .inl ((D.1 102), cap, .inr (.inr (.inr (.inr (va_up a0 i0 none))))))] H := hP
            have hD : va_D A [(kl, .inr (6, [.int (km + 1), .ref kd, .int 0])), (kd, .inl ((D.1 102), cap, .inr (.inr (.inr (.inr (va_up a0 i0 none))))))] := hD
            refine lv_iinc (v := nI (i0 + 1)) (lv' := [(3, .int (nI (i0 + 1))), (0, .ref kl), (1, .ref kd), (2, .int (nI n))]) hx hb dJx4a65c_clear_da8c8_36 hl (k := 3) rfl (nI_1 _) (by decide) rfl (fun ls hl => ?_)
            refine lv_goto (tgt := 27) hx hb dJx4a65c_clear_da8c8_39 (by decide) ?_
            have hE : S_Jx4a65c_clear_da8c8_27 i0 a0 = va_up a0 i0 none := (by rfl)
            have hl : lv_has ls 4 [(0, .ref kl), (1, .ref kd), (2, .int (nI n)), (3, .int (nI (i0 + 1)))] := lv_sub hl [1, 2, 3, 0] rfl
            have hP := hP.sub (ws' := [(kl, .inr (6, [.int (km + 1), .ref kd, .int 0])), (kd, .inl ((D.1 102), cap, .inr (.inr (.inr (.inr (va_up a0 i0 none))))))]) [0, 1] rfl
            have hD := hD.sub (ws' := [(kl, .inr (6, [.int (km + 1), .ref kd, .int 0])), (kd, .inl ((D.1 102), cap, .inr (.inr (.inr (.inr (va_up a0 i0 none))))))]) [0, 1] (by decide) rfl
            exact ih0 (i0 + 1) (by omega) (S_Jx4a65c_clear_da8c8_27 i0 a0) H locs ls (by (try rw [hE]); exact hP) (by (try rw [hE]); exact hD) hS (by (try rw [hE]); exact hl) kon
      have hl : lv_has ls 4 [(0, .ref kl), (1, .ref kd), (2, .int (nI n)), (3, .int (nI 0))] := lv_sub hl [3, 2, 1, 0] rfl
      refine lp_27 n 0 (by omega) g H locs ls hP hD hS hl ?_
      clear lp_27 hP hD hS hl
      intro H locs ls hP hD hS hl
      have hP := wb_P (bs := [[(kl, .inr (6, [.int (km + 1), .ref kd, .int 0]))], [(kd, .inl ((D.1 102), cap, .inr (.inr (.inr (.inr (itr (fun i a => S_Jx4a65c_clear_da8c8_27 i a) n 0 g))))))]]) (cs := [[(kl, .inr (6, [.int (km + 1), .ref kd, .int 0]))], [(kd, .inl ((D.1 102), cap, .inr (.inr (.inr (.inr (itr (fun i a => S_Jx4a65c_clear_da8c8_27 i a) n 0 g))))))]]) [0, 1] rfl hP
      have hD := wb_D (bs := [[(kl, .inr (6, [.int (km + 1), .ref kd, .int 0]))], [(kd, .inl ((D.1 102), cap, .inr (.inr (.inr (.inr (itr (fun i a => S_Jx4a65c_clear_da8c8_27 i a) n 0 g))))))]]) (cs := [[(kl, .inr (6, [.int (km + 1), .ref kd, .int 0]))], [(kd, .inl ((D.1 102), cap, .inr (.inr (.inr (.inr (itr (fun i a => S_Jx4a65c_clear_da8c8_27 i a) n 0 g))))))]]) [0, 1] (by decide) rfl hD
      have hLD : LD D cap kd (itr (fun i a => S_Jx4a65c_clear_da8c8_27 i a) n 0 g) = [(kd, .inl ((D.1 102), cap, .inr (.inr (.inr (.inr (itr (fun i a => S_Jx4a65c_clear_da8c8_27 i a) n 0 g))))))] := if_neg c_1
      have hP : va_P D vwCl ((kl, .inr (6, [.int (km + 1), .ref kd, .int 0])) :: (LD D cap kd (itr (fun i a => S_Jx4a65c_clear_da8c8_27 i a) n 0 g) ++ [])) H := by show va_P D vwCl (List.flatten [[(kl, .inr (6, [.int (km + 1), .ref kd, .int 0]))], LD D cap kd (itr (fun i a => S_Jx4a65c_clear_da8c8_27 i a) n 0 g)]) H; rw [hLD]; exact hP
      have hD : va_D A ((kl, .inr (6, [.int (km + 1), .ref kd, .int 0])) :: (LD D cap kd (itr (fun i a => S_Jx4a65c_clear_da8c8_27 i a) n 0 g) ++ [])) := by show va_D A (List.flatten [[(kl, .inr (6, [.int (km + 1), .ref kd, .int 0]))], LD D cap kd (itr (fun i a => S_Jx4a65c_clear_da8c8_27 i a) n 0 g)]); rw [hLD]; exact hD
      clear hLD
      subst hQe
      subst hAe
      have hE : (F_Jx4a65c_clear_da8c8 n cap g) = (itr (fun i a => S_Jx4a65c_clear_da8c8_27 i a) n 0 g) := (by unfold F_Jx4a65c_clear_da8c8; rw [if_neg c_1])
      have hP9 : va_P D vwCl ((kl, .inr (6, [.int (km + 1), .ref kd, .int 0])) :: (LD D cap kd (itr (fun i a => S_Jx4a65c_clear_da8c8_27 i a) n 0 g) ++ [])) H := wb_P (bs := [[(kl, .inr (6, [.int (km + 1), .ref kd, .int 0]))], LD D cap kd (itr (fun i a => S_Jx4a65c_clear_da8c8_27 i a) n 0 g)]) (cs := [[(kl, .inr (6, [.int (km + 1), .ref kd, .int 0]))], LD D cap kd (itr (fun i a => S_Jx4a65c_clear_da8c8_27 i a) n 0 g)]) [0, 1] rfl hP
      have hD9 : va_D _ ((kl, .inr (6, [.int (km + 1), .ref kd, .int 0])) :: (LD D cap kd (itr (fun i a => S_Jx4a65c_clear_da8c8_27 i a) n 0 g) ++ [])) := wb_D (bs := [[(kl, .inr (6, [.int (km + 1), .ref kd, .int 0]))], LD D cap kd (itr (fun i a => S_Jx4a65c_clear_da8c8_27 i a) n 0 g)]) (cs := [[(kl, .inr (6, [.int (km + 1), .ref kd, .int 0]))], LD D cap kd (itr (fun i a => S_Jx4a65c_clear_da8c8_27 i a) n 0 g)]) [0, 1] (by decide) rfl hD
      exact W.vret hx hb hr (fun t ht hW => ⟨⟨(), rfl, trivial, (by (try rw [hE]); rw [ht]; exact hP9), (by (try rw [hE]); exact hD9)⟩, hS.F ht⟩) hS.2.2 dJx4a65c_clear_da8c8_42
  rw [hHe, hLe] at hgoal
  exact hgoal


set_option maxHeartbeats 4000000 in
set_option maxRecDepth 100000 in
theorem c_Jx4a65c_grow_92f84F (l : Launch) (D : va_G) (kl : Nat) (km : Int32) (n : Nat) (x1 : Int32) (sz : Nat) (h0 : n = 0) (hx1 : x1 = nI (n + 1)) : Met l yJx4a65c_grow_92f84 (Cond.code yJx4a65c_grow_92f84 cJx4a65c_grow_92f84 4 (some (.array (.object "java/lang/Object"))) :: lwAll) ({ frames := 1, cells := 1, slots := 10, locals := 21 } : Room) (va_Pc [.ref kl, .int x1] (rPre D (lwTY2 D) [(kl, .inr (6, [.int km, .ref (D.2 200 0), .int (nI n)]))] sz)) (va_Qr (fun (_ : Unit) => True) (fun (_ : Unit) (ra : Nat) t => va_P D vwCl [(kl, .inr (6, [.int km, .ref ra, .int (nI n)])), (ra, .inl ((D.1 102), 10, .inr (.inr (.inr (.inr (fun _ => none))))))] t.heap ∧ va_D (va_A [(kl, .inr (6, [.int km, .ref (D.2 200 0), .int (nI n)]))] sz) [(kl, .inr (6, [.int km, .ref ra, .int (nI n)])), (ra, .inl ((D.1 102), 10, .inr (.inr (.inr (.inr (fun _ => none))))))]) (va_A [(kl, .inr (6, [.int km, .ref (D.2 200 0), .int (nI n)]))] sz)) 1 10 (va_A [(kl, .inr (6, [.int km, .ref (D.2 200 0), .int (nI n)]))] sz) := by
  subst hx1
  refine Met.ofW (cc := cJx4a65c_grow_92f84) (maxL := 4) (ret := (some (.array (.object "java/lang/Object")))) (by decide) rfl ?_
  intro p e s m args below meth c s₁ B hml hv
  obtain ⟨rfl, ⟨hsz, hP, hK, hD0, hN, hZ⟩, hI⟩ := hv
  have hx := B.exec
  have hb := B.bytes
  have hr := B.returns
  have hts : ∀ wd ∈ lwAll, wd.before ([.ref kl, .int (nI (n + 1))] : List Value).toArray s = true := fun wd h => atoms_spec (ws := (Cond.code yJx4a65c_grow_92f84 cJx4a65c_grow_92f84 4 (some (.array (.object "java/lang/Object"))) :: lwAll)) B.pre wd (List.mem_cons_of_mem _ h)
  have hown : s.vm.findClass RJx4a65c = some m.cls := findClass_of_methodNamed B.named
  have hlocks := B.notSynchronized
  subst hsz
  have hD := hD0.self (sz := s.heap.size)
  have hl := lv_entry ([.ref kl, .int (nI (n + 1))]) (n := 4) (Nat.le_of_ble_eq_true rfl)
  rw [lg_entry_eq]
  generalize (lg_sl ([.ref kl, .int (nI (n + 1))]) ++ List.replicate (4 - (lg_sl ([.ref kl, .int (nI (n + 1))])).length) Slot.unset).toArray = ls at hl ⊢
  have hl : lv_has ls 4 [(0, .ref kl), (1, .int (nI (n + 1)))] := hl
  have hS : va_S (va_A [(kl, .inr (6, [.int km, .ref (D.2 200 0), .int (nI n)]))] s.heap.size) s.heap s.heap [] := va_S.rf
  generalize hQe : MQ below (va_Qr (fun (_ : Unit) => True) (fun (_ : Unit) (ra : Nat) t => va_P D vwCl [(kl, .inr (6, [.int km, .ref ra, .int (nI n)])), (ra, .inl ((D.1 102), 10, .inr (.inr (.inr (.inr (fun _ => none))))))] t.heap ∧ va_D (va_A [(kl, .inr (6, [.int km, .ref (D.2 200 0), .int (nI n)]))] s.heap.size) [(kl, .inr (6, [.int km, .ref ra, .int (nI n)])), (ra, .inl ((D.1 102), 10, .inr (.inr (.inr (.inr (fun _ => none))))))]) (va_A [(kl, .inr (6, [.int km, .ref (D.2 200 0), .int (nI n)]))] s.heap.size)) ([.ref kl, .int (nI (n + 1))] : List Value).toArray s 1 10 (va_A [(kl, .inr (6, [.int km, .ref (D.2 200 0), .int (nI n)]))] s.heap.size) = Q
  have hP : va_P D vwCl [(kl, .inr (6, [.int km, .ref (D.2 200 0), .int (nI n)]))] s.heap := hP
  obtain ⟨A, hAe⟩ : ∃ A, A = va_A [(kl, .inr (6, [.int km, .ref (D.2 200 0), .int (nI n)]))] s.heap.size := ⟨_, rfl⟩
  rw [← hAe] at hD hZ hI hS
  have hA : ∀ q : Nat, s.heap.size ≤ q → A q := fun q h => by rw [hAe]; exact Or.inr h
  obtain ⟨H, hHe⟩ : ∃ H, H = s.heap := ⟨_, rfl⟩
  obtain ⟨locs, hLe⟩ : ∃ L : List Loc, L = [] := ⟨_, rfl⟩
  have hP : va_P D vwCl [(kl, .inr (6, [.int km, .ref (D.2 200 0), .int (nI n)]))] H := by rw [hHe]; exact hP
  have hS : va_S A s.heap H locs := by rw [hHe, hLe]; exact hS
  have hgoal : W p l e ({ frames := 1, cells := 1, slots := 10, locals := 21 } : Room) s m ([.ref kl, .int (nI (n + 1))] : List Value).toArray below meth c H locs 0 0 Q (F0 m 0 ls []) := by
    clear hHe hLe
    refine lv_aload_n hx hb dJx4a65c_grow_92f84_0 rfl (lv_at hl 0 rfl) ?_
    refine va_get (D := D) (ci := 6) (v := .ref (D.2 200 0)) (C := RJx4a65c) (T := TJx4a65c) (N := 3) hx hb hts in_Jx4a65c hown hK hP 0 rfl rfl 1 (by decide) (hts _ q_1151) (fun _ h9 => h9) rfl dJx4a65c_grow_92f84_1 ?_
    refine va_tlen hx hb hI.1.2 hS (v := 0) rfl dJx4a65c_grow_92f84_4 ?_
    refine lv_istore_n (lv' := [(2, .int 0), (0, .ref kl), (1, .int (nI (n + 1)))]) hx hb dJx4a65c_grow_92f84_5 rfl hl (by decide) rfl (fun ls hl => ?_)
    refine lv_iload_n hx hb dJx4a65c_grow_92f84_6 rfl (lv_at hl 0 rfl) ?_
    refine lv_if_gt (tgt := 20) hx hb dJx4a65c_grow_92f84_7 (by decide) (fun c_1 => ?_) (fun c_1 => ?_)
    · exact absurd c_1 (by decide)
    · refine lv_aload_n hx hb dJx4a65c_grow_92f84_10 rfl (lv_at hl 1 rfl) ?_
      refine va_get (D := D) (ci := 6) (v := .ref (D.2 200 0)) (C := RJx4a65c) (T := TJx4a65c) (N := 3) hx hb hts in_Jx4a65c hown hK hP 0 rfl rfl 1 (by decide) (hts _ q_1151) (fun _ h9 => h9) rfl dJx4a65c_grow_92f84_11 ?_
      refine va_gets hx hb hI.1.1 hS hown (hts _ q_1149) (fun _ h9 => h9) dJx4a65c_grow_92f84_14 ?_
      refine lv_acmp_eq (rx := some (D.2 200 0)) (ry := some (D.2 200 0)) (tgt := 45) hx hb dJx4a65c_grow_92f84_17 (by decide) (fun c_2 => ?_) (fun c_2 => ?_)
      · refine lv_aload_n hx hb dJx4a65c_grow_92f84_45 rfl (lv_at hl 1 rfl) ?_
        refine lv_bipush (v := 10) hx hb dJx4a65c_grow_92f84_46 (by decide) ?_
        refine lv_iload_n hx hb dJx4a65c_grow_92f84_48 rfl (lv_at hl 2 rfl) ?_
        refine va_mmax hx hb (hml.trans hl.1.symm) hown (hts _ q_1261) (hts _ q_349) (hts _ q_95) (hts _ q_350) (Nat.le_of_ble_eq_true rfl) (Nat.le_of_ble_eq_true rfl) (Nat.zero_le _) (Nat.zero_le _) dJx4a65c_grow_92f84_49 ?_
        rw [show ((if 10 < (nI (n + 1)) then (nI (n + 1)) else 10) : Int32) = 10 from (by subst h0; decide)]
        refine va_newO hx hb hown (hts _ q_1262) hI.2.2.2.1 hK hP hD hS hA (N' := 10) (by decide) rfl (by omega) (show 0 + 1 ≤ 1 from (by omega)) (show 0 + 10 ≤ 10 from (by omega)) dJx4a65c_grow_92f84_52 (fun y_52 H hP hD hS => ?_)
        have hP : va_P D vwCl [(kl, .inr (6, [.int km, .ref (D.2 200 0), .int (nI n)])), (y_52, .inl ((D.1 102), 10, .inr (.inr (.inr (.inr (fun _ => none))))))] H := hP
        have hD : va_D A [(kl, .inr (6, [.int km, .ref (D.2 200 0), .int (nI n)])), (y_52, .inl ((D.1 102), 10, .inr (.inr (.inr (.inr (fun _ => none))))))] := hD
        refine lv_dup_x1 hx hb dJx4a65c_grow_92f84_55 rfl rfl ?_
        refine va_put (D := D) (ci := 6) (v := .ref y_52) (ty := (.array (.object "java/lang/Object"))) (C := RJx4a65c) (T := TJx4a65c) (N := 3) hx hb hts in_Jx4a65c tyJx4a65c tyJx4a65c_ok nmJx4a65c hown hK hP hD hS 0 rfl rfl 1 (by decide) (hts _ q_1151) (fun _ h9 => h9) rfl (by decide +kernel) rfl rfl (Nat.le_of_ble_eq_true rfl) dJx4a65c_grow_92f84_56 (fun H locs hP hD hS => ?_)
        have hP : va_P D vwCl [(kl, .inr (6, [.int km, .ref y_52, .int (nI n)])), (y_52, .inl ((D.1 102), 10, .inr (.inr (.inr (.inr (fun _ => none))))))] H := hP
        have hD : va_D A [(kl, .inr (6, [.int km, .ref y_52, .int (nI n)])), (y_52, .inl ((D.1 102), 10, .inr (.inr (.inr (.inr (fun _ => none))))))] := hD
        subst hQe
        subst hAe
        refine W.widen (k := 1) (n := 10) (by omega) (by omega) ?_
        have hP9 := hP.sub (ws' := [(kl, .inr (6, [.int km, .ref y_52, .int (nI n)])), (y_52, .inl ((D.1 102), 10, .inr (.inr (.inr (.inr (fun _ => none))))))]) [0, 1] rfl
        have hD9 := hD.sub (ws' := [(kl, .inr (6, [.int km, .ref y_52, .int (nI n)])), (y_52, .inl ((D.1 102), 10, .inr (.inr (.inr (.inr (fun _ => none))))))]) [0, 1] (by decide) rfl
        exact W.aret (v := .ref y_52) hx hb hr (by first | exact Or.inl ⟨_, rfl⟩ | exact Or.inr ⟨_, rfl⟩) (Or.inr ⟨_, rfl⟩) (fun t ht hW => ⟨⟨(), y_52, rfl, trivial, (by rw [ht]; exact hP9), (hD9)⟩, hS.F ht⟩) hS.2.2 dJx4a65c_grow_92f84_59
      · exact absurd rfl c_2
  rw [hHe, hLe] at hgoal
  exact hgoal


set_option maxHeartbeats 4000000 in
set_option maxRecDepth 100000 in
theorem c_Jx4a65c_grow_d5877F (l : Launch) (D : va_G) (kl : Nat) (km : Int32) (n : Nat) (sz : Nat) (h0 : n = 0) : Met l yJx4a65c_grow_d5877 (Cond.code yJx4a65c_grow_d5877 cJx4a65c_grow_d5877 1 (some (.array (.object "java/lang/Object"))) :: lwAll) ({ frames := 2, cells := 1, slots := 10, locals := 44 } : Room) (va_Pc [.ref kl] (rPre D (lwTY2 D) [(kl, .inr (6, [.int km, .ref (D.2 200 0), .int (nI n)]))] sz)) (va_Qr (fun (_ : Unit) => True) (fun (_ : Unit) (ra : Nat) t => va_P D vwCl [(kl, .inr (6, [.int km, .ref ra, .int (nI n)])), (ra, .inl ((D.1 102), 10, .inr (.inr (.inr (.inr (fun _ => none))))))] t.heap ∧ va_D (va_A [(kl, .inr (6, [.int km, .ref (D.2 200 0), .int (nI n)]))] sz) [(kl, .inr (6, [.int km, .ref ra, .int (nI n)])), (ra, .inl ((D.1 102), 10, .inr (.inr (.inr (.inr (fun _ => none))))))]) (va_A [(kl, .inr (6, [.int km, .ref (D.2 200 0), .int (nI n)]))] sz)) 1 10 (va_A [(kl, .inr (6, [.int km, .ref (D.2 200 0), .int (nI n)]))] sz) := by
  refine Met.ofW (cc := cJx4a65c_grow_d5877) (maxL := 1) (ret := (some (.array (.object "java/lang/Object")))) (by decide) rfl ?_
  intro p e s m args below meth c s₁ B hml hv
  obtain ⟨rfl, ⟨hsz, hP, hK, hD0, hN, hZ⟩, hI⟩ := hv
  have hx := B.exec
  have hb := B.bytes
  have hr := B.returns
  have hts : ∀ wd ∈ lwAll, wd.before ([.ref kl] : List Value).toArray s = true := fun wd h => atoms_spec (ws := (Cond.code yJx4a65c_grow_d5877 cJx4a65c_grow_d5877 1 (some (.array (.object "java/lang/Object"))) :: lwAll)) B.pre wd (List.mem_cons_of_mem _ h)
  have hown : s.vm.findClass RJx4a65c = some m.cls := findClass_of_methodNamed B.named
  have hlocks := B.notSynchronized
  subst hsz
  have hD := hD0.self (sz := s.heap.size)
  have hl := lv_entry ([.ref kl]) (n := 1) (Nat.le_of_ble_eq_true rfl)
  rw [lg_entry_eq]
  generalize (lg_sl ([.ref kl]) ++ List.replicate (1 - (lg_sl ([.ref kl])).length) Slot.unset).toArray = ls at hl ⊢
  have hl : lv_has ls 1 [(0, .ref kl)] := hl
  have hS : va_S (va_A [(kl, .inr (6, [.int km, .ref (D.2 200 0), .int (nI n)]))] s.heap.size) s.heap s.heap [] := va_S.rf
  generalize hQe : MQ below (va_Qr (fun (_ : Unit) => True) (fun (_ : Unit) (ra : Nat) t => va_P D vwCl [(kl, .inr (6, [.int km, .ref ra, .int (nI n)])), (ra, .inl ((D.1 102), 10, .inr (.inr (.inr (.inr (fun _ => none))))))] t.heap ∧ va_D (va_A [(kl, .inr (6, [.int km, .ref (D.2 200 0), .int (nI n)]))] s.heap.size) [(kl, .inr (6, [.int km, .ref ra, .int (nI n)])), (ra, .inl ((D.1 102), 10, .inr (.inr (.inr (.inr (fun _ => none))))))]) (va_A [(kl, .inr (6, [.int km, .ref (D.2 200 0), .int (nI n)]))] s.heap.size)) ([.ref kl] : List Value).toArray s 1 10 (va_A [(kl, .inr (6, [.int km, .ref (D.2 200 0), .int (nI n)]))] s.heap.size) = Q
  have hP : va_P D vwCl [(kl, .inr (6, [.int km, .ref (D.2 200 0), .int (nI n)]))] s.heap := hP
  obtain ⟨A, hAe⟩ : ∃ A, A = va_A [(kl, .inr (6, [.int km, .ref (D.2 200 0), .int (nI n)]))] s.heap.size := ⟨_, rfl⟩
  rw [← hAe] at hD hZ hI hS
  have hA : ∀ q : Nat, s.heap.size ≤ q → A q := fun q h => by rw [hAe]; exact Or.inr h
  obtain ⟨H, hHe⟩ : ∃ H, H = s.heap := ⟨_, rfl⟩
  obtain ⟨locs, hLe⟩ : ∃ L : List Loc, L = [] := ⟨_, rfl⟩
  have hP : va_P D vwCl [(kl, .inr (6, [.int km, .ref (D.2 200 0), .int (nI n)]))] H := by rw [hHe]; exact hP
  have hS : va_S A s.heap H locs := by rw [hHe, hLe]; exact hS
  have hgoal : W p l e ({ frames := 2, cells := 1, slots := 10, locals := 44 } : Room) s m ([.ref kl] : List Value).toArray below meth c H locs 0 0 Q (F0 m 0 ls []) := by
    clear hHe hLe
    refine lv_aload_n hx hb dJx4a65c_grow_d5877_0 rfl (lv_at hl 0 rfl) ?_
    refine lv_aload_n hx hb dJx4a65c_grow_d5877_1 rfl (lv_at hl 0 rfl) ?_
    refine va_get (D := D) (ci := 6) (v := .int (nI n)) (C := RJx4a65c) (T := TJx4a65c) (N := 3) hx hb hts in_Jx4a65c hown hK hP 0 rfl rfl 2 (by decide) (hts _ q_1154) (fun _ h9 => h9) rfl dJx4a65c_grow_d5877_2 ?_
    refine lv_iconst (v := 1) hx hb dJx4a65c_grow_d5877_5 (by decide) ?_
    refine lv_iadd hx hb dJx4a65c_grow_d5877_6 ?_
    rw [show ((nI n) + 1 : Int32) = nI (n + 1) from (nI_1 _)]
    have hPc := hP.sub (ws' := [(kl, .inr (6, [.int km, .ref (D.2 200 0), .int (nI n)]))]) [0] rfl
    have hDc := hD.sub (ws' := [(kl, .inr (6, [.int km, .ref (D.2 200 0), .int (nI n)]))]) [0] (by decide) rfl
    have hFc := va_free (wc := [(kl, .inr (6, [.int km, .ref (D.2 200 0), .int (nI n)]))]) hD hS hA [0] rfl
    refine va_callr (va_runV (As := [.int (nI (n + 1))]) (rest := []) ⟨hx, hb, hml, hown, hts⟩ (c_Jx4a65c_grow_92f84F l D kl km n (nI (n + 1)) H.size (show n = 0 from (by omega)) (show (nI (n + 1)) = nI (n + 1) from rfl)) (cwV 1 hts (gi_V q_1225 q_1227 q_51 q_107 q_1228) rfl rfl rfl (by decide +kernel) ⟨Nat.le_of_ble_eq_true rfl, Nat.le_of_ble_eq_true rfl⟩) ⟨rPre_blind, va_recv hK hP (ci := 6) (q0 := 0) rfl rfl, rPre_mk (lwI_for hI hS hFc) hPc hK hDc hN (lwZ_for hZ hS hFc)⟩ rfl rfl hl.1 rfl (lv_room (Nat.le_of_ble_eq_true rfl)) dJx4a65c_grow_d5877_7 ⟨(show 0 + 1 ≤ 1 from (by omega)), (show 0 + 10 ≤ 10 from (by omega))⟩) hS (fun q _ h => hFc q h) hFc (fun u ra_7 t H1 locs ht hvm hw hBk hz1 hk1 hS => ?_)
    obtain ⟨hP1, hD1⟩ := hBk
    rw [ht] at hP1
    obtain ⟨hP, hD⟩ := va_join (wr := []) (w1 := [(kl, .inr (6, [.int km, .ref ra_7, .int (nI n)])), (ra_7, .inl ((D.1 102), 10, .inr (.inr (.inr (.inr (fun _ => none))))))]) hP hD [0] [] rfl rfl (by decide) (by decide) hk1 hFc hP1 hD1
    clear hPc hDc hFc hP1 hD1 hk1 hz1
    clear hvm ht u; clear t
    generalize H1 = H at hP hS ⊢
    have hP : va_P D vwCl [(kl, .inr (6, [.int km, .ref ra_7, .int (nI n)])), (ra_7, .inl ((D.1 102), 10, .inr (.inr (.inr (.inr (fun _ => none))))))] H := hP
    have hD : va_D A [(kl, .inr (6, [.int km, .ref ra_7, .int (nI n)])), (ra_7, .inl ((D.1 102), 10, .inr (.inr (.inr (.inr (fun _ => none))))))] := hD
    subst hQe
    subst hAe
    refine W.widen (k := 1) (n := 10) (by omega) (by omega) ?_
    have hP9 := hP.sub (ws' := [(kl, .inr (6, [.int km, .ref ra_7, .int (nI n)])), (ra_7, .inl ((D.1 102), 10, .inr (.inr (.inr (.inr (fun _ => none))))))]) [0, 1] rfl
    have hD9 := hD.sub (ws' := [(kl, .inr (6, [.int km, .ref ra_7, .int (nI n)])), (ra_7, .inl ((D.1 102), 10, .inr (.inr (.inr (.inr (fun _ => none))))))]) [0, 1] (by decide) rfl
    exact W.aret (v := .ref ra_7) hx hb hr (by first | exact Or.inl ⟨_, rfl⟩ | exact Or.inr ⟨_, rfl⟩) (Or.inr ⟨_, rfl⟩) (fun t ht hW => ⟨⟨(), ra_7, rfl, trivial, (by rw [ht]; exact hP9), (hD9)⟩, hS.F ht⟩) hS.2.2 dJx4a65c_grow_d5877_10
  rw [hHe, hLe] at hgoal
  exact hgoal

def F_Jx4a65c_add_72be8 (n : Nat) (cap : Nat) : Nat := (if n < cap then cap else (if cap = 0 then 10 else (n + n / 2)))
set_option maxHeartbeats 4000000 in
set_option maxRecDepth 100000 in
theorem c_Jx4a65c_add_72be8 (l : Launch) (D : va_G) (kl : Nat) (km : Int32) (kd : Nat) (n : Nat) (cap : Nat) (g : Nat → Option Nat) (v : Nat) (CC : String) (x3 : Int32) (sz : Nat) (hn : n ≤ cap) (hcb : cap ≤ 40000) (hk0 : cap = 0 → kd = D.2 200 0) (h10 : cap ≠ 0 → 10 ≤ cap) (hx3 : x3 = nI n) : Met l yJx4a65c_add_72be8 (Cond.code yJx4a65c_add_72be8 cJx4a65c_add_72be8 4 none :: lwAll) ({ frames := 5, cells := 1, slots := 4 * ((F_Jx4a65c_add_72be8 n cap) - cap), locals := 147 } : Room) (va_Pc [.ref kl, .ref v, .ref kd, .int x3] (mPre D (lwTY2 D) ((kl, .inr (6, [.int km, .ref kd, .int (nI n)])) :: (LD D cap kd g ++ [])) sz CC n g (some v))) (va_Qv (fun (_ : Nat × (Nat → Option Nat)) => True) (fun (u : Nat × (Nat → Option Nat)) t => va_P D vwCl ((kl, .inr (6, [.int km, .ref u.1, .int (nI (n + 1))])) :: (LD D (F_Jx4a65c_add_72be8 n cap) u.1 u.2 ++ [])) t.heap ∧ va_D (va_A ((kl, .inr (6, [.int km, .ref kd, .int (nI n)])) :: (LD D cap kd g ++ [])) sz) ((kl, .inr (6, [.int km, .ref u.1, .int (nI (n + 1))])) :: (LD D (F_Jx4a65c_add_72be8 n cap) u.1 u.2 ++ [])) ∧ ((∀ i, i < n → u.2 i = g i) ∧ u.2 n = some v)) (va_A ((kl, .inr (6, [.int km, .ref kd, .int (nI n)])) :: (LD D cap kd g ++ [])) sz)) 1 (4 * ((F_Jx4a65c_add_72be8 n cap) - cap)) (va_A ((kl, .inr (6, [.int km, .ref kd, .int (nI n)])) :: (LD D cap kd g ++ [])) sz) := by
  subst hx3
  refine Met.ofW (cc := cJx4a65c_add_72be8) (maxL := 4) (ret := none) (by decide) rfl ?_
  intro p e s m args below meth c s₁ B hml hv
  obtain ⟨rfl, ⟨⟨hsz, hP, hK, hD0, hN, hZ⟩, hI⟩, hEl, hOv, hCa⟩ := hv
  have hx := B.exec
  have hb := B.bytes
  have hr := B.returns
  have hts : ∀ wd ∈ lwAll, wd.before ([.ref kl, .ref v, .ref kd, .int (nI n)] : List Value).toArray s = true := fun wd h => atoms_spec (ws := (Cond.code yJx4a65c_add_72be8 cJx4a65c_add_72be8 4 none :: lwAll)) B.pre wd (List.mem_cons_of_mem _ h)
  have hown : s.vm.findClass RJx4a65c = some m.cls := findClass_of_methodNamed B.named
  have hlocks := B.notSynchronized
  subst hsz
  have hD := hD0.self (sz := s.heap.size)
  have hl := lv_entry ([.ref kl, .ref v, .ref kd, .int (nI n)]) (n := 4) (Nat.le_of_ble_eq_true rfl)
  rw [lg_entry_eq]
  generalize (lg_sl ([.ref kl, .ref v, .ref kd, .int (nI n)]) ++ List.replicate (4 - (lg_sl ([.ref kl, .ref v, .ref kd, .int (nI n)])).length) Slot.unset).toArray = ls at hl ⊢
  have hl : lv_has ls 4 [(0, .ref kl), (1, .ref v), (2, .ref kd), (3, .int (nI n))] := hl
  have hS : va_S (va_A ((kl, .inr (6, [.int km, .ref kd, .int (nI n)])) :: (LD D cap kd g ++ [])) s.heap.size) s.heap s.heap [] := va_S.rf
  generalize hQe : MQ below (va_Qv (fun (_ : Nat × (Nat → Option Nat)) => True) (fun (u : Nat × (Nat → Option Nat)) t => va_P D vwCl ((kl, .inr (6, [.int km, .ref u.1, .int (nI (n + 1))])) :: (LD D (F_Jx4a65c_add_72be8 n cap) u.1 u.2 ++ [])) t.heap ∧ va_D (va_A ((kl, .inr (6, [.int km, .ref kd, .int (nI n)])) :: (LD D cap kd g ++ [])) s.heap.size) ((kl, .inr (6, [.int km, .ref u.1, .int (nI (n + 1))])) :: (LD D (F_Jx4a65c_add_72be8 n cap) u.1 u.2 ++ [])) ∧ ((∀ i, i < n → u.2 i = g i) ∧ u.2 n = some v)) (va_A ((kl, .inr (6, [.int km, .ref kd, .int (nI n)])) :: (LD D cap kd g ++ [])) s.heap.size)) ([.ref kl, .ref v, .ref kd, .int (nI n)] : List Value).toArray s 1 (4 * ((F_Jx4a65c_add_72be8 n cap) - cap)) (va_A ((kl, .inr (6, [.int km, .ref kd, .int (nI n)])) :: (LD D cap kd g ++ [])) s.heap.size) = Q
  have hP : va_P D vwCl ((kl, .inr (6, [.int km, .ref kd, .int (nI n)])) :: (LD D cap kd g ++ [])) s.heap := hP
  obtain ⟨A, hAe⟩ : ∃ A, A = va_A ((kl, .inr (6, [.int km, .ref kd, .int (nI n)])) :: (LD D cap kd g ++ [])) s.heap.size := ⟨_, rfl⟩
  rw [← hAe] at hD hZ hI hEl hOv hS
  have hA : ∀ q : Nat, s.heap.size ≤ q → A q := fun q h => by rw [hAe]; exact Or.inr h
  obtain ⟨H, hHe⟩ : ∃ H, H = s.heap := ⟨_, rfl⟩
  obtain ⟨locs, hLe⟩ : ∃ L : List Loc, L = [] := ⟨_, rfl⟩
  have hP : va_P D vwCl ((kl, .inr (6, [.int km, .ref kd, .int (nI n)])) :: (LD D cap kd g ++ [])) H := by rw [hHe]; exact hP
  have hS : va_S A s.heap H locs := by rw [hHe, hLe]; exact hS
  have hgoal : W p l e ({ frames := 5, cells := 1, slots := 4 * ((F_Jx4a65c_add_72be8 n cap) - cap), locals := 147 } : Room) s m ([.ref kl, .ref v, .ref kd, .int (nI n)] : List Value).toArray below meth c H locs 0 0 Q (F0 m 0 ls []) := by
    clear hHe hLe
    by_cases c_1 : n < cap
    · refine lv_iload_n hx hb dJx4a65c_add_72be8_0 rfl (lv_at hl 3 rfl) ?_
      refine lv_aload_n hx hb dJx4a65c_add_72be8_1 rfl (lv_at hl 2 rfl) ?_
      have hLD : LD D cap kd g = [(kd, .inl ((D.1 102), cap, .inr (.inr (.inr (.inr g)))))] := if_neg (by omega)
      rw [hLD] at hP hD
      clear hLD
      have hP : va_P D vwCl [(kl, .inr (6, [.int km, .ref kd, .int (nI n)])), (kd, .inl ((D.1 102), cap, .inr (.inr (.inr (.inr g)))))] H := wb_P (bs := [[(kl, .inr (6, [.int km, .ref kd, .int (nI n)]))], [(kd, .inl ((D.1 102), cap, .inr (.inr (.inr (.inr g)))))]]) (cs := [[(kl, .inr (6, [.int km, .ref kd, .int (nI n)]))], [(kd, .inl ((D.1 102), cap, .inr (.inr (.inr (.inr g)))))]]) [0, 1] rfl hP
      have hD : va_D A [(kl, .inr (6, [.int km, .ref kd, .int (nI n)])), (kd, .inl ((D.1 102), cap, .inr (.inr (.inr (.inr g)))))] := wb_D (bs := [[(kl, .inr (6, [.int km, .ref kd, .int (nI n)]))], [(kd, .inl ((D.1 102), cap, .inr (.inr (.inr (.inr g)))))]]) (cs := [[(kl, .inr (6, [.int km, .ref kd, .int (nI n)]))], [(kd, .inl ((D.1 102), cap, .inr (.inr (.inr (.inr g)))))]]) [0, 1] (by decide) rfl hD
      refine va_alen hx hb hK hP 1 2 rfl rfl (v := nI cap) rfl dJx4a65c_add_72be8_2 ?_
      refine lv_icmp_ne (tgt := 11) hx hb dJx4a65c_add_72be8_3 (by decide) (fun c_2 => ?_) (fun c_2 => ?_)
      · refine lv_aload_n hx hb dJx4a65c_add_72be8_11 rfl (lv_at hl 2 rfl) ?_
        refine lv_iload_n hx hb dJx4a65c_add_72be8_12 rfl (lv_at hl 3 rfl) ?_
        refine lv_aload_n hx hb dJx4a65c_add_72be8_13 rfl (lv_at hl 1 rfl) ?_
        refine va_astqM hx hb hK hP hD hS 1 2 rfl rfl (any_keep hS (hOv _ rfl).1 (hOv _ rfl).2) (vp_in_nI (by omega) (by omega)) dJx4a65c_add_72be8_14 (fun H locs hP hD hS => ?_)
        rw [nI_clamp (by omega)] at hP hD
        have hP : va_P D vwCl [(kl, .inr (6, [.int km, .ref kd, .int (nI n)])), (kd, .inl ((D.1 102), cap, .inr (.inr (.inr (.inr (va_up g n (some v)))))))] H := hP
        have hD : va_D A [(kl, .inr (6, [.int km, .ref kd, .int (nI n)])), (kd, .inl ((D.1 102), cap, .inr (.inr (.inr (.inr (va_up g n (some v)))))))] := hD
        refine lv_aload_n hx hb dJx4a65c_add_72be8_15 rfl (lv_at hl 0 rfl) ?_
        refine lv_iload_n hx hb dJx4a65c_add_72be8_16 rfl (lv_at hl 3 rfl) ?_
        refine lv_iconst (v := 1) hx hb dJx4a65c_add_72be8_17 (by decide) ?_
        refine lv_iadd hx hb dJx4a65c_add_72be8_18 ?_
        rw [show ((nI n) + 1 : Int32) = nI (n + 1) from (nI_1 _)]
        refine va_put (D := D) (ci := 6) (v := .int (nI (n + 1))) (ty := .int) (C := RJx4a65c) (T := TJx4a65c) (N := 3) hx hb hts in_Jx4a65c tyJx4a65c tyJx4a65c_ok nmJx4a65c hown hK hP hD hS 0 rfl rfl 2 (by decide) (hts _ q_1154) (fun _ h9 => h9) rfl (by decide +kernel) rfl rfl (Nat.le_of_ble_eq_true rfl) dJx4a65c_add_72be8_19 (fun H locs hP hD hS => ?_)
        have hP : va_P D vwCl [(kl, .inr (6, [.int km, .ref kd, .int (nI (n + 1))])), (kd, .inl ((D.1 102), cap, .inr (.inr (.inr (.inr (va_up g n (some v)))))))] H := hP
        have hD : va_D A [(kl, .inr (6, [.int km, .ref kd, .int (nI (n + 1))])), (kd, .inl ((D.1 102), cap, .inr (.inr (.inr (.inr (va_up g n (some v)))))))] := hD
        have hP := hP.sub (ws' := [(kl, .inr (6, [.int km, .ref kd, .int (nI (n + 1))])), (kd, .inl ((D.1 102), cap, .inr (.inr (.inr (.inr (va_up g n (some v)))))))]) [0, 1] rfl
        have hD := hD.sub (ws' := [(kl, .inr (6, [.int km, .ref kd, .int (nI (n + 1))])), (kd, .inl ((D.1 102), cap, .inr (.inr (.inr (.inr (va_up g n (some v)))))))]) [0, 1] (by decide) rfl
        have hP := wb_P (bs := [[(kl, .inr (6, [.int km, .ref kd, .int (nI (n + 1))]))], [(kd, .inl ((D.1 102), cap, .inr (.inr (.inr (.inr (va_up g n (some v)))))))]]) (cs := [[(kl, .inr (6, [.int km, .ref kd, .int (nI (n + 1))]))], [(kd, .inl ((D.1 102), cap, .inr (.inr (.inr (.inr (va_up g n (some v)))))))]]) [0, 1] rfl hP
        have hD := wb_D (bs := [[(kl, .inr (6, [.int km, .ref kd, .int (nI (n + 1))]))], [(kd, .inl ((D.1 102), cap, .inr (.inr (.inr (.inr (va_up g n (some v)))))))]]) (cs := [[(kl, .inr (6, [.int km, .ref kd, .int (nI (n + 1))]))], [(kd, .inl ((D.1 102), cap, .inr (.inr (.inr (.inr (va_up g n (some v)))))))]]) [0, 1] (by decide) rfl hD
        have hLD : LD D cap kd (va_up g n (some v)) = [(kd, .inl ((D.1 102), cap, .inr (.inr (.inr (.inr (va_up g n (some v)))))))] := if_neg (by omega)
        have hP : va_P D vwCl ((kl, .inr (6, [.int km, .ref kd, .int (nI (n + 1))])) :: (LD D cap kd (va_up g n (some v)) ++ [])) H := by show va_P D vwCl (List.flatten [[(kl, .inr (6, [.int km, .ref kd, .int (nI (n + 1))]))], LD D cap kd (va_up g n (some v))]) H; rw [hLD]; exact hP
        have hD : va_D A ((kl, .inr (6, [.int km, .ref kd, .int (nI (n + 1))])) :: (LD D cap kd (va_up g n (some v)) ++ [])) := by show va_D A (List.flatten [[(kl, .inr (6, [.int km, .ref kd, .int (nI (n + 1))]))], LD D cap kd (va_up g n (some v))]); rw [hLD]; exact hD
        clear hLD
        subst hQe
        subst hAe
        have hE : (F_Jx4a65c_add_72be8 n cap) = cap := (by unfold F_Jx4a65c_add_72be8; rw [if_pos c_1])
        refine W.widen (k := 1) (n := 4 * ((F_Jx4a65c_add_72be8 n cap) - cap)) (by omega) (by omega) ?_
        have hP9 : va_P D vwCl ((kl, .inr (6, [.int km, .ref kd, .int (nI (n + 1))])) :: (LD D cap kd (va_up g n (some v)) ++ [])) H := wb_P (bs := [[(kl, .inr (6, [.int km, .ref kd, .int (nI (n + 1))]))], LD D cap kd (va_up g n (some v))]) (cs := [[(kl, .inr (6, [.int km, .ref kd, .int (nI (n + 1))]))], LD D cap kd (va_up g n (some v))]) [0, 1] rfl hP
        have hD9 : va_D _ ((kl, .inr (6, [.int km, .ref kd, .int (nI (n + 1))])) :: (LD D cap kd (va_up g n (some v)) ++ [])) := wb_D (bs := [[(kl, .inr (6, [.int km, .ref kd, .int (nI (n + 1))]))], LD D cap kd (va_up g n (some v))]) (cs := [[(kl, .inr (6, [.int km, .ref kd, .int (nI (n + 1))]))], LD D cap kd (va_up g n (some v))]) [0, 1] (by decide) rfl hD
        exact W.vret hx hb hr (fun t ht hW => ⟨⟨(kd, va_up g n (some v)), rfl, trivial, (by (try rw [hE]); rw [ht]; exact hP9), (by (try rw [hE]); exact hD9), (by dsimp only; exact ⟨fun i hi => va_up_ne _ _ (by omega), va_up_self _ _ _⟩)⟩, hS.F ht⟩) hS.2.2 dJx4a65c_add_72be8_22
      · exact absurd c_2 (nI_ne9 (by omega) (by omega) (by omega))
    · refine lv_iload_n hx hb dJx4a65c_add_72be8_0 rfl (lv_at hl 3 rfl) ?_
      by_cases c_3 : cap = 0
      · refine lv_aload_n hx hb dJx4a65c_add_72be8_1 rfl (lv_at hl 2 rfl) ?_
        have hE0 : va_T (.object "java/lang/Object") kd 0 (fun _ => .null) A s s.heap := by rw [hk0 c_3]; exact hI.1.2
        rw [hk0 c_3] at hP hD
        have hP : va_P D vwCl ((kl, .inr (6, [.int km, .ref (D.2 200 0), .int (nI n)])) :: (LD D cap (D.2 200 0) g ++ [])) H := hP
        have hD : va_D A ((kl, .inr (6, [.int km, .ref (D.2 200 0), .int (nI n)])) :: (LD D cap (D.2 200 0) g ++ [])) := hD
        refine va_tlen hx hb hE0 hS (v := 0) rfl dJx4a65c_add_72be8_2 ?_
        refine lv_icmp_ne (tgt := 11) hx hb dJx4a65c_add_72be8_3 (by decide) (fun c_4 => ?_) (fun c_4 => ?_)
        · exact absurd (by rw [show n = 0 from by omega]; rfl) c_4
        · refine lv_aload_n hx hb dJx4a65c_add_72be8_6 rfl (lv_at hl 0 rfl) ?_
          have hE7 : (F_Jx4a65c_add_72be8 n cap) = 10 := by unfold F_Jx4a65c_add_72be8; rw [if_neg c_1, if_pos c_3]
          have hPc : va_P D vwCl [(kl, .inr (6, [.int km, .ref (D.2 200 0), .int (nI n)]))] H := wb_P (bs := [[(kl, .inr (6, [.int km, .ref (D.2 200 0), .int (nI n)]))], LD D cap (D.2 200 0) g]) (cs := [[(kl, .inr (6, [.int km, .ref (D.2 200 0), .int (nI n)]))]]) [0] rfl hP
          have hDc : va_D _ [(kl, .inr (6, [.int km, .ref (D.2 200 0), .int (nI n)]))] := wb_D (bs := [[(kl, .inr (6, [.int km, .ref (D.2 200 0), .int (nI n)]))], LD D cap (D.2 200 0) g]) (cs := [[(kl, .inr (6, [.int km, .ref (D.2 200 0), .int (nI n)]))]]) [0] (by decide) rfl hD
          have hFc : ∀ q9 : Nat, va_A [(kl, .inr (6, [.int km, .ref (D.2 200 0), .int (nI n)]))] H.size q9 → A q9 := wb_free (bs := [[(kl, .inr (6, [.int km, .ref (D.2 200 0), .int (nI n)]))], LD D cap (D.2 200 0) g]) (cs := [[(kl, .inr (6, [.int km, .ref (D.2 200 0), .int (nI n)]))]]) hD hS hA [0] rfl
          refine va_callr (va_runV (As := []) (rest := []) ⟨hx, hb, hml, hown, hts⟩ (c_Jx4a65c_grow_d5877F l D kl km n H.size (show n = 0 from (by omega))) (cwV 0 hts (gi_V q_1221 q_1223 q_50 q_107 q_1224) rfl rfl rfl (by decide +kernel) ⟨Nat.le_of_ble_eq_true rfl, Nat.le_of_ble_eq_true rfl⟩) ⟨rPre_blind, va_recv hK hP (ci := 6) (q0 := 0) rfl rfl, rPre_mk (lwI_for hI hS hFc) hPc hK hDc hN (lwZ_for hZ hS hFc)⟩ rfl rfl hl.1 rfl (lv_room (Nat.le_of_ble_eq_true rfl)) dJx4a65c_add_72be8_7 ⟨(show 0 + 1 ≤ 1 from (by omega)), (show 0 + 10 ≤ (4 * ((F_Jx4a65c_add_72be8 n cap) - cap)) from (by omega))⟩) hS (fun q _ h => hFc q h) hFc (fun u ra_7 t H1 locs ht hvm hw hBk hz1 hk1 hS => ?_)
          obtain ⟨hP1, hD1⟩ := hBk
          rw [ht] at hP1
          obtain ⟨hP, hD⟩ := wb_join (bs := [[(kl, .inr (6, [.int km, .ref (D.2 200 0), .int (nI n)]))], LD D cap (D.2 200 0) g]) (cs := [[(kl, .inr (6, [.int km, .ref (D.2 200 0), .int (nI n)]))]]) (rs := [LD D cap (D.2 200 0) g]) (ns := [[(kl, .inr (6, [.int km, .ref ra_7, .int (nI n)]))], [(ra_7, .inl ((D.1 102), 10, .inr (.inr (.inr (.inr (fun _ => none))))))]]) hP hD [0] [1] rfl rfl (by decide) (by decide) hk1 hFc hP1 hD1
          have hP : va_P D vwCl ((kl, .inr (6, [.int km, .ref ra_7, .int (nI n)])) :: (ra_7, .inl ((D.1 102), 10, .inr (.inr (.inr (.inr (fun _ => none)))))) :: (LD D cap (D.2 200 0) g ++ [])) H1 := wb_P (bs := [LD D cap (D.2 200 0) g, [(kl, .inr (6, [.int km, .ref ra_7, .int (nI n)]))], [(ra_7, .inl ((D.1 102), 10, .inr (.inr (.inr (.inr (fun _ => none))))))]]) (cs := [[(kl, .inr (6, [.int km, .ref ra_7, .int (nI n)]))], [(ra_7, .inl ((D.1 102), 10, .inr (.inr (.inr (.inr (fun _ => none))))))], LD D cap (D.2 200 0) g]) [1, 2, 0] rfl hP
          have hD : va_D A ((kl, .inr (6, [.int km, .ref ra_7, .int (nI n)])) :: (ra_7, .inl ((D.1 102), 10, .inr (.inr (.inr (.inr (fun _ => none)))))) :: (LD D cap (D.2 200 0) g ++ [])) := wb_D (bs := [LD D cap (D.2 200 0) g, [(kl, .inr (6, [.int km, .ref ra_7, .int (nI n)]))], [(ra_7, .inl ((D.1 102), 10, .inr (.inr (.inr (.inr (fun _ => none))))))]]) (cs := [[(kl, .inr (6, [.int km, .ref ra_7, .int (nI n)]))], [(ra_7, .inl ((D.1 102), 10, .inr (.inr (.inr (.inr (fun _ => none))))))], LD D cap (D.2 200 0) g]) [1, 2, 0] (by decide) rfl hD
          clear hPc hDc hFc hP1 hD1 hk1 hz1
          clear hvm ht u; clear t
          generalize H1 = H at hP hS ⊢
          refine lv_astore_n (lv' := [(2, .ref ra_7), (0, .ref kl), (1, .ref v), (3, .int (nI n))]) hx hb dJx4a65c_add_72be8_10 rfl hl (by decide) rfl (fun ls hl => ?_)
          refine lv_aload_n hx hb dJx4a65c_add_72be8_11 rfl (lv_at hl 0 rfl) ?_
          refine lv_iload_n hx hb dJx4a65c_add_72be8_12 rfl (lv_at hl 3 rfl) ?_
          refine lv_aload_n hx hb dJx4a65c_add_72be8_13 rfl (lv_at hl 2 rfl) ?_
          refine va_astqM hx hb hK hP hD hS 1 2 rfl rfl (any_keep hS (hOv _ rfl).1 (hOv _ rfl).2) (vp_in_nI (by omega) (by omega)) dJx4a65c_add_72be8_14 (fun H locs hP hD hS => ?_)
          rw [nI_clamp (by omega)] at hP hD
          have hP : va_P D vwCl ((kl, .inr (6, [.int km, .ref ra_7, .int (nI n)])) :: (ra_7, .inl ((D.1 102), 10, .inr (.inr (.inr (.inr (va_up (fun _ => none) n (some v))))))) :: (LD D cap (D.2 200 0) g ++ [])) H := hP
          have hD : va_D A ((kl, .inr (6, [.int km, .ref ra_7, .int (nI n)])) :: (ra_7, .inl ((D.1 102), 10, .inr (.inr (.inr (.inr (va_up (fun _ => none) n (some v))))))) :: (LD D cap (D.2 200 0) g ++ [])) := hD
          refine lv_aload_n hx hb dJx4a65c_add_72be8_15 rfl (lv_at hl 1 rfl) ?_
          refine lv_iload_n hx hb dJx4a65c_add_72be8_16 rfl (lv_at hl 3 rfl) ?_
          refine lv_iconst (v := 1) hx hb dJx4a65c_add_72be8_17 (by decide) ?_
          refine lv_iadd hx hb dJx4a65c_add_72be8_18 ?_
          rw [show ((nI n) + 1 : Int32) = nI (n + 1) from (nI_1 _)]
          refine va_put (D := D) (ci := 6) (v := .int (nI (n + 1))) (ty := .int) (C := RJx4a65c) (T := TJx4a65c) (N := 3) hx hb hts in_Jx4a65c tyJx4a65c tyJx4a65c_ok nmJx4a65c hown hK hP hD hS 0 rfl rfl 2 (by decide) (hts _ q_1154) (fun _ h9 => h9) rfl (by decide +kernel) rfl rfl (Nat.le_of_ble_eq_true rfl) dJx4a65c_add_72be8_19 (fun H locs hP hD hS => ?_)
          have hP : va_P D vwCl ((kl, .inr (6, [.int km, .ref ra_7, .int (nI (n + 1))])) :: (ra_7, .inl ((D.1 102), 10, .inr (.inr (.inr (.inr (va_up (fun _ => none) n (some v))))))) :: (LD D cap (D.2 200 0) g ++ [])) H := hP
          have hD : va_D A ((kl, .inr (6, [.int km, .ref ra_7, .int (nI (n + 1))])) :: (ra_7, .inl ((D.1 102), 10, .inr (.inr (.inr (.inr (va_up (fun _ => none) n (some v))))))) :: (LD D cap (D.2 200 0) g ++ [])) := hD
          have hP : va_P D vwCl [(kl, .inr (6, [.int km, .ref ra_7, .int (nI (n + 1))])), (ra_7, .inl ((D.1 102), 10, .inr (.inr (.inr (.inr (va_up (fun _ => none) n (some v)))))))] H := wb_P (bs := [[(kl, .inr (6, [.int km, .ref ra_7, .int (nI (n + 1))]))], [(ra_7, .inl ((D.1 102), 10, .inr (.inr (.inr (.inr (va_up (fun _ => none) n (some v)))))))], LD D cap (D.2 200 0) g]) (cs := [[(kl, .inr (6, [.int km, .ref ra_7, .int (nI (n + 1))]))], [(ra_7, .inl ((D.1 102), 10, .inr (.inr (.inr (.inr (va_up (fun _ => none) n (some v)))))))]]) [0, 1] rfl hP
          have hD : va_D _ [(kl, .inr (6, [.int km, .ref ra_7, .int (nI (n + 1))])), (ra_7, .inl ((D.1 102), 10, .inr (.inr (.inr (.inr (va_up (fun _ => none) n (some v)))))))] := wb_D (bs := [[(kl, .inr (6, [.int km, .ref ra_7, .int (nI (n + 1))]))], [(ra_7, .inl ((D.1 102), 10, .inr (.inr (.inr (.inr (va_up (fun _ => none) n (some v)))))))], LD D cap (D.2 200 0) g]) (cs := [[(kl, .inr (6, [.int km, .ref ra_7, .int (nI (n + 1))]))], [(ra_7, .inl ((D.1 102), 10, .inr (.inr (.inr (.inr (va_up (fun _ => none) n (some v)))))))]]) [0, 1] (by decide) rfl hD
          have hP := wb_P (bs := [[(kl, .inr (6, [.int km, .ref ra_7, .int (nI (n + 1))]))], [(ra_7, .inl ((D.1 102), 10, .inr (.inr (.inr (.inr (va_up (fun _ => none) n (some v)))))))]]) (cs := [[(kl, .inr (6, [.int km, .ref ra_7, .int (nI (n + 1))]))], [(ra_7, .inl ((D.1 102), 10, .inr (.inr (.inr (.inr (va_up (fun _ => none) n (some v)))))))]]) [0, 1] rfl hP
          have hD := wb_D (bs := [[(kl, .inr (6, [.int km, .ref ra_7, .int (nI (n + 1))]))], [(ra_7, .inl ((D.1 102), 10, .inr (.inr (.inr (.inr (va_up (fun _ => none) n (some v)))))))]]) (cs := [[(kl, .inr (6, [.int km, .ref ra_7, .int (nI (n + 1))]))], [(ra_7, .inl ((D.1 102), 10, .inr (.inr (.inr (.inr (va_up (fun _ => none) n (some v)))))))]]) [0, 1] (by decide) rfl hD
          have hLD : LD D 10 ra_7 (va_up (fun _ => none) n (some v)) = [(ra_7, .inl ((D.1 102), 10, .inr (.inr (.inr (.inr (va_up (fun _ => none) n (some v)))))))] := if_neg (by decide)
          have hP : va_P D vwCl ((kl, .inr (6, [.int km, .ref ra_7, .int (nI (n + 1))])) :: (LD D 10 ra_7 (va_up (fun _ => none) n (some v)) ++ [])) H := by show va_P D vwCl (List.flatten [[(kl, .inr (6, [.int km, .ref ra_7, .int (nI (n + 1))]))], LD D 10 ra_7 (va_up (fun _ => none) n (some v))]) H; rw [hLD]; exact hP
          have hD : va_D A ((kl, .inr (6, [.int km, .ref ra_7, .int (nI (n + 1))])) :: (LD D 10 ra_7 (va_up (fun _ => none) n (some v)) ++ [])) := by show va_D A (List.flatten [[(kl, .inr (6, [.int km, .ref ra_7, .int (nI (n + 1))]))], LD D 10 ra_7 (va_up (fun _ => none) n (some v))]); rw [hLD]; exact hD
          clear hLD
          subst hQe
          subst hAe
          have hE : (F_Jx4a65c_add_72be8 n cap) = 10 := (by unfold F_Jx4a65c_add_72be8; rw [if_neg c_1, if_pos c_3])
          refine W.widen (k := 1) (n := 4 * ((F_Jx4a65c_add_72be8 n cap) - cap)) (by omega) (by omega) ?_
          have hP9 : va_P D vwCl ((kl, .inr (6, [.int km, .ref ra_7, .int (nI (n + 1))])) :: (LD D 10 ra_7 (va_up (fun _ => none) n (some v)) ++ [])) H := wb_P (bs := [[(kl, .inr (6, [.int km, .ref ra_7, .int (nI (n + 1))]))], LD D 10 ra_7 (va_up (fun _ => none) n (some v))]) (cs := [[(kl, .inr (6, [.int km, .ref ra_7, .int (nI (n + 1))]))], LD D 10 ra_7 (va_up (fun _ => none) n (some v))]) [0, 1] rfl hP
          have hD9 : va_D _ ((kl, .inr (6, [.int km, .ref ra_7, .int (nI (n + 1))])) :: (LD D 10 ra_7 (va_up (fun _ => none) n (some v)) ++ [])) := wb_D (bs := [[(kl, .inr (6, [.int km, .ref ra_7, .int (nI (n + 1))]))], LD D 10 ra_7 (va_up (fun _ => none) n (some v))]) (cs := [[(kl, .inr (6, [.int km, .ref ra_7, .int (nI (n + 1))]))], LD D 10 ra_7 (va_up (fun _ => none) n (some v))]) [0, 1] (by decide) rfl hD
          exact W.vret hx hb hr (fun t ht hW => ⟨⟨(ra_7, va_up (fun _ => none) n (some v)), rfl, trivial, (by (try rw [hE]); rw [ht]; exact hP9), (by (try rw [hE]); exact hD9), (by dsimp only; exact ⟨fun i hi => absurd hi (by omega), va_up_self _ _ _⟩)⟩, hS.F ht⟩) hS.2.2 dJx4a65c_add_72be8_22
      · refine lv_aload_n hx hb dJx4a65c_add_72be8_1 rfl (lv_at hl 2 rfl) ?_
        have hLD : LD D cap kd g = [(kd, .inl ((D.1 102), cap, .inr (.inr (.inr (.inr g)))))] := if_neg c_3
        rw [hLD] at hP hD
        clear hLD
        have hP : va_P D vwCl [(kl, .inr (6, [.int km, .ref kd, .int (nI n)])), (kd, .inl ((D.1 102), cap, .inr (.inr (.inr (.inr g)))))] H := wb_P (bs := [[(kl, .inr (6, [.int km, .ref kd, .int (nI n)]))], [(kd, .inl ((D.1 102), cap, .inr (.inr (.inr (.inr g)))))]]) (cs := [[(kl, .inr (6, [.int km, .ref kd, .int (nI n)]))], [(kd, .inl ((D.1 102), cap, .inr (.inr (.inr (.inr g)))))]]) [0, 1] rfl hP
        have hD : va_D A [(kl, .inr (6, [.int km, .ref kd, .int (nI n)])), (kd, .inl ((D.1 102), cap, .inr (.inr (.inr (.inr g)))))] := wb_D (bs := [[(kl, .inr (6, [.int km, .ref kd, .int (nI n)]))], [(kd, .inl ((D.1 102), cap, .inr (.inr (.inr (.inr g)))))]]) (cs := [[(kl, .inr (6, [.int km, .ref kd, .int (nI n)]))], [(kd, .inl ((D.1 102), cap, .inr (.inr (.inr (.inr g)))))]]) [0, 1] (by decide) rfl hD
        rw [show cap = n from by omega] at hP hD
        have hP : va_P D vwCl [(kl, .inr (6, [.int km, .ref kd, .int (nI n)])), (kd, .inl ((D.1 102), n, .inr (.inr (.inr (.inr g)))))] H := hP
        have hD : va_D A [(kl, .inr (6, [.int km, .ref kd, .int (nI n)])), (kd, .inl ((D.1 102), n, .inr (.inr (.inr (.inr g)))))] := hD
        refine va_alen hx hb hK hP 1 2 rfl rfl (v := nI n) rfl dJx4a65c_add_72be8_2 ?_
        refine lv_icmp_ne (tgt := 11) hx hb dJx4a65c_add_72be8_3 (by decide) (fun c_5 => ?_) (fun c_5 => ?_)
        · exact absurd rfl c_5
        · refine lv_aload_n hx hb dJx4a65c_add_72be8_6 rfl (lv_at hl 0 rfl) ?_
          have hE7 : (F_Jx4a65c_add_72be8 n cap) = n + n / 2 := by unfold F_Jx4a65c_add_72be8; rw [if_neg c_1, if_neg c_3]
          have hPc := hP.sub (ws' := [(kl, .inr (6, [.int km, .ref kd, .int (nI n)])), (kd, .inl ((D.1 102), n, .inr (.inr (.inr (.inr g)))))]) [0, 1] rfl
          have hDc := hD.sub (ws' := [(kl, .inr (6, [.int km, .ref kd, .int (nI n)])), (kd, .inl ((D.1 102), n, .inr (.inr (.inr (.inr g)))))]) [0, 1] (by decide) rfl
          have hFc := va_free (wc := [(kl, .inr (6, [.int km, .ref kd, .int (nI n)])), (kd, .inl ((D.1 102), n, .inr (.inr (.inr (.inr g)))))]) hD hS hA [0, 1] rfl
          refine va_callr (va_runV (As := []) (rest := []) ⟨hx, hb, hml, hown, hts⟩ (c_Jx4a65c_grow_d5877G l D kl km kd n g CC H.size (show 10 ≤ n from (by omega)) (show n ≤ 40000 from (by omega))) (cwV 0 hts (gi_V q_1221 q_1223 q_50 q_107 q_1224) rfl rfl rfl (by decide +kernel) ⟨Nat.le_of_ble_eq_true rfl, Nat.le_of_ble_eq_true rfl⟩) ⟨mPre_blind, va_recv hK hP (ci := 6) (q0 := 0) rfl rfl, mPre_mk hS hFc hEl (fun v9 h9 => by cases h9) hCa (lwI_for hI hS hFc) hPc hK hDc hN (lwZ_for hZ hS hFc)⟩ rfl rfl hl.1 rfl (lv_room (Nat.le_of_ble_eq_true rfl)) dJx4a65c_add_72be8_7 ⟨(show 0 + 1 ≤ 1 from (by omega)), (show 0 + (n + n / 2) ≤ (4 * ((F_Jx4a65c_add_72be8 n cap) - cap)) from (by omega))⟩) hS (fun q _ h => hFc q h) hFc (fun u ra_7 t H1 locs ht hvm hw hBk hz1 hk1 hS => ?_)
          obtain ⟨hP1, hD1⟩ := hBk
          rw [ht] at hP1
          obtain ⟨hP, hD⟩ := va_join (wr := []) (w1 := [(kl, .inr (6, [.int km, .ref ra_7, .int (nI n)])), (kd, .inl ((D.1 102), n, .inr (.inr (.inr (.inr g))))), (ra_7, .inl ((D.1 102), (n + n / 2), .inr (.inr (.inr (.inr (va_cpy g (fun _ => none) 0 0 n))))))]) hP hD [0, 1] [] rfl rfl (by decide) (by decide) hk1 hFc hP1 hD1
          clear hPc hDc hFc hP1 hD1 hk1 hz1
          clear hvm ht u; clear t
          generalize H1 = H at hP hS ⊢
          have hP : va_P D vwCl [(kl, .inr (6, [.int km, .ref ra_7, .int (nI n)])), (kd, .inl ((D.1 102), n, .inr (.inr (.inr (.inr g))))), (ra_7, .inl ((D.1 102), (n + n / 2), .inr (.inr (.inr (.inr (va_cpy g (fun _ => none) 0 0 n))))))] H := hP
          have hD : va_D A [(kl, .inr (6, [.int km, .ref ra_7, .int (nI n)])), (kd, .inl ((D.1 102), n, .inr (.inr (.inr (.inr g))))), (ra_7, .inl ((D.1 102), (n + n / 2), .inr (.inr (.inr (.inr (va_cpy g (fun _ => none) 0 0 n))))))] := hD
          refine lv_astore_n (lv' := [(2, .ref ra_7), (0, .ref kl), (1, .ref v), (3, .int (nI n))]) hx hb dJx4a65c_add_72be8_10 rfl hl (by decide) rfl (fun ls hl => ?_)
          refine lv_aload_n hx hb dJx4a65c_add_72be8_11 rfl (lv_at hl 0 rfl) ?_
          refine lv_iload_n hx hb dJx4a65c_add_72be8_12 rfl (lv_at hl 3 rfl) ?_
          refine lv_aload_n hx hb dJx4a65c_add_72be8_13 rfl (lv_at hl 2 rfl) ?_
          refine va_astqM hx hb hK hP hD hS 2 2 rfl rfl (any_keep hS (hOv _ rfl).1 (hOv _ rfl).2) (vp_in_nI (by omega) (by omega)) dJx4a65c_add_72be8_14 (fun H locs hP hD hS => ?_)
          rw [nI_clamp (by omega)] at hP hD
          have hP : va_P D vwCl [(kl, .inr (6, [.int km, .ref ra_7, .int (nI n)])), (kd, .inl ((D.1 102), n, .inr (.inr (.inr (.inr g))))), (ra_7, .inl ((D.1 102), (n + n / 2), .inr (.inr (.inr (.inr (va_up (va_cpy g (fun _ => none) 0 0 n) n (some v)))))))] H := hP
          have hD : va_D A [(kl, .inr (6, [.int km, .ref ra_7, .int (nI n)])), (kd, .inl ((D.1 102), n, .inr (.inr (.inr (.inr g))))), (ra_7, .inl ((D.1 102), (n + n / 2), .inr (.inr (.inr (.inr (va_up (va_cpy g (fun _ => none) 0 0 n) n (some v)))))))] := hD
          refine lv_aload_n hx hb dJx4a65c_add_72be8_15 rfl (lv_at hl 1 rfl) ?_
          refine lv_iload_n hx hb dJx4a65c_add_72be8_16 rfl (lv_at hl 3 rfl) ?_
          refine lv_iconst (v := 1) hx hb dJx4a65c_add_72be8_17 (by decide) ?_
          refine lv_iadd hx hb dJx4a65c_add_72be8_18 ?_
          rw [show ((nI n) + 1 : Int32) = nI (n + 1) from (nI_1 _)]
          refine va_put (D := D) (ci := 6) (v := .int (nI (n + 1))) (ty := .int) (C := RJx4a65c) (T := TJx4a65c) (N := 3) hx hb hts in_Jx4a65c tyJx4a65c tyJx4a65c_ok nmJx4a65c hown hK hP hD hS 0 rfl rfl 2 (by decide) (hts _ q_1154) (fun _ h9 => h9) rfl (by decide +kernel) rfl rfl (Nat.le_of_ble_eq_true rfl) dJx4a65c_add_72be8_19 (fun H locs hP hD hS => ?_)
          have hP : va_P D vwCl [(kl, .inr (6, [.int km, .ref ra_7, .int (nI (n + 1))])), (kd, .inl ((D.1 102), n, .inr (.inr (.inr (.inr g))))), (ra_7, .inl ((D.1 102), (n + n / 2), .inr (.inr (.inr (.inr (va_up (va_cpy g (fun _ => none) 0 0 n) n (some v)))))))] H := hP
          have hD : va_D A [(kl, .inr (6, [.int km, .ref ra_7, .int (nI (n + 1))])), (kd, .inl ((D.1 102), n, .inr (.inr (.inr (.inr g))))), (ra_7, .inl ((D.1 102), (n + n / 2), .inr (.inr (.inr (.inr (va_up (va_cpy g (fun _ => none) 0 0 n) n (some v)))))))] := hD
          have hP := hP.sub (ws' := [(kl, .inr (6, [.int km, .ref ra_7, .int (nI (n + 1))])), (ra_7, .inl ((D.1 102), (n + n / 2), .inr (.inr (.inr (.inr (va_up (va_cpy g (fun _ => none) 0 0 n) n (some v)))))))]) [0, 2] rfl
          have hD := hD.sub (ws' := [(kl, .inr (6, [.int km, .ref ra_7, .int (nI (n + 1))])), (ra_7, .inl ((D.1 102), (n + n / 2), .inr (.inr (.inr (.inr (va_up (va_cpy g (fun _ => none) 0 0 n) n (some v)))))))]) [0, 2] (by decide) rfl
          have hP := wb_P (bs := [[(kl, .inr (6, [.int km, .ref ra_7, .int (nI (n + 1))]))], [(ra_7, .inl ((D.1 102), (n + n / 2), .inr (.inr (.inr (.inr (va_up (va_cpy g (fun _ => none) 0 0 n) n (some v)))))))]]) (cs := [[(kl, .inr (6, [.int km, .ref ra_7, .int (nI (n + 1))]))], [(ra_7, .inl ((D.1 102), (n + n / 2), .inr (.inr (.inr (.inr (va_up (va_cpy g (fun _ => none) 0 0 n) n (some v)))))))]]) [0, 1] rfl hP
          have hD := wb_D (bs := [[(kl, .inr (6, [.int km, .ref ra_7, .int (nI (n + 1))]))], [(ra_7, .inl ((D.1 102), (n + n / 2), .inr (.inr (.inr (.inr (va_up (va_cpy g (fun _ => none) 0 0 n) n (some v)))))))]]) (cs := [[(kl, .inr (6, [.int km, .ref ra_7, .int (nI (n + 1))]))], [(ra_7, .inl ((D.1 102), (n + n / 2), .inr (.inr (.inr (.inr (va_up (va_cpy g (fun _ => none) 0 0 n) n (some v)))))))]]) [0, 1] (by decide) rfl hD
          have hLD : LD D (n + n / 2) ra_7 (va_up (va_cpy g (fun _ => none) 0 0 n) n (some v)) = [(ra_7, .inl ((D.1 102), (n + n / 2), .inr (.inr (.inr (.inr (va_up (va_cpy g (fun _ => none) 0 0 n) n (some v)))))))] := if_neg (by omega)
          have hP : va_P D vwCl ((kl, .inr (6, [.int km, .ref ra_7, .int (nI (n + 1))])) :: (LD D (n + n / 2) ra_7 (va_up (va_cpy g (fun _ => none) 0 0 n) n (some v)) ++ [])) H := by show va_P D vwCl (List.flatten [[(kl, .inr (6, [.int km, .ref ra_7, .int (nI (n + 1))]))], LD D (n + n / 2) ra_7 (va_up (va_cpy g (fun _ => none) 0 0 n) n (some v))]) H; rw [hLD]; exact hP
          have hD : va_D A ((kl, .inr (6, [.int km, .ref ra_7, .int (nI (n + 1))])) :: (LD D (n + n / 2) ra_7 (va_up (va_cpy g (fun _ => none) 0 0 n) n (some v)) ++ [])) := by show va_D A (List.flatten [[(kl, .inr (6, [.int km, .ref ra_7, .int (nI (n + 1))]))], LD D (n + n / 2) ra_7 (va_up (va_cpy g (fun _ => none) 0 0 n) n (some v))]); rw [hLD]; exact hD
          clear hLD
          subst hQe
          subst hAe
          have hE : (F_Jx4a65c_add_72be8 n cap) = (n + n / 2) := (by unfold F_Jx4a65c_add_72be8; rw [if_neg c_1, if_neg c_3])
          refine W.widen (k := 1) (n := 4 * ((F_Jx4a65c_add_72be8 n cap) - cap)) (by omega) (by omega) ?_
          have hP9 : va_P D vwCl ((kl, .inr (6, [.int km, .ref ra_7, .int (nI (n + 1))])) :: (LD D (n + n / 2) ra_7 (va_up (va_cpy g (fun _ => none) 0 0 n) n (some v)) ++ [])) H := wb_P (bs := [[(kl, .inr (6, [.int km, .ref ra_7, .int (nI (n + 1))]))], LD D (n + n / 2) ra_7 (va_up (va_cpy g (fun _ => none) 0 0 n) n (some v))]) (cs := [[(kl, .inr (6, [.int km, .ref ra_7, .int (nI (n + 1))]))], LD D (n + n / 2) ra_7 (va_up (va_cpy g (fun _ => none) 0 0 n) n (some v))]) [0, 1] rfl hP
          have hD9 : va_D _ ((kl, .inr (6, [.int km, .ref ra_7, .int (nI (n + 1))])) :: (LD D (n + n / 2) ra_7 (va_up (va_cpy g (fun _ => none) 0 0 n) n (some v)) ++ [])) := wb_D (bs := [[(kl, .inr (6, [.int km, .ref ra_7, .int (nI (n + 1))]))], LD D (n + n / 2) ra_7 (va_up (va_cpy g (fun _ => none) 0 0 n) n (some v))]) (cs := [[(kl, .inr (6, [.int km, .ref ra_7, .int (nI (n + 1))]))], LD D (n + n / 2) ra_7 (va_up (va_cpy g (fun _ => none) 0 0 n) n (some v))]) [0, 1] (by decide) rfl hD
          exact W.vret hx hb hr (fun t ht hW => ⟨⟨(ra_7, va_up (va_cpy g (fun _ => none) 0 0 n) n (some v)), rfl, trivial, (by (try rw [hE]); rw [ht]; exact hP9), (by (try rw [hE]); exact hD9), (by dsimp only; exact ⟨fun i hi => by rw [va_up_ne _ _ (by omega)]; exact cpy_in hi, va_up_self _ _ _⟩)⟩, hS.F ht⟩) hS.2.2 dJx4a65c_add_72be8_22
  rw [hHe, hLe] at hgoal
  exact hgoal

def F_Jx4a65c_add_9ea2d (n : Nat) (cap : Nat) : Int32 × Nat := (1, F_Jx4a65c_add_72be8 n cap)
set_option maxHeartbeats 4000000 in
set_option maxRecDepth 100000 in
theorem c_Jx4a65c_add_9ea2d (l : Launch) (D : va_G) (kl : Nat) (km : Int32) (kd : Nat) (n : Nat) (cap : Nat) (g : Nat → Option Nat) (v : Nat) (CC : String) (sz : Nat) (hn : n ≤ cap) (hcb : cap ≤ 40000) (hk0 : cap = 0 → kd = D.2 200 0) (h10 : cap ≠ 0 → 10 ≤ cap) : Met l yJx4a65c_add_9ea2d (Cond.code yJx4a65c_add_9ea2d cJx4a65c_add_9ea2d 2 (some .boolean) :: lwAll) ({ frames := 6, cells := 1, slots := 4 * ((F_Jx4a65c_add_9ea2d n cap).2 - cap), locals := 170 } : Room) (va_Pc [.ref kl, .ref v] (mPre D (lwTY2 D) ((kl, .inr (6, [.int km, .ref kd, .int (nI n)])) :: (LD D cap kd g ++ [])) sz CC n g (some v))) (va_Qi (fun (r : Int32) (_ : Nat × (Nat → Option Nat)) => r = (F_Jx4a65c_add_9ea2d n cap).1 ∧ (r = 0 ∨ r = 1)) (fun (u : Nat × (Nat → Option Nat)) t => va_P D vwCl ((kl, .inr (6, [.int (km + 1), .ref u.1, .int (nI (n + 1))])) :: (LD D ((F_Jx4a65c_add_9ea2d n cap).2) u.1 u.2 ++ [])) t.heap ∧ va_D (va_A ((kl, .inr (6, [.int km, .ref kd, .int (nI n)])) :: (LD D cap kd g ++ [])) sz) ((kl, .inr (6, [.int (km + 1), .ref u.1, .int (nI (n + 1))])) :: (LD D ((F_Jx4a65c_add_9ea2d n cap).2) u.1 u.2 ++ [])) ∧ ((∀ i, i < n → u.2 i = g i) ∧ u.2 n = some v)) (va_A ((kl, .inr (6, [.int km, .ref kd, .int (nI n)])) :: (LD D cap kd g ++ [])) sz)) 1 (4 * ((F_Jx4a65c_add_9ea2d n cap).2 - cap)) (va_A ((kl, .inr (6, [.int km, .ref kd, .int (nI n)])) :: (LD D cap kd g ++ [])) sz) := by
  refine Met.ofW (cc := cJx4a65c_add_9ea2d) (maxL := 2) (ret := (some .boolean)) (by decide) rfl ?_
  intro p e s m args below meth c s₁ B hml hv
  obtain ⟨rfl, ⟨⟨hsz, hP, hK, hD0, hN, hZ⟩, hI⟩, hEl, hOv, hCa⟩ := hv
  have hx := B.exec
  have hb := B.bytes
  have hr := B.returns
  have hts : ∀ wd ∈ lwAll, wd.before ([.ref kl, .ref v] : List Value).toArray s = true := fun wd h => atoms_spec (ws := (Cond.code yJx4a65c_add_9ea2d cJx4a65c_add_9ea2d 2 (some .boolean) :: lwAll)) B.pre wd (List.mem_cons_of_mem _ h)
  have hown : s.vm.findClass RJx4a65c = some m.cls := findClass_of_methodNamed B.named
  have hlocks := B.notSynchronized
  subst hsz
  have hD := hD0.self (sz := s.heap.size)
  have hl := lv_entry ([.ref kl, .ref v]) (n := 2) (Nat.le_of_ble_eq_true rfl)
  rw [lg_entry_eq]
  generalize (lg_sl ([.ref kl, .ref v]) ++ List.replicate (2 - (lg_sl ([.ref kl, .ref v])).length) Slot.unset).toArray = ls at hl ⊢
  have hl : lv_has ls 2 [(0, .ref kl), (1, .ref v)] := hl
  have hS : va_S (va_A ((kl, .inr (6, [.int km, .ref kd, .int (nI n)])) :: (LD D cap kd g ++ [])) s.heap.size) s.heap s.heap [] := va_S.rf
  generalize hQe : MQ below (va_Qi (fun (r : Int32) (_ : Nat × (Nat → Option Nat)) => r = (F_Jx4a65c_add_9ea2d n cap).1 ∧ (r = 0 ∨ r = 1)) (fun (u : Nat × (Nat → Option Nat)) t => va_P D vwCl ((kl, .inr (6, [.int (km + 1), .ref u.1, .int (nI (n + 1))])) :: (LD D ((F_Jx4a65c_add_9ea2d n cap).2) u.1 u.2 ++ [])) t.heap ∧ va_D (va_A ((kl, .inr (6, [.int km, .ref kd, .int (nI n)])) :: (LD D cap kd g ++ [])) s.heap.size) ((kl, .inr (6, [.int (km + 1), .ref u.1, .int (nI (n + 1))])) :: (LD D ((F_Jx4a65c_add_9ea2d n cap).2) u.1 u.2 ++ [])) ∧ ((∀ i, i < n → u.2 i = g i) ∧ u.2 n = some v)) (va_A ((kl, .inr (6, [.int km, .ref kd, .int (nI n)])) :: (LD D cap kd g ++ [])) s.heap.size)) ([.ref kl, .ref v] : List Value).toArray s 1 (4 * ((F_Jx4a65c_add_9ea2d n cap).2 - cap)) (va_A ((kl, .inr (6, [.int km, .ref kd, .int (nI n)])) :: (LD D cap kd g ++ [])) s.heap.size) = Q
  have hP : va_P D vwCl ((kl, .inr (6, [.int km, .ref kd, .int (nI n)])) :: (LD D cap kd g ++ [])) s.heap := hP
  obtain ⟨A, hAe⟩ : ∃ A, A = va_A ((kl, .inr (6, [.int km, .ref kd, .int (nI n)])) :: (LD D cap kd g ++ [])) s.heap.size := ⟨_, rfl⟩
  rw [← hAe] at hD hZ hI hEl hOv hS
  have hA : ∀ q : Nat, s.heap.size ≤ q → A q := fun q h => by rw [hAe]; exact Or.inr h
  obtain ⟨H, hHe⟩ : ∃ H, H = s.heap := ⟨_, rfl⟩
  obtain ⟨locs, hLe⟩ : ∃ L : List Loc, L = [] := ⟨_, rfl⟩
  have hP : va_P D vwCl ((kl, .inr (6, [.int km, .ref kd, .int (nI n)])) :: (LD D cap kd g ++ [])) H := by rw [hHe]; exact hP
  have hS : va_S A s.heap H locs := by rw [hHe, hLe]; exact hS
  have hgoal : W p l e ({ frames := 6, cells := 1, slots := 4 * ((F_Jx4a65c_add_9ea2d n cap).2 - cap), locals := 170 } : Room) s m ([.ref kl, .ref v] : List Value).toArray below meth c H locs 0 0 Q (F0 m 0 ls []) := by
    clear hHe hLe
    refine lv_aload_n hx hb dJx4a65c_add_9ea2d_0 rfl (lv_at hl 0 rfl) ?_
    refine lv_dup hx hb dJx4a65c_add_9ea2d_1 rfl ?_
    refine va_get (D := D) (ci := 6) (v := .int km) (C := RJx4a65c) (T := TJx4a65c) (N := 3) hx hb hts in_Jx4a65c hown hK hP 0 rfl rfl 0 (by decide) (hts _ q_1158) (fun x9 h9 => u_same (hts _ q_1157) x9 h9) rfl dJx4a65c_add_9ea2d_2 ?_
    refine lv_iconst (v := 1) hx hb dJx4a65c_add_9ea2d_5 (by decide) ?_
    refine lv_iadd hx hb dJx4a65c_add_9ea2d_6 ?_
    refine va_put (D := D) (ci := 6) (v := .int (km + 1)) (ty := .int) (C := RJx4a65c) (T := TJx4a65c) (N := 3) hx hb hts in_Jx4a65c tyJx4a65c tyJx4a65c_ok nmJx4a65c hown hK hP hD hS 0 rfl rfl 0 (by decide) (hts _ q_1158) (fun x9 h9 => u_same (hts _ q_1157) x9 h9) rfl (by decide +kernel) rfl rfl (Nat.le_of_ble_eq_true rfl) dJx4a65c_add_9ea2d_7 (fun H locs hP hD hS => ?_)
    have hP : va_P D vwCl ((kl, .inr (6, [.int (km + 1), .ref kd, .int (nI n)])) :: (LD D cap kd g ++ [])) H := hP
    have hD : va_D A ((kl, .inr (6, [.int (km + 1), .ref kd, .int (nI n)])) :: (LD D cap kd g ++ [])) := hD
    refine lv_aload_n hx hb dJx4a65c_add_9ea2d_10 rfl (lv_at hl 0 rfl) ?_
    refine lv_aload_n hx hb dJx4a65c_add_9ea2d_11 rfl (lv_at hl 1 rfl) ?_
    refine lv_aload_n hx hb dJx4a65c_add_9ea2d_12 rfl (lv_at hl 0 rfl) ?_
    refine va_get (D := D) (ci := 6) (v := .ref kd) (C := RJx4a65c) (T := TJx4a65c) (N := 3) hx hb hts in_Jx4a65c hown hK hP 0 rfl rfl 1 (by decide) (hts _ q_1151) (fun _ h9 => h9) rfl dJx4a65c_add_9ea2d_13 ?_
    refine lv_aload_n hx hb dJx4a65c_add_9ea2d_16 rfl (lv_at hl 0 rfl) ?_
    refine va_get (D := D) (ci := 6) (v := .int (nI n)) (C := RJx4a65c) (T := TJx4a65c) (N := 3) hx hb hts in_Jx4a65c hown hK hP 0 rfl rfl 2 (by decide) (hts _ q_1154) (fun _ h9 => h9) rfl dJx4a65c_add_9ea2d_17 ?_
    have hPc : va_P D vwCl ((kl, .inr (6, [.int (km + 1), .ref kd, .int (nI n)])) :: (LD D cap kd g ++ [])) H := wb_P (bs := [[(kl, .inr (6, [.int (km + 1), .ref kd, .int (nI n)]))], LD D cap kd g]) (cs := [[(kl, .inr (6, [.int (km + 1), .ref kd, .int (nI n)]))], LD D cap kd g]) [0, 1] rfl hP
    have hDc : va_D _ ((kl, .inr (6, [.int (km + 1), .ref kd, .int (nI n)])) :: (LD D cap kd g ++ [])) := wb_D (bs := [[(kl, .inr (6, [.int (km + 1), .ref kd, .int (nI n)]))], LD D cap kd g]) (cs := [[(kl, .inr (6, [.int (km + 1), .ref kd, .int (nI n)]))], LD D cap kd g]) [0, 1] (by decide) rfl hD
    have hFc : ∀ q9 : Nat, va_A ((kl, .inr (6, [.int (km + 1), .ref kd, .int (nI n)])) :: (LD D cap kd g ++ [])) H.size q9 → A q9 := wb_free (bs := [[(kl, .inr (6, [.int (km + 1), .ref kd, .int (nI n)]))], LD D cap kd g]) (cs := [[(kl, .inr (6, [.int (km + 1), .ref kd, .int (nI n)]))], LD D cap kd g]) hD hS hA [0, 1] rfl
    refine va_callv (va_runV (As := [.ref v, .ref kd, .int (nI n)]) (rest := []) ⟨hx, hb, hml, hown, hts⟩ (c_Jx4a65c_add_72be8 l D kl (km + 1) kd n cap g v CC (nI n) H.size (show n ≤ cap from (by omega)) (show cap ≤ 40000 from (by omega)) (show cap = 0 → kd = D.2 200 0 from (by assumption)) (show cap ≠ 0 → 10 ≤ cap from (by assumption)) (show (nI n) = nI n from rfl)) (cwV 3 hts (gi_V q_1217 q_1219 q_49 q_107 q_1220) rfl rfl rfl (by decide +kernel) ⟨Nat.le_of_ble_eq_true rfl, Nat.le_of_ble_eq_true rfl⟩) ⟨mPre_blind, va_recv hK hP (ci := 6) (q0 := 0) rfl rfl, mPre_mk hS hFc hEl hOv hCa (lwI_for hI hS hFc) hPc hK hDc hN (lwZ_for hZ hS hFc)⟩ rfl rfl hl.1 rfl (lv_room (Nat.le_of_ble_eq_true rfl)) dJx4a65c_add_9ea2d_20 ⟨(show 0 + 1 ≤ 1 from (by first | omega | exact Nat.le_of_eq (Nat.zero_add _))), (show 0 + (4 * ((F_Jx4a65c_add_72be8 n cap) - cap)) ≤ (4 * ((F_Jx4a65c_add_9ea2d n cap).2 - cap)) from (by first | omega | exact Nat.le_of_eq (Nat.zero_add _)))⟩) hS (fun q _ h => hFc q h) hFc (fun u t H1 locs ht hvm hw hBk hz1 hk1 hS => ?_)
    obtain ⟨kd_20, g_20⟩ := u
    obtain ⟨hP1, hD1, hf_20⟩ := hBk
    dsimp only at hP1 hD1 hf_20
    rw [ht] at hP1
    obtain ⟨hP, hD⟩ := wb_join (bs := [[(kl, .inr (6, [.int (km + 1), .ref kd, .int (nI n)]))], LD D cap kd g]) (cs := [[(kl, .inr (6, [.int (km + 1), .ref kd, .int (nI n)]))], LD D cap kd g]) (rs := []) (ns := [[(kl, .inr (6, [.int (km + 1), .ref kd_20, .int (nI (n + 1))]))], LD D (F_Jx4a65c_add_72be8 n cap) kd_20 g_20]) hP hD [0, 1] [] rfl rfl (by decide) (by decide) hk1 hFc hP1 hD1
    have hP : va_P D vwCl ((kl, .inr (6, [.int (km + 1), .ref kd_20, .int (nI (n + 1))])) :: (LD D (F_Jx4a65c_add_72be8 n cap) kd_20 g_20 ++ [])) H1 := wb_P (bs := [[(kl, .inr (6, [.int (km + 1), .ref kd_20, .int (nI (n + 1))]))], LD D (F_Jx4a65c_add_72be8 n cap) kd_20 g_20]) (cs := [[(kl, .inr (6, [.int (km + 1), .ref kd_20, .int (nI (n + 1))]))], LD D (F_Jx4a65c_add_72be8 n cap) kd_20 g_20]) [0, 1] rfl hP
    have hD : va_D A ((kl, .inr (6, [.int (km + 1), .ref kd_20, .int (nI (n + 1))])) :: (LD D (F_Jx4a65c_add_72be8 n cap) kd_20 g_20 ++ [])) := wb_D (bs := [[(kl, .inr (6, [.int (km + 1), .ref kd_20, .int (nI (n + 1))]))], LD D (F_Jx4a65c_add_72be8 n cap) kd_20 g_20]) (cs := [[(kl, .inr (6, [.int (km + 1), .ref kd_20, .int (nI (n + 1))]))], LD D (F_Jx4a65c_add_72be8 n cap) kd_20 g_20]) [0, 1] (by decide) rfl hD
    clear hPc hDc hFc hP1 hD1 hk1 hz1
    clear hvm ht; clear t
    generalize H1 = H at hP hS ⊢
    refine lv_iconst (v := 1) hx hb dJx4a65c_add_9ea2d_23 (by decide) ?_
    subst hQe
    subst hAe
    have hE : (F_Jx4a65c_add_9ea2d n cap) = (1, F_Jx4a65c_add_72be8 n cap) := (by rfl)
    refine W.widen (k := 1) (n := 4 * ((F_Jx4a65c_add_9ea2d n cap).2 - cap)) (by first | omega | exact Nat.le_of_eq (Nat.zero_add _)) (by first | omega | exact Nat.le_of_eq (Nat.zero_add _)) ?_
    have hP9 : va_P D vwCl ((kl, .inr (6, [.int (km + 1), .ref kd_20, .int (nI (n + 1))])) :: (LD D (F_Jx4a65c_add_72be8 n cap) kd_20 g_20 ++ [])) H := wb_P (bs := [[(kl, .inr (6, [.int (km + 1), .ref kd_20, .int (nI (n + 1))]))], LD D (F_Jx4a65c_add_72be8 n cap) kd_20 g_20]) (cs := [[(kl, .inr (6, [.int (km + 1), .ref kd_20, .int (nI (n + 1))]))], LD D (F_Jx4a65c_add_72be8 n cap) kd_20 g_20]) [0, 1] rfl hP
    have hD9 : va_D _ ((kl, .inr (6, [.int (km + 1), .ref kd_20, .int (nI (n + 1))])) :: (LD D (F_Jx4a65c_add_72be8 n cap) kd_20 g_20 ++ [])) := wb_D (bs := [[(kl, .inr (6, [.int (km + 1), .ref kd_20, .int (nI (n + 1))]))], LD D (F_Jx4a65c_add_72be8 n cap) kd_20 g_20]) (cs := [[(kl, .inr (6, [.int (km + 1), .ref kd_20, .int (nI (n + 1))]))], LD D (F_Jx4a65c_add_72be8 n cap) kd_20 g_20]) [0, 1] (by decide) rfl hD
    exact W.zret (ty := .boolean) (v := 1) hx hb hr (zb_narrow zb_1) (fun t ht hW => ⟨⟨1, (kd_20, g_20), rfl, ⟨(by rw [hE]), zb_1⟩, (by (try rw [hE]); rw [ht]; exact hP9), (by (try rw [hE]); exact hD9), (hf_20)⟩, hS.F ht⟩) hS.2.2 dJx4a65c_add_9ea2d_24
  rw [hHe, hLe] at hgoal
  exact hgoal


set_option maxHeartbeats 4000000 in
set_option maxRecDepth 100000 in
theorem c_Jxd2413_init_da8c8 (l : Launch) (D : va_G) (y : Nat) (v0 : Int32) (sz : Nat)  : Met l yJxd2413_init_da8c8 (Cond.code yJxd2413_init_da8c8 cJxd2413_init_da8c8 1 none :: lwAll) ({ frames := 1, cells := 0, slots := 0, locals := 12 } : Room) (va_Pc [.ref y] (cPre D (lwTY D) [(y, .inr (2, [.int v0]))] sz)) (va_Qv (fun (_ : Unit) => True) (fun _ _ => True) (fun q : Nat => sz ≤ q)) 0 0 (fun q : Nat => sz ≤ q) := by
  refine Met.ofW (cc := cJxd2413_init_da8c8) (maxL := 1) (ret := none) (by decide) rfl ?_
  intro p e s m args below meth c s₁ B hml hv
  obtain ⟨rfl, hsz, hP, hK, hD0, hN, hZ⟩ := hv
  have hx := B.exec
  have hb := B.bytes
  have hr := B.returns
  have hts : ∀ wd ∈ lwAll, wd.before ([.ref y] : List Value).toArray s = true := fun wd h => atoms_spec (ws := (Cond.code yJxd2413_init_da8c8 cJxd2413_init_da8c8 1 none :: lwAll)) B.pre wd (List.mem_cons_of_mem _ h)
  have hown : s.vm.findClass RJxd2413 = some m.cls := findClass_of_methodNamed B.named
  have hlocks := B.notSynchronized
  have hin : meth.name = "<init>" := (name_of_methodNamed B.named B.method).1
  subst hsz
  have hD := hD0.self (sz := s.heap.size)
  have hl := lv_entry ([.ref y]) (n := 1) (Nat.le_of_ble_eq_true rfl)
  rw [lg_entry_eq]
  generalize (lg_sl ([.ref y]) ++ List.replicate (1 - (lg_sl ([.ref y])).length) Slot.unset).toArray = ls at hl ⊢
  have hl : lv_has ls 1 [(0, .ref y)] := hl
  have hS : va_S (fun q : Nat => s.heap.size ≤ q) s.heap s.heap [] := va_S.rf
  generalize hQe : MQ below (va_Qv (fun (_ : Unit) => True) (fun _ _ => True) (fun q : Nat => s.heap.size ≤ q)) ([.ref y] : List Value).toArray s 0 0 (fun q : Nat => s.heap.size ≤ q) = Q
  have hP : va_P D vwCl [(y, .inr (2, [.int v0]))] s.heap := hP
  obtain ⟨A, hAe⟩ : ∃ A, A = va_A [(y, .inr (2, [.int v0]))] s.heap.size := ⟨_, rfl⟩
  rw [← hAe] at hD hZ
  have hA : ∀ q : Nat, s.heap.size ≤ q → A q := fun q h => by rw [hAe]; exact Or.inr h
  obtain ⟨H, hHe⟩ : ∃ H, H = s.heap := ⟨_, rfl⟩
  obtain ⟨locs, hLe⟩ : ∃ L : List Loc, L = [] := ⟨_, rfl⟩
  have hP : va_P D vwCl [(y, .inr (2, [.int v0]))] H := by rw [hHe]; exact hP
  have hS : va_S (fun q : Nat => s.heap.size ≤ q) s.heap H locs := by rw [hHe, hLe]; exact hS
  have hgoal : W p l e ({ frames := 1, cells := 0, slots := 0, locals := 12 } : Room) s m ([.ref y] : List Value).toArray below meth c H locs 0 0 Q (F0 m 0 ls []) := by
    clear hHe hLe
    refine lv_aload_n hx hb dJxd2413_init_da8c8_0 rfl (lv_at hl 0 rfl) ?_
    refine W.objInit hx hb hown (hts _ q_1506) (hts _ q_120) (hts _ q_121) rfl (by rw [hml]; exact hl.1) rfl dJxd2413_init_da8c8_1 (Nat.le_of_ble_eq_true rfl) (Nat.le_of_ble_eq_true rfl) ?_
    refine W.eq (g2 := F0 m 4 ls []) rfl ?_
    subst hQe
    exact W.vret hx hb hr (fun t ht hW => ⟨⟨(), rfl, trivial, trivial⟩, hS.F ht⟩) hS.2.2 dJxd2413_init_da8c8_4
  rw [hHe, hLe] at hgoal
  exact hgoal


set_option maxHeartbeats 4000000 in
set_option maxRecDepth 100000 in
theorem c_J6_init_d00df (l : Launch) (D : va_G) (y : Nat) (v0 : Int32) (v : Int32) (sz : Nat)  : Met l yJ6_init_d00df (Cond.code yJ6_init_d00df cJ6_init_d00df 2 none :: lwAll) ({ frames := 2, cells := 0, slots := 0, locals := 32 } : Room) (va_Pc [.ref y, .int v] (cPre D (lwTY D) [(y, .inr (2, [.int v0]))] sz)) (va_Qv (fun (_ : Unit) => True) (fun (_ : Unit) t => va_P D vwCl [(y, .inr (2, [.int v]))] t.heap ∧ va_D (va_A [(y, .inr (2, [.int v0]))] sz) [(y, .inr (2, [.int v]))]) (va_A [(y, .inr (2, [.int v0]))] sz)) 0 0 (va_A [(y, .inr (2, [.int v0]))] sz) := by
  refine Met.ofW (cc := cJ6_init_d00df) (maxL := 2) (ret := none) (by decide) rfl ?_
  intro p e s m args below meth c s₁ B hml hv
  obtain ⟨rfl, hsz, hP, hK, hD0, hN, hZ⟩ := hv
  have hx := B.exec
  have hb := B.bytes
  have hr := B.returns
  have hts : ∀ wd ∈ lwAll, wd.before ([.ref y, .int v] : List Value).toArray s = true := fun wd h => atoms_spec (ws := (Cond.code yJ6_init_d00df cJ6_init_d00df 2 none :: lwAll)) B.pre wd (List.mem_cons_of_mem _ h)
  have hown : s.vm.findClass RJ6 = some m.cls := findClass_of_methodNamed B.named
  have hlocks := B.notSynchronized
  have hin : meth.name = "<init>" := (name_of_methodNamed B.named B.method).1
  subst hsz
  have hD := hD0.self (sz := s.heap.size)
  have hl := lv_entry ([.ref y, .int v]) (n := 2) (Nat.le_of_ble_eq_true rfl)
  rw [lg_entry_eq]
  generalize (lg_sl ([.ref y, .int v]) ++ List.replicate (2 - (lg_sl ([.ref y, .int v])).length) Slot.unset).toArray = ls at hl ⊢
  have hl : lv_has ls 2 [(0, .ref y), (1, .int v)] := hl
  have hS : va_S (va_A [(y, .inr (2, [.int v0]))] s.heap.size) s.heap s.heap [] := va_S.rf
  generalize hQe : MQ below (va_Qv (fun (_ : Unit) => True) (fun (_ : Unit) t => va_P D vwCl [(y, .inr (2, [.int v]))] t.heap ∧ va_D (va_A [(y, .inr (2, [.int v0]))] s.heap.size) [(y, .inr (2, [.int v]))]) (va_A [(y, .inr (2, [.int v0]))] s.heap.size)) ([.ref y, .int v] : List Value).toArray s 0 0 (va_A [(y, .inr (2, [.int v0]))] s.heap.size) = Q
  have hP : va_P D vwCl [(y, .inr (2, [.int v0]))] s.heap := hP
  obtain ⟨A, hAe⟩ : ∃ A, A = va_A [(y, .inr (2, [.int v0]))] s.heap.size := ⟨_, rfl⟩
  rw [← hAe] at hD hZ hS
  have hA : ∀ q : Nat, s.heap.size ≤ q → A q := fun q h => by rw [hAe]; exact Or.inr h
  obtain ⟨H, hHe⟩ : ∃ H, H = s.heap := ⟨_, rfl⟩
  obtain ⟨locs, hLe⟩ : ∃ L : List Loc, L = [] := ⟨_, rfl⟩
  have hP : va_P D vwCl [(y, .inr (2, [.int v0]))] H := by rw [hHe]; exact hP
  have hS : va_S A s.heap H locs := by rw [hHe, hLe]; exact hS
  have hgoal : W p l e ({ frames := 2, cells := 0, slots := 0, locals := 32 } : Room) s m ([.ref y, .int v] : List Value).toArray below meth c H locs 0 0 Q (F0 m 0 ls []) := by
    clear hHe hLe
    refine lv_aload_n hx hb dJ6_init_d00df_0 rfl (lv_at hl 0 rfl) ?_
    have hPc := hP.sub (ws' := [(y, .inr (2, [.int v0]))]) [0] rfl
    have hDc := hD.sub (ws' := [(y, .inr (2, [.int v0]))]) [0] (by decide) rfl
    have hFc := va_free (wc := [(y, .inr (2, [.int v0]))]) hD hS hA [0] rfl
    refine va_callv (va_runI (As := []) (rest := []) ⟨hx, hb, hml, hown, hts⟩ (c_Jxd2413_init_da8c8 l D y v0 H.size ) ⟨callB_of 0 hts (gi_sub q_1505) rfl rfl rfl (hts _ q_100) (hts _ q_1503) (by decide +kernel) ⟨Nat.le_of_ble_eq_true rfl, Nat.le_of_ble_eq_true rfl⟩, rfl, (hts _ q_1504)⟩ ⟨cPre_blind, cPre_mk hPc hK hDc hN (lwZ_for hZ hS hFc)⟩ rfl rfl hl.1 rfl (lv_room (Nat.le_of_ble_eq_true rfl)) dJ6_init_d00df_1 ⟨(Nat.le_of_ble_eq_true rfl), (Nat.le_of_ble_eq_true rfl)⟩) hS (fun q h1 h2 => absurd h2 (Nat.not_le.mpr h1)) (fun q h => hA q (Nat.le_trans hS.1 h)) (fun u t H1 locs ht hvm hw hBk hz1 hk1 hS => ?_)
    have hP := va_P_ro hP hk1
    clear hBk hvm ht u hz1 hk1
    clear hPc hDc hFc; clear t
    generalize H1 = H at hP hS ⊢
    refine lv_aload_n hx hb dJ6_init_d00df_4 rfl (lv_at hl 0 rfl) ?_
    refine lv_iload_n hx hb dJ6_init_d00df_5 rfl (lv_at hl 1 rfl) ?_
    refine va_putF (D := D) (ci := 2) (v := .int v) (ty := .int) (C := RJ6) (T := TJ6) (N := 1) hx hb hts in_J6 tyJ6 tyJ6_ok nmJ6 hown hK hP hD hS 0 rfl rfl 0 (by decide) (hts _ q_1507) (fun _ h9 => h9) rfl hin rfl (by decide +kernel) rfl rfl (Nat.le_of_ble_eq_true rfl) dJ6_init_d00df_6 (fun H locs hP hD hS => ?_)
    have hP : va_P D vwCl [(y, .inr (2, [.int v]))] H := hP
    have hD : va_D A [(y, .inr (2, [.int v]))] := hD
    subst hQe
    subst hAe
    have hP9 := hP.sub (ws' := [(y, .inr (2, [.int v]))]) [0] rfl
    have hD9 := hD.sub (ws' := [(y, .inr (2, [.int v]))]) [0] (by decide) rfl
    exact W.vret hx hb hr (fun t ht hW => ⟨⟨(), rfl, trivial, (by rw [ht]; exact hP9), (hD9)⟩, hS.F ht⟩) hS.2.2 dJ6_init_d00df_9
  rw [hHe, hLe] at hgoal
  exact hgoal


set_option maxHeartbeats 4000000 in
set_option maxRecDepth 100000 in
theorem c_J6_valueOf_2dffeC (l : Launch) (D : va_G) (v : Nat) (x0 : Int32) (sz : Nat) (hv : v ≤ 127) (hx0 : x0 = nI v) : Met l yJ6_valueOf_2dffe (Cond.code yJ6_valueOf_2dffe cJ6_valueOf_2dffe 1 (some (.object "java/lang/Integer")) :: lwAll) ({ frames := 0, cells := 0, slots := 0, locals := 0 } : Room) (va_Pc [.int x0] (rPre D (lwTY2 D) [] sz)) (va_Qr (fun (_ : Unit) => True) (fun (_ : Unit) (ra : Nat) (_ : State) => ra = (D.2 201 (v + 128))) (fun q : Nat => sz ≤ q)) 0 0 (fun q : Nat => sz ≤ q) := by
  subst hx0
  refine Met.ofW (cc := cJ6_valueOf_2dffe) (maxL := 1) (ret := (some (.object "java/lang/Integer"))) (by decide) rfl ?_
  intro p e s m args below meth c s₁ B hml hv
  obtain ⟨rfl, ⟨hsz, hP, hK, hD0, hN, hZ⟩, hI⟩ := hv
  have hx := B.exec
  have hb := B.bytes
  have hr := B.returns
  have hts : ∀ wd ∈ lwAll, wd.before ([.int (nI v)] : List Value).toArray s = true := fun wd h => atoms_spec (ws := (Cond.code yJ6_valueOf_2dffe cJ6_valueOf_2dffe 1 (some (.object "java/lang/Integer")) :: lwAll)) B.pre wd (List.mem_cons_of_mem _ h)
  have hown : s.vm.findClass RJ6 = some m.cls := findClass_of_methodNamed B.named
  have hlocks := B.notSynchronized
  subst hsz
  have hD := hD0.self (sz := s.heap.size)
  have hl := lv_entry ([.int (nI v)]) (n := 1) (Nat.le_of_ble_eq_true rfl)
  rw [lg_entry_eq]
  generalize (lg_sl ([.int (nI v)]) ++ List.replicate (1 - (lg_sl ([.int (nI v)])).length) Slot.unset).toArray = ls at hl ⊢
  have hl : lv_has ls 1 [(0, .int (nI v))] := hl
  have hS : va_S (fun q : Nat => s.heap.size ≤ q) s.heap s.heap [] := va_S.rf
  generalize hQe : MQ below (va_Qr (fun (_ : Unit) => True) (fun (_ : Unit) (ra : Nat) (_ : State) => ra = (D.2 201 (v + 128))) (fun q : Nat => s.heap.size ≤ q)) ([.int (nI v)] : List Value).toArray s 0 0 (fun q : Nat => s.heap.size ≤ q) = Q
  have hP : va_P D vwCl [] s.heap := hP
  obtain ⟨A, hAe⟩ : ∃ A, A = va_A [] s.heap.size := ⟨_, rfl⟩
  rw [← hAe] at hD hZ hI
  have hA : ∀ q : Nat, s.heap.size ≤ q → A q := fun q h => by rw [hAe]; exact Or.inr h
  obtain ⟨H, hHe⟩ : ∃ H, H = s.heap := ⟨_, rfl⟩
  obtain ⟨locs, hLe⟩ : ∃ L : List Loc, L = [] := ⟨_, rfl⟩
  have hP : va_P D vwCl [] H := by rw [hHe]; exact hP
  have hS : va_S (fun q : Nat => s.heap.size ≤ q) s.heap H locs := by rw [hHe, hLe]; exact hS
  have hgoal : W p l e ({ frames := 0, cells := 0, slots := 0, locals := 0 } : Room) s m ([.int (nI v)] : List Value).toArray below meth c H locs 0 0 Q (F0 m 0 ls []) := by
    clear hHe hLe
    refine lv_iload_n hx hb dJ6_valueOf_2dffe_0 rfl (lv_at hl 0 rfl) ?_
    refine lv_bipush (v := (-128)) hx hb dJ6_valueOf_2dffe_1 (by decide) ?_
    refine lv_icmp_lt (tgt := 23) hx hb dJ6_valueOf_2dffe_3 (by decide) (fun c_1 => ?_) (fun c_1 => ?_)
    · exact absurd c_1 (vo_lo (by omega))
    · refine lv_iload_n hx hb dJ6_valueOf_2dffe_6 rfl (lv_at hl 0 rfl) ?_
      refine va_gets hx hb hI.2.1.1 (va_S_up hS hA) hown (hts _ q_1494) (fun _ h9 => h9) dJ6_valueOf_2dffe_7 ?_
      refine lv_icmp_gt (tgt := 23) hx hb dJ6_valueOf_2dffe_10 (by decide) (fun c_2 => ?_) (fun c_2 => ?_)
      · exact absurd c_2 (vo_hi (by omega))
      · refine va_gets hx hb hI.2.1.2.1 (va_S_up hS hA) hown (hts _ q_1496) (fun _ h9 => h9) dJ6_valueOf_2dffe_13 ?_
        refine lv_iload_n hx hb dJ6_valueOf_2dffe_16 rfl (lv_at hl 0 rfl) ?_
        refine lv_sipush (v := 128) hx hb dJ6_valueOf_2dffe_17 (by decide) ?_
        refine lv_iadd hx hb dJ6_valueOf_2dffe_20 ?_
        refine vb_tq hx hb hI.2.1.2.2.1 (va_S_up hS hA) (vo_in (by omega)) (v := .ref (D.2 201 (v + 128))) (by rw [vo_ix (by omega)]) dJ6_valueOf_2dffe_21 ?_
        subst hQe
        exact W.aret (v := .ref (D.2 201 (v + 128))) hx hb hr (by first | exact Or.inl ⟨_, rfl⟩ | exact Or.inr ⟨_, rfl⟩) (Or.inr ⟨_, rfl⟩) (fun t ht hW => ⟨⟨(), D.2 201 (v + 128), rfl, trivial, rfl⟩, hS.F ht⟩) hS.2.2 dJ6_valueOf_2dffe_22
  rw [hHe, hLe] at hgoal
  exact hgoal


set_option maxHeartbeats 4000000 in
set_option maxRecDepth 100000 in
theorem c_J6_valueOf_2dffeN (l : Launch) (D : va_G) (v : Nat) (x0 : Int32) (sz : Nat) (hv : 127 < v) (hv2 : v ≤ 100000) (hx0 : x0 = nI v) : Met l yJ6_valueOf_2dffe (Cond.code yJ6_valueOf_2dffe cJ6_valueOf_2dffe 1 (some (.object "java/lang/Integer")) :: lwAll) ({ frames := 3, cells := 1, slots := 1, locals := 53 } : Room) (va_Pc [.int x0] (rPre D (lwTY2 D) [] sz)) (va_Qr (fun (_ : Unit) => True) (fun (_ : Unit) (ra : Nat) t => va_P D vwCl [(ra, .inr (2, [.int (nI v)]))] t.heap ∧ va_D (va_A [] sz) [(ra, .inr (2, [.int (nI v)]))]) (va_A [] sz)) 1 1 (va_A [] sz) := by
  subst hx0
  refine Met.ofW (cc := cJ6_valueOf_2dffe) (maxL := 1) (ret := (some (.object "java/lang/Integer"))) (by decide) rfl ?_
  intro p e s m args below meth c s₁ B hml hv
  obtain ⟨rfl, ⟨hsz, hP, hK, hD0, hN, hZ⟩, hI⟩ := hv
  have hx := B.exec
  have hb := B.bytes
  have hr := B.returns
  have hts : ∀ wd ∈ lwAll, wd.before ([.int (nI v)] : List Value).toArray s = true := fun wd h => atoms_spec (ws := (Cond.code yJ6_valueOf_2dffe cJ6_valueOf_2dffe 1 (some (.object "java/lang/Integer")) :: lwAll)) B.pre wd (List.mem_cons_of_mem _ h)
  have hown : s.vm.findClass RJ6 = some m.cls := findClass_of_methodNamed B.named
  have hlocks := B.notSynchronized
  subst hsz
  have hD := hD0.self (sz := s.heap.size)
  have hl := lv_entry ([.int (nI v)]) (n := 1) (Nat.le_of_ble_eq_true rfl)
  rw [lg_entry_eq]
  generalize (lg_sl ([.int (nI v)]) ++ List.replicate (1 - (lg_sl ([.int (nI v)])).length) Slot.unset).toArray = ls at hl ⊢
  have hl : lv_has ls 1 [(0, .int (nI v))] := hl
  have hS : va_S (va_A [] s.heap.size) s.heap s.heap [] := va_S.rf
  generalize hQe : MQ below (va_Qr (fun (_ : Unit) => True) (fun (_ : Unit) (ra : Nat) t => va_P D vwCl [(ra, .inr (2, [.int (nI v)]))] t.heap ∧ va_D (va_A [] s.heap.size) [(ra, .inr (2, [.int (nI v)]))]) (va_A [] s.heap.size)) ([.int (nI v)] : List Value).toArray s 1 1 (va_A [] s.heap.size) = Q
  have hP : va_P D vwCl [] s.heap := hP
  obtain ⟨A, hAe⟩ : ∃ A, A = va_A [] s.heap.size := ⟨_, rfl⟩
  rw [← hAe] at hD hZ hI hS
  have hA : ∀ q : Nat, s.heap.size ≤ q → A q := fun q h => by rw [hAe]; exact Or.inr h
  obtain ⟨H, hHe⟩ : ∃ H, H = s.heap := ⟨_, rfl⟩
  obtain ⟨locs, hLe⟩ : ∃ L : List Loc, L = [] := ⟨_, rfl⟩
  have hP : va_P D vwCl [] H := by rw [hHe]; exact hP
  have hS : va_S A s.heap H locs := by rw [hHe, hLe]; exact hS
  have hgoal : W p l e ({ frames := 3, cells := 1, slots := 1, locals := 53 } : Room) s m ([.int (nI v)] : List Value).toArray below meth c H locs 0 0 Q (F0 m 0 ls []) := by
    clear hHe hLe
    refine lv_iload_n hx hb dJ6_valueOf_2dffe_0 rfl (lv_at hl 0 rfl) ?_
    refine lv_bipush (v := (-128)) hx hb dJ6_valueOf_2dffe_1 (by decide) ?_
    refine lv_icmp_lt (tgt := 23) hx hb dJ6_valueOf_2dffe_3 (by decide) (fun c_1 => ?_) (fun c_1 => ?_)
    · exact absurd c_1 (vo_lo (by omega))
    · refine lv_iload_n hx hb dJ6_valueOf_2dffe_6 rfl (lv_at hl 0 rfl) ?_
      refine va_gets hx hb hI.2.1.1 hS hown (hts _ q_1494) (fun _ h9 => h9) dJ6_valueOf_2dffe_7 ?_
      refine lv_icmp_gt (tgt := 23) hx hb dJ6_valueOf_2dffe_10 (by decide) (fun c_2 => ?_) (fun c_2 => ?_)
      · refine va_new (ci := 2) (fs := [.int 0]) (C := RJ6) (T := TJ6) (N := 1) hx hb hts in_J6 tyJ6 tyJ6_ok hown (hts _ q_1498) (hts _ q_1499) (hts _ q_101) hK hP hD hS hA rfl (fun j hj => by rcases (show j = 0 by omega) with rfl <;> rfl) (show 0 + 1 ≤ 1 from (by omega)) (show 0 + 1 ≤ 1 from (by omega)) dJ6_valueOf_2dffe_23 (fun o_23 H hP hD hS => ?_)
        have hP : va_P D vwCl [(o_23, .inr (2, [.int 0]))] H := hP
        have hD : va_D A [(o_23, .inr (2, [.int 0]))] := hD
        refine lv_dup hx hb dJ6_valueOf_2dffe_26 rfl ?_
        refine lv_iload_n hx hb dJ6_valueOf_2dffe_27 rfl (lv_at hl 0 rfl) ?_
        have hPc := hP.sub (ws' := [(o_23, .inr (2, [.int 0]))]) [0] rfl
        have hDc := hD.sub (ws' := [(o_23, .inr (2, [.int 0]))]) [0] (by decide) rfl
        have hFc := va_free (wc := [(o_23, .inr (2, [.int 0]))]) hD hS hA [0] rfl
        refine va_callv (va_runI (As := [.int (nI v)]) (rest := [.ref o_23]) ⟨hx, hb, hml, hown, hts⟩ (c_J6_init_d00df l D o_23 0 (nI v) H.size ) ⟨callB_of 1 hts (gi_sub q_1502) rfl rfl rfl (hts _ q_101) (hts _ q_1500) (by decide +kernel) ⟨Nat.le_of_ble_eq_true rfl, Nat.le_of_ble_eq_true rfl⟩, rfl, (hts _ q_1501)⟩ ⟨cPre_blind, cPre_mk hPc (hK.sub [0, 1] rfl) hDc hN (lwZ_for hZ hS hFc)⟩ rfl rfl hl.1 rfl (lv_room (Nat.le_of_ble_eq_true rfl)) dJ6_valueOf_2dffe_28 ⟨(show (0 + 1) + 0 ≤ 1 from (by omega)), (show (0 + 1) + 0 ≤ 1 from (by omega))⟩) hS (fun q _ h => hFc q h) hFc (fun u t H1 locs ht hvm hw hBk hz1 hk1 hS => ?_)
        obtain ⟨hP1, hD1⟩ := hBk
        rw [ht] at hP1
        obtain ⟨hP, hD⟩ := va_join (wr := []) (w1 := [(o_23, .inr (2, [.int (nI v)]))]) hP hD [0] [] rfl rfl (by decide) (by decide) hk1 hFc hP1 hD1
        clear hPc hDc hFc hP1 hD1 hk1 hz1
        clear hvm ht u; clear t
        generalize H1 = H at hP hS ⊢
        have hP : va_P D vwCl [(o_23, .inr (2, [.int (nI v)]))] H := hP
        have hD : va_D A [(o_23, .inr (2, [.int (nI v)]))] := hD
        subst hQe
        subst hAe
        refine W.widen (k := 1) (n := 1) (by omega) (by omega) ?_
        have hP9 := hP.sub (ws' := [(o_23, .inr (2, [.int (nI v)]))]) [0] rfl
        have hD9 := hD.sub (ws' := [(o_23, .inr (2, [.int (nI v)]))]) [0] (by decide) rfl
        exact W.aret (v := .ref o_23) hx hb hr (by first | exact Or.inl ⟨_, rfl⟩ | exact Or.inr ⟨_, rfl⟩) (Or.inr ⟨_, rfl⟩) (fun t ht hW => ⟨⟨(), o_23, rfl, trivial, (by rw [ht]; exact hP9), (hD9)⟩, hS.F ht⟩) hS.2.2 dJ6_valueOf_2dffe_31
      · exact absurd (nI_lt (a := 127) (by omega) (by omega)) c_2
  rw [hHe, hLe] at hgoal
  exact hgoal
