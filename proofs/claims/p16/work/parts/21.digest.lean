theorem n64_iff {r : UInt64} : vf_n64 r ↔ Jvm.FP.Core.val64 r ≠ .nan := by
  rw [Jvm.FP.Core.ne_nan]
  unfold vf_n64
  rw [UInt64.le_iff_toNat_le, UInt64.toNat_and]
  show r.toNat &&& 9223372036854775807 ≤ 9218868437227405312 ↔ _
  rw [show (9223372036854775807 : Nat) = 2 ^ 63 - 1 from rfl, Nat.and_two_pow_sub_one_eq_mod]
theorem i2d_nz {b : Int32} (h : ¬ b = 0) : ¬ Jvm.FP.Core.DZero (Jvm.FP.Core.i2d b) := by
  rw [Jvm.FP.Core.zero_bits2]
  have h1 : b.toInt ≠ 0 := fun h2 => h (Int32.toInt_inj.mp (by rw [h2]; rfl))
  have h3 := Jvm.FP.Core.fromInt_ge (Jvm.FP.Core.toNat_i2d b) h1
  omega
theorem lag_n64 (a b : Int32) (h : ¬ b = 0) : vf_n64 (FP.ddiv (FP.i2d a) (FP.i2d b)) := by
  refine n64_iff.mpr ?_
  have h1 := Jvm.FP.Core.ddiv_out (Jvm.FP.Core.DFin.notNaN (Jvm.FP.Core.i2d_fin a)) (Jvm.FP.Core.i2d_fin b) (i2d_nz h)
  exact of_decide_eq_false h1
theorem dmul64_n64 {x : UInt64} (h : vf_n64 x) : vf_n64 (FP.dmul 4634204016564240384 x) := by
  refine n64_iff.mpr ?_
  have h1 := n64_iff.mp h
  show Jvm.FP.Core.val64 (Jvm.FP.Core.dmul 4634204016564240384 x) ≠ .nan
  rw [Jvm.FP.Core.val64_dmul]
  intro h2
  have h3 := (Jvm.FP.Core.exactProduct_nan _ _).mp (Jvm.FP.Core.round_nan.mp h2)
  have hc : Jvm.FP.Core.val64 4634204016564240384 = .fin false (2 ^ 52) (-46) := by decide +kernel
  rw [hc] at h3
  rcases h3 with h4 | h4 | ⟨s, t, q, h4, -⟩ | ⟨s, t, q, h4, -⟩
  · cases h4
  · exact h1 h4
  · cases h4
  · injection h4 with a b c
    exact absurd b (by decide)
theorem zero_n64 : vf_n64 0 := by unfold vf_n64; decide

def F_J3_checkIndex_8e157n (j : Nat) : Int32 := nI j
set_option maxHeartbeats 4000000 in
set_option maxRecDepth 100000 in
theorem c_J3_checkIndex_8e157n (l : Launch) (D : va_G) (j : Nat) (n : Nat) (x0 : Int32) (x1 : Int32) (sz : Nat) (hj : j < n) (hn : n ≤ 1000) (hx0 : x0 = nI j) (hx1 : x1 = nI n) : Met l yJ3_checkIndex_8e157 (Cond.code yJ3_checkIndex_8e157 cJ3_checkIndex_8e157 3 (some .int) :: lwAll) ({ frames := 0, cells := 0, slots := 0, locals := 0 } : Room) (va_Pc [.int x0, .int x1, .null] (cPre D (lwTY D) [] sz)) (va_Qi (fun (r : Int32) (_ : Unit) => r = (F_J3_checkIndex_8e157n j)) (fun _ _ => True) (fun q : Nat => sz ≤ q)) 0 0 (fun q : Nat => sz ≤ q) := by
  subst hx0
  subst hx1
  refine Met.ofW (cc := cJ3_checkIndex_8e157) (maxL := 3) (ret := (some .int)) (by decide) rfl ?_
  intro p e s m args below meth c s₁ B hml hv
  obtain ⟨rfl, hsz, hP, hK, hD0, hN, hZ⟩ := hv
  have hx := B.exec
  have hb := B.bytes
  have hr := B.returns
  have hts : ∀ wd ∈ lwAll, wd.before ([.int (nI j), .int (nI n), .null] : List Value).toArray s = true := fun wd h => atoms_spec (ws := (Cond.code yJ3_checkIndex_8e157 cJ3_checkIndex_8e157 3 (some .int) :: lwAll)) B.pre wd (List.mem_cons_of_mem _ h)
  have hown : s.vm.findClass RJ3 = some m.cls := findClass_of_methodNamed B.named
  have hlocks := B.notSynchronized
  subst hsz
  have hD := hD0.self (sz := s.heap.size)
  have hl := lv_entry ([.int (nI j), .int (nI n), .null]) (n := 3) (Nat.le_of_ble_eq_true rfl)
  rw [lg_entry_eq]
  generalize (lg_sl ([.int (nI j), .int (nI n), .null]) ++ List.replicate (3 - (lg_sl ([.int (nI j), .int (nI n), .null])).length) Slot.unset).toArray = ls at hl ⊢
  have hl : lv_has ls 3 [(0, .int (nI j)), (1, .int (nI n)), (2, .null)] := hl
  have hS : va_S (fun q : Nat => s.heap.size ≤ q) s.heap s.heap [] := va_S.rf
  generalize hQe : MQ below (va_Qi (fun (r : Int32) (_ : Unit) => r = (F_J3_checkIndex_8e157n j)) (fun _ _ => True) (fun q : Nat => s.heap.size ≤ q)) ([.int (nI j), .int (nI n), .null] : List Value).toArray s 0 0 (fun q : Nat => s.heap.size ≤ q) = Q
  have hP : va_P D vwCl [] s.heap := hP
  obtain ⟨A, hAe⟩ : ∃ A, A = va_A [] s.heap.size := ⟨_, rfl⟩
  rw [← hAe] at hD hZ
  have hA : ∀ q : Nat, s.heap.size ≤ q → A q := fun q h => by rw [hAe]; exact Or.inr h
  obtain ⟨H, hHe⟩ : ∃ H, H = s.heap := ⟨_, rfl⟩
  obtain ⟨locs, hLe⟩ : ∃ L : List Loc, L = [] := ⟨_, rfl⟩
  have hP : va_P D vwCl [] H := by rw [hHe]; exact hP
  have hS : va_S (fun q : Nat => s.heap.size ≤ q) s.heap H locs := by rw [hHe, hLe]; exact hS
  have hgoal : W p l e ({ frames := 0, cells := 0, slots := 0, locals := 0 } : Room) s m ([.int (nI j), .int (nI n), .null] : List Value).toArray below meth c H locs 0 0 Q (F0 m 0 ls []) := by
    clear hHe hLe
    refine lv_iload_n hx hb dJ3_checkIndex_8e157_0 rfl (lv_at hl 0 rfl) ?_
    refine lv_if_lt (tgt := 9) hx hb dJ3_checkIndex_8e157_1 (by decide) (fun c_1 => ?_) (fun c_1 => ?_)
    · exact absurd c_1 (nI_pos (by omega))
    · refine lv_iload_n hx hb dJ3_checkIndex_8e157_4 rfl (lv_at hl 0 rfl) ?_
      refine lv_iload_n hx hb dJ3_checkIndex_8e157_5 rfl (lv_at hl 1 rfl) ?_
      refine lv_icmp_lt (tgt := 16) hx hb dJ3_checkIndex_8e157_6 (by decide) (fun c_2 => ?_) (fun c_2 => ?_)
      · refine lv_iload_n hx hb dJ3_checkIndex_8e157_16 rfl (lv_at hl 0 rfl) ?_
        subst hQe
        exact W.iret (v := nI j) hx hb hr (fun t ht hW => ⟨⟨nI j, (), rfl, (by rfl), trivial⟩, hS.F ht⟩) hS.2.2 dJ3_checkIndex_8e157_17
      · exact absurd (nI_lt (by omega) (by omega)) c_2
  rw [hHe, hLe] at hgoal
  exact hgoal

def F_J3_checkIndex_8e157r (j : Nat) : Int32 := nI j
set_option maxHeartbeats 4000000 in
set_option maxRecDepth 100000 in
theorem c_J3_checkIndex_8e157r (l : Launch) (D : va_G) (j : Nat) (n : Nat) (tr : Nat) (x0 : Int32) (x1 : Int32) (sz : Nat) (hj : j < n) (hn : n ≤ 1000) (hx0 : x0 = nI j) (hx1 : x1 = nI n) : Met l yJ3_checkIndex_8e157 (Cond.code yJ3_checkIndex_8e157 cJ3_checkIndex_8e157 3 (some .int) :: lwAll) ({ frames := 0, cells := 0, slots := 0, locals := 0 } : Room) (va_Pc [.int x0, .int x1, .ref tr] (cPre D (lwTY D) [] sz)) (va_Qi (fun (r : Int32) (_ : Unit) => r = (F_J3_checkIndex_8e157r j)) (fun _ _ => True) (fun q : Nat => sz ≤ q)) 0 0 (fun q : Nat => sz ≤ q) := by
  subst hx0
  subst hx1
  refine Met.ofW (cc := cJ3_checkIndex_8e157) (maxL := 3) (ret := (some .int)) (by decide) rfl ?_
  intro p e s m args below meth c s₁ B hml hv
  obtain ⟨rfl, hsz, hP, hK, hD0, hN, hZ⟩ := hv
  have hx := B.exec
  have hb := B.bytes
  have hr := B.returns
  have hts : ∀ wd ∈ lwAll, wd.before ([.int (nI j), .int (nI n), .ref tr] : List Value).toArray s = true := fun wd h => atoms_spec (ws := (Cond.code yJ3_checkIndex_8e157 cJ3_checkIndex_8e157 3 (some .int) :: lwAll)) B.pre wd (List.mem_cons_of_mem _ h)
  have hown : s.vm.findClass RJ3 = some m.cls := findClass_of_methodNamed B.named
  have hlocks := B.notSynchronized
  subst hsz
  have hD := hD0.self (sz := s.heap.size)
  have hl := lv_entry ([.int (nI j), .int (nI n), .ref tr]) (n := 3) (Nat.le_of_ble_eq_true rfl)
  rw [lg_entry_eq]
  generalize (lg_sl ([.int (nI j), .int (nI n), .ref tr]) ++ List.replicate (3 - (lg_sl ([.int (nI j), .int (nI n), .ref tr])).length) Slot.unset).toArray = ls at hl ⊢
  have hl : lv_has ls 3 [(0, .int (nI j)), (1, .int (nI n)), (2, .ref tr)] := hl
  have hS : va_S (fun q : Nat => s.heap.size ≤ q) s.heap s.heap [] := va_S.rf
  generalize hQe : MQ below (va_Qi (fun (r : Int32) (_ : Unit) => r = (F_J3_checkIndex_8e157r j)) (fun _ _ => True) (fun q : Nat => s.heap.size ≤ q)) ([.int (nI j), .int (nI n), .ref tr] : List Value).toArray s 0 0 (fun q : Nat => s.heap.size ≤ q) = Q
  have hP : va_P D vwCl [] s.heap := hP
  obtain ⟨A, hAe⟩ : ∃ A, A = va_A [] s.heap.size := ⟨_, rfl⟩
  rw [← hAe] at hD hZ
  have hA : ∀ q : Nat, s.heap.size ≤ q → A q := fun q h => by rw [hAe]; exact Or.inr h
  obtain ⟨H, hHe⟩ : ∃ H, H = s.heap := ⟨_, rfl⟩
  obtain ⟨locs, hLe⟩ : ∃ L : List Loc, L = [] := ⟨_, rfl⟩
  have hP : va_P D vwCl [] H := by rw [hHe]; exact hP
  have hS : va_S (fun q : Nat => s.heap.size ≤ q) s.heap H locs := by rw [hHe, hLe]; exact hS
  have hgoal : W p l e ({ frames := 0, cells := 0, slots := 0, locals := 0 } : Room) s m ([.int (nI j), .int (nI n), .ref tr] : List Value).toArray below meth c H locs 0 0 Q (F0 m 0 ls []) := by
    clear hHe hLe
    refine lv_iload_n hx hb dJ3_checkIndex_8e157_0 rfl (lv_at hl 0 rfl) ?_
    refine lv_if_lt (tgt := 9) hx hb dJ3_checkIndex_8e157_1 (by decide) (fun c_1 => ?_) (fun c_1 => ?_)
    · exact absurd c_1 (nI_pos (by omega))
    · refine lv_iload_n hx hb dJ3_checkIndex_8e157_4 rfl (lv_at hl 0 rfl) ?_
      refine lv_iload_n hx hb dJ3_checkIndex_8e157_5 rfl (lv_at hl 1 rfl) ?_
      refine lv_icmp_lt (tgt := 16) hx hb dJ3_checkIndex_8e157_6 (by decide) (fun c_2 => ?_) (fun c_2 => ?_)
      · refine lv_iload_n hx hb dJ3_checkIndex_8e157_16 rfl (lv_at hl 0 rfl) ?_
        subst hQe
        exact W.iret (v := nI j) hx hb hr (fun t ht hW => ⟨⟨nI j, (), rfl, (by rfl), trivial⟩, hS.F ht⟩) hS.2.2 dJ3_checkIndex_8e157_17
      · exact absurd (nI_lt (by omega) (by omega)) c_2
  rw [hHe, hLe] at hgoal
  exact hgoal


set_option maxHeartbeats 4000000 in
set_option maxRecDepth 100000 in
theorem c_J0_checkIndex_df160 (l : Launch) (D : va_G) (j : Nat) (n : Nat) (x0 : Int32) (x1 : Int32) (sz : Nat) (hj : j < n) (hn : n ≤ 1000) (hx0 : x0 = nI j) (hx1 : x1 = nI n) : Met l yJ0_checkIndex_df160 (Cond.code yJ0_checkIndex_df160 cJ0_checkIndex_df160 2 none :: lwAll) ({ frames := 1, cells := 0, slots := 0, locals := 22 } : Room) (va_Pc [.int x0, .int x1] (cPre D (lwTY D) [] sz)) (va_Qv (fun (_ : Unit) => True) (fun _ _ => True) (fun q : Nat => sz ≤ q)) 0 0 (fun q : Nat => sz ≤ q) := by
  subst hx0
  subst hx1
  refine Met.ofW (cc := cJ0_checkIndex_df160) (maxL := 2) (ret := none) (by decide) rfl ?_
  intro p e s m args below meth c s₁ B hml hv
  obtain ⟨rfl, hsz, hP, hK, hD0, hN, hZ⟩ := hv
  have hx := B.exec
  have hb := B.bytes
  have hr := B.returns
  have hts : ∀ wd ∈ lwAll, wd.before ([.int (nI j), .int (nI n)] : List Value).toArray s = true := fun wd h => atoms_spec (ws := (Cond.code yJ0_checkIndex_df160 cJ0_checkIndex_df160 2 none :: lwAll)) B.pre wd (List.mem_cons_of_mem _ h)
  have hown : s.vm.findClass RJ0 = some m.cls := findClass_of_methodNamed B.named
  have hlocks := B.notSynchronized
  subst hsz
  have hD := hD0.self (sz := s.heap.size)
  have hl := lv_entry ([.int (nI j), .int (nI n)]) (n := 2) (Nat.le_of_ble_eq_true rfl)
  rw [lg_entry_eq]
  generalize (lg_sl ([.int (nI j), .int (nI n)]) ++ List.replicate (2 - (lg_sl ([.int (nI j), .int (nI n)])).length) Slot.unset).toArray = ls at hl ⊢
  have hl : lv_has ls 2 [(0, .int (nI j)), (1, .int (nI n))] := hl
  have hS : va_S (fun q : Nat => s.heap.size ≤ q) s.heap s.heap [] := va_S.rf
  generalize hQe : MQ below (va_Qv (fun (_ : Unit) => True) (fun _ _ => True) (fun q : Nat => s.heap.size ≤ q)) ([.int (nI j), .int (nI n)] : List Value).toArray s 0 0 (fun q : Nat => s.heap.size ≤ q) = Q
  have hP : va_P D vwCl [] s.heap := hP
  obtain ⟨A, hAe⟩ : ∃ A, A = va_A [] s.heap.size := ⟨_, rfl⟩
  rw [← hAe] at hD hZ
  have hA : ∀ q : Nat, s.heap.size ≤ q → A q := fun q h => by rw [hAe]; exact Or.inr h
  obtain ⟨H, hHe⟩ : ∃ H, H = s.heap := ⟨_, rfl⟩
  obtain ⟨locs, hLe⟩ : ∃ L : List Loc, L = [] := ⟨_, rfl⟩
  have hP : va_P D vwCl [] H := by rw [hHe]; exact hP
  have hS : va_S (fun q : Nat => s.heap.size ≤ q) s.heap H locs := by rw [hHe, hLe]; exact hS
  have hgoal : W p l e ({ frames := 1, cells := 0, slots := 0, locals := 22 } : Room) s m ([.int (nI j), .int (nI n)] : List Value).toArray below meth c H locs 0 0 Q (F0 m 0 ls []) := by
    clear hHe hLe
    refine lv_iload_n hx hb dJ0_checkIndex_df160_0 rfl (lv_at hl 0 rfl) ?_
    refine lv_iload_n hx hb dJ0_checkIndex_df160_1 rfl (lv_at hl 1 rfl) ?_
    rcases hZ.2.1 with hZ2 | ⟨tq, hZ2⟩
    · refine va_gets hx hb hZ2 (va_S_up hS hA) hown (hts _ q_389) (fun _ h9 => h9) dJ0_checkIndex_df160_2 ?_
      have hPc := hP.sub (ws' := []) [] rfl
      have hDc := hD.sub (ws' := []) [] (by decide) rfl
      have hFc := va_free (wc := []) hD (va_S_up hS hA) hA [] rfl
      refine va_calli (va_runS (As := [.int (nI j), .int (nI n), .null]) (rest := []) ⟨hx, hb, hml, hown, hts⟩ (c_J3_checkIndex_8e157n l D j n (nI j) (nI n) H.size (show j < n from (by omega)) (show n ≤ 1000 from (by omega)) (show (nI j) = nI j from rfl) (show (nI n) = nI n from rfl)) ⟨callB_of 3 hts (gi_sub q_823) rfl rfl rfl (hts _ q_98) (hts _ q_821) (by decide +kernel) ⟨Nat.le_of_ble_eq_true rfl, Nat.le_of_ble_eq_true rfl⟩, (hts _ q_822)⟩ ⟨cPre_blind, cPre_mk hPc hK hDc hN (lwZ_for hZ (va_S_up hS hA) hFc)⟩ rfl rfl hl.1 rfl (lv_room (Nat.le_of_ble_eq_true rfl)) dJ0_checkIndex_df160_5 ⟨(Nat.le_of_ble_eq_true rfl), (Nat.le_of_ble_eq_true rfl)⟩) hS (fun q h1 h2 => absurd h2 (Nat.not_le.mpr h1)) (fun q h => Nat.le_trans hS.1 h) (fun r_5 u t H1 locs ht hvm hw hBk hz1 hk1 hS => ?_)
      have hP := va_P_ro hP hk1
      subst hw
      clear hBk hvm ht u hz1 hk1
      clear hPc hDc hFc; clear t
      generalize H1 = H at hP hS ⊢
      refine lv_pop hx hb dJ0_checkIndex_df160_8 rfl ?_
      subst hQe
      exact W.vret hx hb hr (fun t ht hW => ⟨⟨(), rfl, trivial, trivial⟩, hS.F ht⟩) hS.2.2 dJ0_checkIndex_df160_9
    · refine va_gets hx hb hZ2 (va_S_up hS hA) hown (hts _ q_389) (fun _ h9 => h9) dJ0_checkIndex_df160_2 ?_
      have hPc := hP.sub (ws' := []) [] rfl
      have hDc := hD.sub (ws' := []) [] (by decide) rfl
      have hFc := va_free (wc := []) hD (va_S_up hS hA) hA [] rfl
      refine va_calli (va_runS (As := [.int (nI j), .int (nI n), .ref tq]) (rest := []) ⟨hx, hb, hml, hown, hts⟩ (c_J3_checkIndex_8e157r l D j n tq (nI j) (nI n) H.size (show j < n from (by omega)) (show n ≤ 1000 from (by omega)) (show (nI j) = nI j from rfl) (show (nI n) = nI n from rfl)) ⟨callB_of 3 hts (gi_sub q_823) rfl rfl rfl (hts _ q_98) (hts _ q_821) (by decide +kernel) ⟨Nat.le_of_ble_eq_true rfl, Nat.le_of_ble_eq_true rfl⟩, (hts _ q_822)⟩ ⟨cPre_blind, cPre_mk hPc hK hDc hN (lwZ_for hZ (va_S_up hS hA) hFc)⟩ rfl rfl hl.1 rfl (lv_room (Nat.le_of_ble_eq_true rfl)) dJ0_checkIndex_df160_5 ⟨(Nat.le_of_ble_eq_true rfl), (Nat.le_of_ble_eq_true rfl)⟩) hS (fun q h1 h2 => absurd h2 (Nat.not_le.mpr h1)) (fun q h => Nat.le_trans hS.1 h) (fun r_5 u t H1 locs ht hvm hw hBk hz1 hk1 hS => ?_)
      have hP := va_P_ro hP hk1
      subst hw
      clear hBk hvm ht u hz1 hk1
      clear hPc hDc hFc; clear t
      generalize H1 = H at hP hS ⊢
      refine lv_pop hx hb dJ0_checkIndex_df160_8 rfl ?_
      subst hQe
      exact W.vret hx hb hr (fun t ht hW => ⟨⟨(), rfl, trivial, trivial⟩, hS.F ht⟩) hS.2.2 dJ0_checkIndex_df160_9
  rw [hHe, hLe] at hgoal
  exact hgoal

def F_J5_charAt_5068e (fY : Nat → Int32) (j : Nat) : Int32 := (((fY j) &&& 255).toUInt32 % 65536).toInt32
set_option maxHeartbeats 4000000 in
set_option maxRecDepth 100000 in
theorem c_J5_charAt_5068e (l : Launch) (D : va_G) (hB : Nat) (aY : Nat) (ml : Int32) (n : Nat) (cap : Nat) (fY : Nat → Int32) (j : Nat) (x1 : Int32) (sz : Nat) (hj : j < n) (hn : n ≤ cap) (hcap : cap ≤ 1000) (hx1 : x1 = nI j) : Met l yJ5_charAt_5068e (Cond.code yJ5_charAt_5068e cJ5_charAt_5068e 5 (some .char) :: lwAll) ({ frames := 2, cells := 0, slots := 0, locals := 43 } : Room) (va_Pc [.ref hB, .int x1] (cPre D (lwTY D) [(hB, .inr (1, [.ref aY, .int 0, .int ml, .int (nI n)])), (aY, .inl ((D.1 100), cap, .inl fY))] sz)) (va_Qi (fun (r : Int32) (_ : Unit) => r = (F_J5_charAt_5068e fY j) ∧ narrow .char (.int r) = .int r) (fun _ _ => True) (fun q : Nat => sz ≤ q)) 0 0 (fun q : Nat => sz ≤ q) := by
  subst hx1
  refine Met.ofW (cc := cJ5_charAt_5068e) (maxL := 5) (ret := (some .char)) (by decide) rfl ?_
  intro p e s m args below meth c s₁ B hml hv
  obtain ⟨rfl, hsz, hP, hK, hD0, hN, hZ⟩ := hv
  have hx := B.exec
  have hb := B.bytes
  have hr := B.returns
  have hts : ∀ wd ∈ lwAll, wd.before ([.ref hB, .int (nI j)] : List Value).toArray s = true := fun wd h => atoms_spec (ws := (Cond.code yJ5_charAt_5068e cJ5_charAt_5068e 5 (some .char) :: lwAll)) B.pre wd (List.mem_cons_of_mem _ h)
  have hown : s.vm.findClass RJ5 = some m.cls := findClass_of_methodNamed B.named
  have hlocks := B.notSynchronized
  subst hsz
  have hD := hD0.self (sz := s.heap.size)
  have hl := lv_entry ([.ref hB, .int (nI j)]) (n := 5) (Nat.le_of_ble_eq_true rfl)
  rw [lg_entry_eq]
  generalize (lg_sl ([.ref hB, .int (nI j)]) ++ List.replicate (5 - (lg_sl ([.ref hB, .int (nI j)])).length) Slot.unset).toArray = ls at hl ⊢
  have hl : lv_has ls 5 [(0, .ref hB), (1, .int (nI j))] := hl
  have hS : va_S (fun q : Nat => s.heap.size ≤ q) s.heap s.heap [] := va_S.rf
  generalize hQe : MQ below (va_Qi (fun (r : Int32) (_ : Unit) => r = (F_J5_charAt_5068e fY j) ∧ narrow .char (.int r) = .int r) (fun _ _ => True) (fun q : Nat => s.heap.size ≤ q)) ([.ref hB, .int (nI j)] : List Value).toArray s 0 0 (fun q : Nat => s.heap.size ≤ q) = Q
  have hP : va_P D vwCl [(hB, .inr (1, [.ref aY, .int 0, .int ml, .int (nI n)])), (aY, .inl ((D.1 100), cap, .inl fY))] s.heap := hP
  obtain ⟨A, hAe⟩ : ∃ A, A = va_A [(hB, .inr (1, [.ref aY, .int 0, .int ml, .int (nI n)])), (aY, .inl ((D.1 100), cap, .inl fY))] s.heap.size := ⟨_, rfl⟩
  rw [← hAe] at hD hZ
  have hA : ∀ q : Nat, s.heap.size ≤ q → A q := fun q h => by rw [hAe]; exact Or.inr h
  obtain ⟨H, hHe⟩ : ∃ H, H = s.heap := ⟨_, rfl⟩
  obtain ⟨locs, hLe⟩ : ∃ L : List Loc, L = [] := ⟨_, rfl⟩
  have hP : va_P D vwCl [(hB, .inr (1, [.ref aY, .int 0, .int ml, .int (nI n)])), (aY, .inl ((D.1 100), cap, .inl fY))] H := by rw [hHe]; exact hP
  have hS : va_S (fun q : Nat => s.heap.size ≤ q) s.heap H locs := by rw [hHe, hLe]; exact hS
  have hgoal : W p l e ({ frames := 2, cells := 0, slots := 0, locals := 43 } : Room) s m ([.ref hB, .int (nI j)] : List Value).toArray below meth c H locs 0 0 Q (F0 m 0 ls []) := by
    clear hHe hLe
    refine lv_aload_n hx hb dJ5_charAt_5068e_0 rfl (lv_at hl 0 rfl) ?_
    refine va_get (D := D) (ci := 1) (v := .int 0) (C := RJ4) (T := TJ4) (N := 4) hx hb hts in_J4 hown hK hP 0 rfl rfl 1 (by decide) (hts _ q_240) (fun _ h9 => h9) rfl dJ5_charAt_5068e_1 ?_
    refine lv_istore_n (lv' := [(2, .int 0), (0, .ref hB), (1, .int (nI j))]) hx hb dJ5_charAt_5068e_4 rfl hl (by decide) rfl (fun ls hl => ?_)
    refine lv_aload_n hx hb dJ5_charAt_5068e_5 rfl (lv_at hl 1 rfl) ?_
    refine va_get (D := D) (ci := 1) (v := .ref aY) (C := RJ4) (T := TJ4) (N := 4) hx hb hts in_J4 hown hK hP 0 rfl rfl 0 (by decide) (hts _ q_239) (fun _ h9 => h9) rfl dJ5_charAt_5068e_6 ?_
    refine lv_astore_n (lv' := [(3, .ref aY), (2, .int 0), (0, .ref hB), (1, .int (nI j))]) hx hb dJ5_charAt_5068e_9 rfl hl (by decide) rfl (fun ls hl => ?_)
    refine lv_aload_n hx hb dJ5_charAt_5068e_10 rfl (lv_at hl 2 rfl) ?_
    refine va_get (D := D) (ci := 1) (v := .int (nI n)) (C := RJ4) (T := TJ4) (N := 4) hx hb hts in_J4 hown hK hP 0 rfl rfl 3 (by decide) (hts _ q_243) (fun _ h9 => h9) rfl dJ5_charAt_5068e_11 ?_
    refine lv_aload_n hx hb dJ5_charAt_5068e_14 rfl (lv_at hl 0 rfl) ?_
    refine va_alen hx hb hK hP 1 0 rfl rfl (v := nI cap) rfl dJ5_charAt_5068e_15 ?_
    refine lv_iload_n hx hb dJ5_charAt_5068e_16 rfl (lv_at hl 1 rfl) ?_
    refine lv_ishr hx hb dJ5_charAt_5068e_17 ?_
    rw [show ((nI cap) >>> ((0 : Int32) &&& 31) : Int32) = nI cap from (sb_shr0 _)]
    refine va_mmin hx hb (hml.trans hl.1.symm) hown (hts _ q_817) (hts _ q_367) (hts _ q_95) (hts _ q_368) (Nat.le_of_ble_eq_true rfl) (Nat.le_of_ble_eq_true rfl) (Nat.zero_le _) (Nat.zero_le _) dJ5_charAt_5068e_18 ?_
    rw [show ((if (nI cap) < (nI n) then (nI cap) else (nI n)) : Int32) = nI n from (if_neg (nI_nlt (by omega) (by omega)))]
    refine lv_istore (lv' := [(4, .int (nI n)), (3, .ref aY), (2, .int 0), (0, .ref hB), (1, .int (nI j))]) hx hb dJ5_charAt_5068e_21 hl (by decide) rfl (fun ls hl => ?_)
    refine lv_iload_n hx hb dJ5_charAt_5068e_23 rfl (lv_at hl 4 rfl) ?_
    refine lv_iload hx hb dJ5_charAt_5068e_24 (lv_at hl 0 rfl) ?_
    have hPc := hP.sub (ws' := []) [] rfl
    have hDc := hD.sub (ws' := []) [] (by decide) rfl
    have hFc := va_free (wc := []) hD (va_S_up hS hA) hA [] rfl
    refine va_callv (va_runS (As := [.int (nI j), .int (nI n)]) (rest := []) ⟨hx, hb, hml, hown, hts⟩ (c_J0_checkIndex_df160 l D j n (nI j) (nI n) H.size (show j < n from (by omega)) (show n ≤ 1000 from (by omega)) (show (nI j) = nI j from rfl) (show (nI n) = nI n from rfl)) ⟨callB_of 2 hts (gi_sub q_820) rfl rfl rfl (hts _ q_87) (hts _ q_818) (by decide +kernel) ⟨Nat.le_of_ble_eq_true rfl, Nat.le_of_ble_eq_true rfl⟩, (hts _ q_819)⟩ ⟨cPre_blind, cPre_mk hPc hK hDc hN (lwZ_for hZ (va_S_up hS hA) hFc)⟩ rfl rfl hl.1 rfl (lv_room (Nat.le_of_ble_eq_true rfl)) dJ5_charAt_5068e_26 ⟨(Nat.le_of_ble_eq_true rfl), (Nat.le_of_ble_eq_true rfl)⟩) hS (fun q h1 h2 => absurd h2 (Nat.not_le.mpr h1)) (fun q h => Nat.le_trans hS.1 h) (fun u t H1 locs ht hvm hw hBk hz1 hk1 hS => ?_)
    have hP := va_P_ro hP hk1
    clear hBk hvm ht u hz1 hk1
    clear hPc hDc hFc; clear t
    generalize H1 = H at hP hS ⊢
    refine lv_iload_n hx hb dJ5_charAt_5068e_29 rfl (lv_at hl 2 rfl) ?_
    refine lv_if_ne (tgt := 42) hx hb dJ5_charAt_5068e_30 (by decide) (fun c_1 => ?_) (fun c_1 => ?_)
    · exact absurd (by decide) c_1
    · refine lv_aload_n hx hb dJ5_charAt_5068e_33 rfl (lv_at hl 1 rfl) ?_
      refine lv_iload_n hx hb dJ5_charAt_5068e_34 rfl (lv_at hl 4 rfl) ?_
      refine va_bald hx hb hK hP 1 0 rfl rfl (vp_in_nI (by omega) (by omega)) dJ5_charAt_5068e_35 ?_
      rw [nI_clamp (by omega)]
      refine lv_sipush (v := 255) hx hb dJ5_charAt_5068e_36 (by decide) ?_
      refine lv_iand hx hb dJ5_charAt_5068e_39 ?_
      refine lv_i2c (v := (((fY j) &&& 255).toUInt32 % 65536).toInt32) hx hb dJ5_charAt_5068e_40 rfl ?_
      subst hQe
      exact W.zret (ty := .char) (v := (((fY j) &&& 255).toUInt32 % 65536).toInt32) hx hb hr (pk_nc _) (fun t ht hW => ⟨⟨(((fY j) &&& 255).toUInt32 % 65536).toInt32, (), rfl, ⟨(by rfl), (pk_nc _)⟩, trivial⟩, hS.F ht⟩) hS.2.2 dJ5_charAt_5068e_41
  rw [hHe, hLe] at hgoal
  exact hgoal

def F_J4_charAt_5068e (fY : Nat → Int32) (j : Nat) : Int32 := F_J5_charAt_5068e fY j
set_option maxHeartbeats 4000000 in
set_option maxRecDepth 100000 in
theorem c_J4_charAt_5068e (l : Launch) (D : va_G) (hB : Nat) (aY : Nat) (ml : Int32) (n : Nat) (cap : Nat) (fY : Nat → Int32) (j : Nat) (x1 : Int32) (sz : Nat) (hj : j < n) (hn : n ≤ cap) (hcap : cap ≤ 1000) (hx1 : x1 = nI j) : Met l yJ4_charAt_5068e (Cond.code yJ4_charAt_5068e cJ4_charAt_5068e 2 (some .char) :: lwAll) ({ frames := 3, cells := 0, slots := 0, locals := 67 } : Room) (va_Pc [.ref hB, .int x1] (cPre D (lwTY D) [(hB, .inr (1, [.ref aY, .int 0, .int ml, .int (nI n)])), (aY, .inl ((D.1 100), cap, .inl fY))] sz)) (va_Qi (fun (r : Int32) (_ : Unit) => r = (F_J4_charAt_5068e fY j) ∧ narrow .char (.int r) = .int r) (fun _ _ => True) (fun q : Nat => sz ≤ q)) 0 0 (fun q : Nat => sz ≤ q) := by
  subst hx1
  refine Met.ofW (cc := cJ4_charAt_5068e) (maxL := 2) (ret := (some .char)) (by decide) rfl ?_
  intro p e s m args below meth c s₁ B hml hv
  obtain ⟨rfl, hsz, hP, hK, hD0, hN, hZ⟩ := hv
  have hx := B.exec
  have hb := B.bytes
  have hr := B.returns
  have hts : ∀ wd ∈ lwAll, wd.before ([.ref hB, .int (nI j)] : List Value).toArray s = true := fun wd h => atoms_spec (ws := (Cond.code yJ4_charAt_5068e cJ4_charAt_5068e 2 (some .char) :: lwAll)) B.pre wd (List.mem_cons_of_mem _ h)
  have hown : s.vm.findClass RJ4 = some m.cls := findClass_of_methodNamed B.named
  have hlocks := B.notSynchronized
  subst hsz
  have hD := hD0.self (sz := s.heap.size)
  have hl := lv_entry ([.ref hB, .int (nI j)]) (n := 2) (Nat.le_of_ble_eq_true rfl)
  rw [lg_entry_eq]
  generalize (lg_sl ([.ref hB, .int (nI j)]) ++ List.replicate (2 - (lg_sl ([.ref hB, .int (nI j)])).length) Slot.unset).toArray = ls at hl ⊢
  have hl : lv_has ls 2 [(0, .ref hB), (1, .int (nI j))] := hl
  have hS : va_S (fun q : Nat => s.heap.size ≤ q) s.heap s.heap [] := va_S.rf
  generalize hQe : MQ below (va_Qi (fun (r : Int32) (_ : Unit) => r = (F_J4_charAt_5068e fY j) ∧ narrow .char (.int r) = .int r) (fun _ _ => True) (fun q : Nat => s.heap.size ≤ q)) ([.ref hB, .int (nI j)] : List Value).toArray s 0 0 (fun q : Nat => s.heap.size ≤ q) = Q
  have hP : va_P D vwCl [(hB, .inr (1, [.ref aY, .int 0, .int ml, .int (nI n)])), (aY, .inl ((D.1 100), cap, .inl fY))] s.heap := hP
  obtain ⟨A, hAe⟩ : ∃ A, A = va_A [(hB, .inr (1, [.ref aY, .int 0, .int ml, .int (nI n)])), (aY, .inl ((D.1 100), cap, .inl fY))] s.heap.size := ⟨_, rfl⟩
  rw [← hAe] at hD hZ
  have hA : ∀ q : Nat, s.heap.size ≤ q → A q := fun q h => by rw [hAe]; exact Or.inr h
  obtain ⟨H, hHe⟩ : ∃ H, H = s.heap := ⟨_, rfl⟩
  obtain ⟨locs, hLe⟩ : ∃ L : List Loc, L = [] := ⟨_, rfl⟩
  have hP : va_P D vwCl [(hB, .inr (1, [.ref aY, .int 0, .int ml, .int (nI n)])), (aY, .inl ((D.1 100), cap, .inl fY))] H := by rw [hHe]; exact hP
  have hS : va_S (fun q : Nat => s.heap.size ≤ q) s.heap H locs := by rw [hHe, hLe]; exact hS
  have hgoal : W p l e ({ frames := 3, cells := 0, slots := 0, locals := 67 } : Room) s m ([.ref hB, .int (nI j)] : List Value).toArray below meth c H locs 0 0 Q (F0 m 0 ls []) := by
    clear hHe hLe
    refine lv_aload_n hx hb dJ4_charAt_5068e_0 rfl (lv_at hl 0 rfl) ?_
    refine lv_iload_n hx hb dJ4_charAt_5068e_1 rfl (lv_at hl 1 rfl) ?_
    have hPc := hP.sub (ws' := [(hB, .inr (1, [.ref aY, .int 0, .int ml, .int (nI n)])), (aY, .inl ((D.1 100), cap, .inl fY))]) [0, 1] rfl
    have hDc := hD.sub (ws' := [(hB, .inr (1, [.ref aY, .int 0, .int ml, .int (nI n)])), (aY, .inl ((D.1 100), cap, .inl fY))]) [0, 1] (by decide) rfl
    have hFc := va_free (wc := [(hB, .inr (1, [.ref aY, .int 0, .int ml, .int (nI n)])), (aY, .inl ((D.1 100), cap, .inl fY))]) hD (va_S_up hS hA) hA [0, 1] rfl
    refine va_calli (va_runSU (hK.1 1 _ rfl).2 (As := [.int (nI j)]) (rest := []) ⟨hx, hb, hml, hown, hts⟩ (c_J5_charAt_5068e l D hB aY ml n cap fY j (nI j) H.size (show j < n from (by omega)) (show n ≤ cap from (by omega)) (show cap ≤ 1000 from (by omega)) (show (nI j) = nI j from rfl)) (va_cwSU 1 hts (gi_SU q_814 q_1667 q_252 q_815 q_85 q_816) rfl rfl rfl (by decide +kernel) ⟨Nat.le_of_ble_eq_true rfl, Nat.le_of_ble_eq_true rfl⟩) ⟨cPre_blind, va_recv hK hP (ci := 1) (q0 := 0) rfl rfl, cPre_mk hPc hK hDc hN (lwZ_for hZ (va_S_up hS hA) hFc)⟩ rfl rfl hl.1 rfl (lv_room (Nat.le_of_ble_eq_true rfl)) dJ4_charAt_5068e_2 ⟨(Nat.le_of_ble_eq_true rfl), (Nat.le_of_ble_eq_true rfl)⟩) hS (fun q h1 h2 => absurd h2 (Nat.not_le.mpr h1)) (fun q h => Nat.le_trans hS.1 h) (fun r_2 u t H1 locs ht hvm hw hBk hz1 hk1 hS => ?_)
    have hP := va_P_ro hP hk1
    obtain ⟨hw, z_1⟩ := hw
    rw [hw] at z_1
    subst hw
    clear hBk hvm ht u hz1 hk1
    clear hPc hDc hFc; clear t
    generalize H1 = H at hP hS ⊢
    subst hQe
    exact W.zret (ty := .char) (v := F_J5_charAt_5068e fY j) hx hb hr (by assumption) (fun t ht hW => ⟨⟨F_J5_charAt_5068e fY j, (), rfl, ⟨(by rfl), (by assumption)⟩, trivial⟩, hS.F ht⟩) hS.2.2 dJ4_charAt_5068e_5
  rw [hHe, hLe] at hgoal
  exact hgoal

def S_X4_lag_6 (fM : Nat → Int32) (fE : Nat → Int32) (fLE : Nat → Int32) (i0 : Nat) (a0 : Int32 × Int32) : Int32 × Int32 := (if (fE i0) ≤ 0 then (a0.1, a0.2) else (a0.1 + (F_X4_lagOf fM fLE i0), a0.2 + 1))
def F_X4_lag (K : Nat) (fM : Nat → Int32) (fE : Nat → Int32) (fLE : Nat → Int32) : UInt64 := (if ((itr (fun i a => S_X4_lag_6 fM fE fLE i a) K 0 (0, 0)).2) = 0 then 0 else FP.ddiv (FP.i2d ((itr (fun i a => S_X4_lag_6 fM fE fLE i a) K 0 (0, 0)).1)) (FP.i2d ((itr (fun i a => S_X4_lag_6 fM fE fLE i a) K 0 (0, 0)).2)))
set_option maxHeartbeats 4000000 in
set_option maxRecDepth 100000 in
theorem c_X4_lag (l : Launch) (D : va_G) (hX : Nat) (hW : Nat) (hF : Nat) (hA_ : Nat) (hT : Nat) (sc : Nat) (pa : Int32) (gu : Int32) (cl : Int32) (se : Int32) (rf : Int32) (R : Nat) (C : Nat) (K : Nat) (fi : Int32) (di : Int32) (br : Int32) (li : Int32) (aB : Nat) (aS : Nat) (aN : Nat) (aM : Nat) (he : Int32) (lu : Int32) (aCn : Nat) (aE : Nat) (aLE : Nat) (dn : Int32) (ea : Int32) (fM : Nat → Int32) (fE : Nat → Int32) (fLE : Nat → Int32) (sz : Nat) (hKb : K ≤ 25) : Met l yX4_lag (Cond.code yX4_lag cX4_lag 4 (some .double) :: lwAll) ({ frames := 1, cells := 0, slots := 0, locals := 23 } : Room) (va_Pc [.ref hX] (cPre D (lwTY D) [(hX, .inr (11, [.ref hW, .ref hF, .ref hA_, .ref hT, .int (nI sc), .int pa, .int gu, .int cl, .int se, .int rf])), (hW, .inr (10, [.int (nI R), .int (nI C), .int (nI K), .int fi, .int di, .int br, .int li])), (hF, .inr (7, [.ref aB, .ref aS, .ref aN, .ref aM, .int he, .int lu])), (hA_, .inr (9, [.ref aCn, .ref aE, .ref aLE, .int dn, .int ea])), (aM, .inl ((D.1 101), 25, .inl fM)), (aE, .inl ((D.1 101), 25, .inl fE)), (aLE, .inl ((D.1 101), 25, .inl fLE))] sz)) (va_Qd (fun (r : UInt64) (_ : Unit) => r = (F_X4_lag K fM fE fLE)) (fun _ _ => True) (fun q : Nat => sz ≤ q)) 0 0 (fun q : Nat => sz ≤ q) := by
  refine Met.ofW (cc := cX4_lag) (maxL := 4) (ret := (some .double)) (by decide) rfl ?_
  intro p e s m args below meth c s₁ B hml hv
  obtain ⟨rfl, hsz, hP, hK, hD0, hN, hZ⟩ := hv
  have hx := B.exec
  have hb := B.bytes
  have hr := B.returns
  have hts : ∀ wd ∈ lwAll, wd.before ([.ref hX] : List Value).toArray s = true := fun wd h => atoms_spec (ws := (Cond.code yX4_lag cX4_lag 4 (some .double) :: lwAll)) B.pre wd (List.mem_cons_of_mem _ h)
  have hown : s.vm.findClass RX4 = some m.cls := findClass_of_methodNamed B.named
  have hlocks := B.notSynchronized
  subst hsz
  have hD := hD0.self (sz := s.heap.size)
  have hl := lv_entry ([.ref hX]) (n := 4) (Nat.le_of_ble_eq_true rfl)
  rw [lg_entry_eq]
  generalize (lg_sl ([.ref hX]) ++ List.replicate (4 - (lg_sl ([.ref hX])).length) Slot.unset).toArray = ls at hl ⊢
  have hl : lv_has ls 4 [(0, .ref hX)] := hl
  have hS : va_S (fun q : Nat => s.heap.size ≤ q) s.heap s.heap [] := va_S.rf
  generalize hQe : MQ below (va_Qd (fun (r : UInt64) (_ : Unit) => r = (F_X4_lag K fM fE fLE)) (fun _ _ => True) (fun q : Nat => s.heap.size ≤ q)) ([.ref hX] : List Value).toArray s 0 0 (fun q : Nat => s.heap.size ≤ q) = Q
  have hP : va_P D vwCl [(hX, .inr (11, [.ref hW, .ref hF, .ref hA_, .ref hT, .int (nI sc), .int pa, .int gu, .int cl, .int se, .int rf])), (hW, .inr (10, [.int (nI R), .int (nI C), .int (nI K), .int fi, .int di, .int br, .int li])), (hF, .inr (7, [.ref aB, .ref aS, .ref aN, .ref aM, .int he, .int lu])), (hA_, .inr (9, [.ref aCn, .ref aE, .ref aLE, .int dn, .int ea])), (aM, .inl ((D.1 101), 25, .inl fM)), (aE, .inl ((D.1 101), 25, .inl fE)), (aLE, .inl ((D.1 101), 25, .inl fLE))] s.heap := hP
  obtain ⟨A, hAe⟩ : ∃ A, A = va_A [(hX, .inr (11, [.ref hW, .ref hF, .ref hA_, .ref hT, .int (nI sc), .int pa, .int gu, .int cl, .int se, .int rf])), (hW, .inr (10, [.int (nI R), .int (nI C), .int (nI K), .int fi, .int di, .int br, .int li])), (hF, .inr (7, [.ref aB, .ref aS, .ref aN, .ref aM, .int he, .int lu])), (hA_, .inr (9, [.ref aCn, .ref aE, .ref aLE, .int dn, .int ea])), (aM, .inl ((D.1 101), 25, .inl fM)), (aE, .inl ((D.1 101), 25, .inl fE)), (aLE, .inl ((D.1 101), 25, .inl fLE))] s.heap.size := ⟨_, rfl⟩
  rw [← hAe] at hD hZ
  have hA : ∀ q : Nat, s.heap.size ≤ q → A q := fun q h => by rw [hAe]; exact Or.inr h
  obtain ⟨H, hHe⟩ : ∃ H, H = s.heap := ⟨_, rfl⟩
  obtain ⟨locs, hLe⟩ : ∃ L : List Loc, L = [] := ⟨_, rfl⟩
  have hP : va_P D vwCl [(hX, .inr (11, [.ref hW, .ref hF, .ref hA_, .ref hT, .int (nI sc), .int pa, .int gu, .int cl, .int se, .int rf])), (hW, .inr (10, [.int (nI R), .int (nI C), .int (nI K), .int fi, .int di, .int br, .int li])), (hF, .inr (7, [.ref aB, .ref aS, .ref aN, .ref aM, .int he, .int lu])), (hA_, .inr (9, [.ref aCn, .ref aE, .ref aLE, .int dn, .int ea])), (aM, .inl ((D.1 101), 25, .inl fM)), (aE, .inl ((D.1 101), 25, .inl fE)), (aLE, .inl ((D.1 101), 25, .inl fLE))] H := by rw [hHe]; exact hP
  have hS : va_S (fun q : Nat => s.heap.size ≤ q) s.heap H locs := by rw [hHe, hLe]; exact hS
  have hgoal : W p l e ({ frames := 1, cells := 0, slots := 0, locals := 23 } : Room) s m ([.ref hX] : List Value).toArray below meth c H locs 0 0 Q (F0 m 0 ls []) := by
    clear hHe hLe
    refine lv_iconst (v := 0) hx hb dX4_lag_0 (by decide) ?_
    refine lv_istore_n (lv' := [(1, .int 0), (0, .ref hX)]) hx hb dX4_lag_1 rfl hl (by decide) rfl (fun ls hl => ?_)
    refine lv_iconst (v := 0) hx hb dX4_lag_2 (by decide) ?_
    refine lv_istore_n (lv' := [(2, .int 0), (1, .int 0), (0, .ref hX)]) hx hb dX4_lag_3 rfl hl (by decide) rfl (fun ls hl => ?_)
    refine lv_iconst (v := 0) hx hb dX4_lag_4 (by decide) ?_
    refine lv_istore_n (lv' := [(3, .int 0), (2, .int 0), (1, .int 0), (0, .ref hX)]) hx hb dX4_lag_5 rfl hl (by decide) rfl (fun ls hl => ?_)
    have lp_6 : ∀ (n0 i0 : Nat), i0 + n0 = K → ∀ (a0 : Int32 × Int32) (H : Heap) (locs : List Loc) (ls : Array Slot), va_P D vwCl [(hX, .inr (11, [.ref hW, .ref hF, .ref hA_, .ref hT, .int (nI sc), .int pa, .int gu, .int cl, .int se, .int rf])), (hW, .inr (10, [.int (nI R), .int (nI C), .int (nI K), .int fi, .int di, .int br, .int li])), (hF, .inr (7, [.ref aB, .ref aS, .ref aN, .ref aM, .int he, .int lu])), (hA_, .inr (9, [.ref aCn, .ref aE, .ref aLE, .int dn, .int ea])), (aM, .inl ((D.1 101), 25, .inl fM)), (aE, .inl ((D.1 101), 25, .inl fE)), (aLE, .inl ((D.1 101), 25, .inl fLE))] H → va_D A [(hX, .inr (11, [.ref hW, .ref hF, .ref hA_, .ref hT, .int (nI sc), .int pa, .int gu, .int cl, .int se, .int rf])), (hW, .inr (10, [.int (nI R), .int (nI C), .int (nI K), .int fi, .int di, .int br, .int li])), (hF, .inr (7, [.ref aB, .ref aS, .ref aN, .ref aM, .int he, .int lu])), (hA_, .inr (9, [.ref aCn, .ref aE, .ref aLE, .int dn, .int ea])), (aM, .inl ((D.1 101), 25, .inl fM)), (aE, .inl ((D.1 101), 25, .inl fE)), (aLE, .inl ((D.1 101), 25, .inl fLE))] → va_S (fun q : Nat => s.heap.size ≤ q) s.heap H locs → lv_has ls 4 [(0, .ref hX), (1, .int a0.1), (2, .int a0.2), (3, .int (nI i0))] → (∀ (H : Heap) (locs : List Loc) (ls : Array Slot), va_P D vwCl [(hX, .inr (11, [.ref hW, .ref hF, .ref hA_, .ref hT, .int (nI sc), .int pa, .int gu, .int cl, .int se, .int rf])), (hW, .inr (10, [.int (nI R), .int (nI C), .int (nI K), .int fi, .int di, .int br, .int li])), (hF, .inr (7, [.ref aB, .ref aS, .ref aN, .ref aM, .int he, .int lu])), (hA_, .inr (9, [.ref aCn, .ref aE, .ref aLE, .int dn, .int ea])), (aM, .inl ((D.1 101), 25, .inl fM)), (aE, .inl ((D.1 101), 25, .inl fE)), (aLE, .inl ((D.1 101), 25, .inl fLE))] H → va_D A [(hX, .inr (11, [.ref hW, .ref hF, .ref hA_, .ref hT, .int (nI sc), .int pa, .int gu, .int cl, .int se, .int rf])), (hW, .inr (10, [.int (nI R), .int (nI C), .int (nI K), .int fi, .int di, .int br, .int li])), (hF, .inr (7, [.ref aB, .ref aS, .ref aN, .ref aM, .int he, .int lu])), (hA_, .inr (9, [.ref aCn, .ref aE, .ref aLE, .int dn, .int ea])), (aM, .inl ((D.1 101), 25, .inl fM)), (aE, .inl ((D.1 101), 25, .inl fE)), (aLE, .inl ((D.1 101), 25, .inl fLE))] → va_S (fun q : Nat => s.heap.size ≤ q) s.heap H locs → lv_has ls 4 [(0, .ref hX), (1, .int ((itr (fun i a => S_X4_lag_6 fM fE fLE i a) n0 i0 a0).1)), (2, .int ((itr (fun i a => S_X4_lag_6 fM fE fLE i a) n0 i0 a0).2)), (3, .int (nI K))] → W p l e ({ frames := 1, cells := 0, slots := 0, locals := 23 } : Room) s m ([.ref hX] : List Value).toArray below meth c H locs 0 0 Q (F0 m 46 ls [])) → W p l e ({ frames := 1, cells := 0, slots := 0, locals := 23 } : Room) s m ([.ref hX] : List Value).toArray below meth c H locs 0 0 Q (F0 m 6 ls []) := by
      intro n0
      induction n0 with
      | zero =>
        intro i0 hi0 a0 H locs ls hP hD hS hl kon
        have he0 : i0 = K := by omega
        refine lv_iload_n hx hb dX4_lag_6 rfl (lv_at hl 3 rfl) ?_
        refine lv_aload_n hx hb dX4_lag_7 rfl (lv_at hl 0 rfl) ?_
        refine va_get (D := D) (ci := 11) (v := .ref hW) (C := RX4) (T := TX4) (N := 10) hx hb hts in_X4 hown hK hP 0 rfl rfl 0 (by decide) (hts _ q_655) (fun _ h9 => h9) rfl dX4_lag_8 ?_
        refine va_getN (D := D) (ci := 10) (v := .int (nI K)) (C := RX3) (T := TX3) (N := 7) hx hb hts in_X3 hown hK hP 1 rfl rfl 2 (by decide) (va_Nw.use rfl (hN.1 _ n_133)) (fun _ h9 => h9) rfl dX4_lag_11 ?_
        refine lv_icmp_ge (tgt := 46) hx hb dX4_lag_14 (by decide) (fun c_1 => ?_) (fun c_1 => ?_)
        · subst he0
          exact kon H locs ls hP hD hS (lv_sub hl [0, 1, 2, 3] rfl)
        · exact absurd (nI_le (a := K) (b := i0) (by omega) (by omega)) c_1
      | succ n0 ih0 =>
        intro i0 hi0 a0 H locs ls hP hD hS hl kon
        refine lv_iload_n hx hb dX4_lag_6 rfl (lv_at hl 3 rfl) ?_
        refine lv_aload_n hx hb dX4_lag_7 rfl (lv_at hl 0 rfl) ?_
        refine va_get (D := D) (ci := 11) (v := .ref hW) (C := RX4) (T := TX4) (N := 10) hx hb hts in_X4 hown hK hP 0 rfl rfl 0 (by decide) (hts _ q_655) (fun _ h9 => h9) rfl dX4_lag_8 ?_
        refine va_getN (D := D) (ci := 10) (v := .int (nI K)) (C := RX3) (T := TX3) (N := 7) hx hb hts in_X3 hown hK hP 1 rfl rfl 2 (by decide) (va_Nw.use rfl (hN.1 _ n_133)) (fun _ h9 => h9) rfl dX4_lag_11 ?_
        refine lv_icmp_ge (tgt := 46) hx hb dX4_lag_14 (by decide) (fun c_2 => ?_) (fun c_2 => ?_)
        · exact absurd c_2 (nI_ge (a := i0) (b := K) (by omega) (by omega))
        · refine lv_aload_n hx hb dX4_lag_17 rfl (lv_at hl 0 rfl) ?_
          refine va_get (D := D) (ci := 11) (v := .ref hA_) (C := RX4) (T := TX4) (N := 10) hx hb hts in_X4 hown hK hP 0 rfl rfl 2 (by decide) (hts _ q_657) (fun _ h9 => h9) rfl dX4_lag_18 ?_
          refine va_getN (D := D) (ci := 9) (v := .ref aE) (C := RX2) (T := TX2) (N := 5) hx hb hts in_X2 hown hK hP 3 rfl rfl 1 (by decide) (va_Nw.use rfl (hN.1 _ n_197)) (fun _ h9 => h9) rfl dX4_lag_21 ?_
          refine lv_iload_n hx hb dX4_lag_24 rfl (lv_at hl 3 rfl) ?_
          refine va_iald hx hb hK hP 5 1 rfl rfl (vp_in_nI (by omega) (by omega)) dX4_lag_25 ?_
          rw [nI_clamp (by omega)]
          refine lv_if_le (tgt := 40) hx hb dX4_lag_26 (by decide) (fun c_3 => ?_) (fun c_3 => ?_)
          · refine lv_iinc (v := nI (i0 + 1)) (lv' := [(3, .int (nI (i0 + 1))), (0, .ref hX), (1, .int a0.1), (2, .int a0.2)]) hx hb dX4_lag_40 hl (k := 3) rfl (nI_1 _) (by decide) rfl (fun ls hl => ?_)
            refine lv_goto (tgt := 6) hx hb dX4_lag_43 (by decide) ?_
            have hE : S_X4_lag_6 fM fE fLE i0 a0 = (a0.1, a0.2) := (by unfold S_X4_lag_6; rw [if_pos c_3])
            have hl : lv_has ls 4 [(0, .ref hX), (1, .int a0.1), (2, .int a0.2), (3, .int (nI (i0 + 1)))] := lv_sub hl [1, 2, 3, 0] rfl
            have hP := hP.sub (ws' := [(hX, .inr (11, [.ref hW, .ref hF, .ref hA_, .ref hT, .int (nI sc), .int pa, .int gu, .int cl, .int se, .int rf])), (hW, .inr (10, [.int (nI R), .int (nI C), .int (nI K), .int fi, .int di, .int br, .int li])), (hF, .inr (7, [.ref aB, .ref aS, .ref aN, .ref aM, .int he, .int lu])), (hA_, .inr (9, [.ref aCn, .ref aE, .ref aLE, .int dn, .int ea])), (aM, .inl ((D.1 101), 25, .inl fM)), (aE, .inl ((D.1 101), 25, .inl fE)), (aLE, .inl ((D.1 101), 25, .inl fLE))]) [0, 1, 2, 3, 4, 5, 6] rfl
            have hD := hD.sub (ws' := [(hX, .inr (11, [.ref hW, .ref hF, .ref hA_, .ref hT, .int (nI sc), .int pa, .int gu, .int cl, .int se, .int rf])), (hW, .inr (10, [.int (nI R), .int (nI C), .int (nI K), .int fi, .int di, .int br, .int li])), (hF, .inr (7, [.ref aB, .ref aS, .ref aN, .ref aM, .int he, .int lu])), (hA_, .inr (9, [.ref aCn, .ref aE, .ref aLE, .int dn, .int ea])), (aM, .inl ((D.1 101), 25, .inl fM)), (aE, .inl ((D.1 101), 25, .inl fE)), (aLE, .inl ((D.1 101), 25, .inl fLE))]) [0, 1, 2, 3, 4, 5, 6] (by decide) rfl
            exact ih0 (i0 + 1) (by omega) (S_X4_lag_6 fM fE fLE i0 a0) H locs ls (by (try rw [hE]); exact hP) (by (try rw [hE]); exact hD) hS (by (try rw [hE]); exact hl) kon
          · refine lv_iload_n hx hb dX4_lag_29 rfl (lv_at hl 1 rfl) ?_
            refine lv_aload_n hx hb dX4_lag_30 rfl (lv_at hl 0 rfl) ?_
            refine lv_iload_n hx hb dX4_lag_31 rfl (lv_at hl 3 rfl) ?_
            have hPc := hP.sub (ws' := [(hX, .inr (11, [.ref hW, .ref hF, .ref hA_, .ref hT, .int (nI sc), .int pa, .int gu, .int cl, .int se, .int rf])), (hF, .inr (7, [.ref aB, .ref aS, .ref aN, .ref aM, .int he, .int lu])), (hA_, .inr (9, [.ref aCn, .ref aE, .ref aLE, .int dn, .int ea])), (aM, .inl ((D.1 101), 25, .inl fM)), (aLE, .inl ((D.1 101), 25, .inl fLE))]) [0, 2, 3, 4, 6] rfl
            have hDc := hD.sub (ws' := [(hX, .inr (11, [.ref hW, .ref hF, .ref hA_, .ref hT, .int (nI sc), .int pa, .int gu, .int cl, .int se, .int rf])), (hF, .inr (7, [.ref aB, .ref aS, .ref aN, .ref aM, .int he, .int lu])), (hA_, .inr (9, [.ref aCn, .ref aE, .ref aLE, .int dn, .int ea])), (aM, .inl ((D.1 101), 25, .inl fM)), (aLE, .inl ((D.1 101), 25, .inl fLE))]) [0, 2, 3, 4, 6] (by decide) rfl
            have hFc := va_free (wc := [(hX, .inr (11, [.ref hW, .ref hF, .ref hA_, .ref hT, .int (nI sc), .int pa, .int gu, .int cl, .int se, .int rf])), (hF, .inr (7, [.ref aB, .ref aS, .ref aN, .ref aM, .int he, .int lu])), (hA_, .inr (9, [.ref aCn, .ref aE, .ref aLE, .int dn, .int ea])), (aM, .inl ((D.1 101), 25, .inl fM)), (aLE, .inl ((D.1 101), 25, .inl fLE))]) hD (va_S_up hS hA) hA [0, 2, 3, 4, 6] rfl
            refine va_calli (va_runV (As := [.int (nI i0)]) (rest := [.int a0.1]) ⟨hx, hb, hml, hown, hts⟩ (c_X4_lagOf l D hX hW hF hA_ hT sc pa gu cl se rf aB aS aN aM he lu aCn aE aLE dn ea fM fLE i0 (nI i0) H.size (show i0 < 25 from (by omega)) (show (nI i0) = nI i0 from rfl)) (cwV 1 hts (gi_V q_699 q_701 q_6 q_80 q_702) rfl rfl rfl (by decide +kernel) ⟨Nat.le_of_ble_eq_true rfl, Nat.le_of_ble_eq_true rfl⟩) ⟨cPre_blind, va_recv hK hP (ci := 11) (q0 := 0) rfl rfl, cPre_mk hPc hK hDc hN (lwZ_for hZ (va_S_up hS hA) hFc)⟩ rfl rfl hl.1 rfl (lv_room (Nat.le_of_ble_eq_true rfl)) dX4_lag_32 ⟨(Nat.le_of_ble_eq_true rfl), (Nat.le_of_ble_eq_true rfl)⟩) hS (fun q h1 h2 => absurd h2 (Nat.not_le.mpr h1)) (fun q h => Nat.le_trans hS.1 h) (fun r_32 u t H1 locs ht hvm hw hBk hz1 hk1 hS => ?_)
            have hP := va_P_ro hP hk1
            subst hw
            clear hBk hvm ht u hz1 hk1
            clear hPc hDc hFc; clear t
            generalize H1 = H at hP hS ⊢
            refine lv_iadd hx hb dX4_lag_35 ?_
            refine lv_istore_n (lv' := [(1, .int (a0.1 + (F_X4_lagOf fM fLE i0))), (0, .ref hX), (2, .int a0.2), (3, .int (nI i0))]) hx hb dX4_lag_36 rfl hl (by decide) rfl (fun ls hl => ?_)
            refine lv_iinc (v := a0.2 + 1) (lv' := [(2, .int (a0.2 + 1)), (1, .int (a0.1 + (F_X4_lagOf fM fLE i0))), (0, .ref hX), (3, .int (nI i0))]) hx hb dX4_lag_37 hl (k := 2) rfl (rfl) (by decide) rfl (fun ls hl => ?_)
            refine lv_iinc (v := nI (i0 + 1)) (lv' := [(3, .int (nI (i0 + 1))), (2, .int (a0.2 + 1)), (1, .int (a0.1 + (F_X4_lagOf fM fLE i0))), (0, .ref hX)]) hx hb dX4_lag_40 hl (k := 3) rfl (nI_1 _) (by decide) rfl (fun ls hl => ?_)
            refine lv_goto (tgt := 6) hx hb dX4_lag_43 (by decide) ?_
            have hE : S_X4_lag_6 fM fE fLE i0 a0 = (a0.1 + (F_X4_lagOf fM fLE i0), a0.2 + 1) := (by unfold S_X4_lag_6; rw [if_neg c_3])
            have hl : lv_has ls 4 [(0, .ref hX), (1, .int (a0.1 + (F_X4_lagOf fM fLE i0))), (2, .int (a0.2 + 1)), (3, .int (nI (i0 + 1)))] := lv_sub hl [3, 2, 1, 0] rfl
            have hP := hP.sub (ws' := [(hX, .inr (11, [.ref hW, .ref hF, .ref hA_, .ref hT, .int (nI sc), .int pa, .int gu, .int cl, .int se, .int rf])), (hW, .inr (10, [.int (nI R), .int (nI C), .int (nI K), .int fi, .int di, .int br, .int li])), (hF, .inr (7, [.ref aB, .ref aS, .ref aN, .ref aM, .int he, .int lu])), (hA_, .inr (9, [.ref aCn, .ref aE, .ref aLE, .int dn, .int ea])), (aM, .inl ((D.1 101), 25, .inl fM)), (aE, .inl ((D.1 101), 25, .inl fE)), (aLE, .inl ((D.1 101), 25, .inl fLE))]) [0, 1, 2, 3, 4, 5, 6] rfl
            have hD := hD.sub (ws' := [(hX, .inr (11, [.ref hW, .ref hF, .ref hA_, .ref hT, .int (nI sc), .int pa, .int gu, .int cl, .int se, .int rf])), (hW, .inr (10, [.int (nI R), .int (nI C), .int (nI K), .int fi, .int di, .int br, .int li])), (hF, .inr (7, [.ref aB, .ref aS, .ref aN, .ref aM, .int he, .int lu])), (hA_, .inr (9, [.ref aCn, .ref aE, .ref aLE, .int dn, .int ea])), (aM, .inl ((D.1 101), 25, .inl fM)), (aE, .inl ((D.1 101), 25, .inl fE)), (aLE, .inl ((D.1 101), 25, .inl fLE))]) [0, 1, 2, 3, 4, 5, 6] (by decide) rfl
            exact ih0 (i0 + 1) (by omega) (S_X4_lag_6 fM fE fLE i0 a0) H locs ls (by (try rw [hE]); exact hP) (by (try rw [hE]); exact hD) hS (by (try rw [hE]); exact hl) kon
    have hl : lv_has ls 4 [(0, .ref hX), (1, .int 0), (2, .int 0), (3, .int (nI 0))] := lv_sub hl [3, 2, 1, 0] rfl
    refine lp_6 K 0 (by omega) (0, 0) H locs ls hP hD hS hl ?_
    clear lp_6 hP hD hS hl
    intro H locs ls hP hD hS hl
    refine lv_iload_n hx hb dX4_lag_46 rfl (lv_at hl 2 rfl) ?_
    refine lv_if_ne (tgt := 54) hx hb dX4_lag_47 (by decide) (fun c_4 => ?_) (fun c_4 => ?_)
    · refine lv_iload_n hx hb dX4_lag_54 rfl (lv_at hl 1 rfl) ?_
      refine lv_i2d hx hb dX4_lag_55 ?_
      refine lv_iload_n hx hb dX4_lag_56 rfl (lv_at hl 2 rfl) ?_
      refine lv_i2d hx hb dX4_lag_57 ?_
      refine lv_ddiv hx hb dX4_lag_58 (lag_n64 _ _ (by assumption)) ?_
      subst hQe
      exact W.dret (v := FP.ddiv (FP.i2d ((itr (fun i a => S_X4_lag_6 fM fE fLE i a) K 0 (0, 0)).1)) (FP.i2d ((itr (fun i a => S_X4_lag_6 fM fE fLE i a) K 0 (0, 0)).2))) hx hb hr (fun t ht hW => ⟨⟨FP.ddiv (FP.i2d ((itr (fun i a => S_X4_lag_6 fM fE fLE i a) K 0 (0, 0)).1)) (FP.i2d ((itr (fun i a => S_X4_lag_6 fM fE fLE i a) K 0 (0, 0)).2)), (), rfl, (by unfold F_X4_lag; rw [if_neg c_4]), trivial⟩, hS.F ht⟩) hS.2.2 dX4_lag_59
    · refine lv_dconst0 hx hb dX4_lag_50 ?_
      refine lv_goto (tgt := 59) hx hb dX4_lag_51 (by decide) ?_
      subst hQe
      exact W.dret (v := 0) hx hb hr (fun t ht hW => ⟨⟨0, (), rfl, (by unfold F_X4_lag; rw [if_pos c_4]), trivial⟩, hS.F ht⟩) hS.2.2 dX4_lag_59
  rw [hHe, hLe] at hgoal
  exact hgoal

theorem lagF_n64 {K : Nat} {fM : Nat → Int32} {fE : Nat → Int32} {fLE : Nat → Int32} : vf_n64 (F_X4_lag K fM fE fLE) := by
  unfold F_X4_lag
  split
  · exact zero_n64
  · exact lag_n64 _ _ (by assumption)

def S_X4_digest_6 (sc : Nat) (pa : Int32) (gu : Int32) (rf : Int32) (R : Nat) (C : Nat) (K : Nat) (fi : Int32) (di : Int32) (br : Int32) (li : Int32) (lu : Int32) (ea : Int32) (lo : Int32) (Ch : Nat) (ct : Int32) (fG : Nat → Int32) (i0 : Nat) (a0 : Int64) : Int64 := (a0 * 31) + ((F_X4_tellBoard sc pa gu rf R C K fi di br li lu ea lo Ch ct fG i0).toInt64)
def S_X4_digest_33 (cl : Int32) (se : Int32) (fi : Int32) (he : Int32) (dn : Int32) (i0 : Nat) (a0 : Int64) : Int64 := (a0 * 31) + ((F_X4_tellSet cl se fi he dn i0).toInt64)
def S_X4_digest_73 (fi : Int32) (di : Int32) (he : Int32) (dn : Int32) (fB : Nat → Int32) (fS : Nat → Int32) (fN : Nat → Int32) (fM : Nat → Int32) (fCn : Nat → Int32) (fE : Nat → Int32) (fLE : Nat → Int32) (fG : Nat → Int32) (i0 : Nat) (i1 : Nat) (a1 : Int64) : Int64 := (a1 * 31) + ((F_X4_tellOf fi di he dn fB fS fN fM fCn fE fLE fG i0 i1).toInt64)
def S_X4_digest_59 (cl : Int32) (R : Nat) (C : Nat) (fi : Int32) (di : Int32) (li : Int32) (he : Int32) (dn : Int32) (fB : Nat → Int32) (fS : Nat → Int32) (fN : Nat → Int32) (fM : Nat → Int32) (fCn : Nat → Int32) (fE : Nat → Int32) (fLE : Nat → Int32) (fG : Nat → Int32) (i0 : Nat) (a0 : Int64) : Int64 := ((itr (fun i a => S_X4_digest_73 fi di he dn fB fS fN fM fCn fE fLE fG i0 i a) 11 0 a0) * 31) + ((F_X4_ghostsWith cl R C fi di li i0).toInt64)
def S_X4_digest_122 (fY : Nat → Int32) (i0 : Nat) (a0 : Int64) : Int64 := (a0 * 31) + ((F_J4_charAt_5068e fY i0).toInt64)
def F_X4_digest (sc : Nat) (pa : Int32) (gu : Int32) (cl : Int32) (se : Int32) (rf : Int32) (R : Nat) (C : Nat) (K : Nat) (fi : Int32) (di : Int32) (br : Int32) (li : Int32) (he : Int32) (lu : Int32) (dn : Int32) (ea : Int32) (lo : Int32) (Ch : Nat) (ct : Int32) (n : Nat) (fY : Nat → Int32) (fB : Nat → Int32) (fS : Nat → Int32) (fN : Nat → Int32) (fM : Nat → Int32) (fCn : Nat → Int32) (fE : Nat → Int32) (fLE : Nat → Int32) (fG : Nat → Int32) : Int64 := ((((((((itr (fun i a => S_X4_digest_122 fY i a) n 0 (itr (fun i a => S_X4_digest_59 cl R C fi di li he dn fB fS fN fM fCn fE fLE fG i a) K 0 (itr (fun i a => S_X4_digest_33 cl se fi he dn i a) 6 0 (itr (fun i a => S_X4_digest_6 sc pa gu rf R C K fi di br li lu ea lo Ch ct fG i a) 15 0 6553)))) * 31) + ((F_X3_unclearSets R C K fi di li 3).toInt64)) * 31) + ((F_X3_diodeToAdd R C K fi di li).toInt64)) * 31) + (FP.d2l (FP.dmul 4634204016564240384 (F_X4_lag K fM fE fLE)))) * 31) + ((F_X4_oneIf (F_X4_isSound R C K fi di li he n)).toInt64)
set_option maxHeartbeats 4000000 in
set_option maxRecDepth 100000 in
theorem c_X4_digest (l : Launch) (D : va_G) (hX : Nat) (hW : Nat) (hF : Nat) (hA_ : Nat) (hT : Nat) (sc : Nat) (pa : Int32) (gu : Int32) (cl : Int32) (se : Int32) (rf : Int32) (R : Nat) (C : Nat) (K : Nat) (fi : Int32) (di : Int32) (br : Int32) (li : Int32) (aB : Nat) (aS : Nat) (aN : Nat) (aM : Nat) (he : Int32) (lu : Int32) (aCn : Nat) (aE : Nat) (aLE : Nat) (dn : Int32) (ea : Int32) (aC : Nat) (aG : Nat) (aI : Nat) (hB : Nat) (aK : Nat) (aL : Nat) (aQ : Nat) (lo : Int32) (Ch : Nat) (ct : Int32) (aY : Nat) (ml : Int32) (n : Nat) (cap : Nat) (fY : Nat → Int32) (fB : Nat → Int32) (fS : Nat → Int32) (fN : Nat → Int32) (fM : Nat → Int32) (fCn : Nat → Int32) (fE : Nat → Int32) (fLE : Nat → Int32) (fG : Nat → Int32) (sz : Nat) (hR : R ≤ 5) (hKb : K ≤ 25) (hgu : gu = 0 ∨ gu = 1) (hn : n ≤ cap) (hcap : cap ≤ 1000) : Met l yX4_digest (Cond.code yX4_digest cX4_digest 5 (some .long) :: lwAll) ({ frames := 6, cells := 0, slots := 0, locals := 145 } : Room) (va_Pc [.ref hX] (cPre D (lwTY D) [(hX, .inr (11, [.ref hW, .ref hF, .ref hA_, .ref hT, .int (nI sc), .int pa, .int gu, .int cl, .int se, .int rf])), (hW, .inr (10, [.int (nI R), .int (nI C), .int (nI K), .int fi, .int di, .int br, .int li])), (hF, .inr (7, [.ref aB, .ref aS, .ref aN, .ref aM, .int he, .int lu])), (hA_, .inr (9, [.ref aCn, .ref aE, .ref aLE, .int dn, .int ea])), (hT, .inr (8, [.ref aC, .ref aG, .ref aI, .ref hB, .int lo, .ref aK, .ref aL, .ref aQ, .int (nI Ch), .int ct])), (hB, .inr (1, [.ref aY, .int 0, .int ml, .int (nI n)])), (aY, .inl ((D.1 100), cap, .inl fY)), (aB, .inl ((D.1 101), 25, .inl fB)), (aS, .inl ((D.1 101), 25, .inl fS)), (aN, .inl ((D.1 101), 25, .inl fN)), (aM, .inl ((D.1 101), 25, .inl fM)), (aCn, .inl ((D.1 101), 25, .inl fCn)), (aE, .inl ((D.1 101), 25, .inl fE)), (aLE, .inl ((D.1 101), 25, .inl fLE)), (aG, .inl ((D.1 101), 25, .inl fG))] sz)) (va_Ql (fun (r : Int64) (_ : Unit) => r = (F_X4_digest sc pa gu cl se rf R C K fi di br li he lu dn ea lo Ch ct n fY fB fS fN fM fCn fE fLE fG)) (fun _ _ => True) (fun q : Nat => sz ≤ q)) 0 0 (fun q : Nat => sz ≤ q) := by
  refine Met.ofW (cc := cX4_digest) (maxL := 5) (ret := (some .long)) (by decide) rfl ?_
  intro p e s m args below meth c s₁ B hml hv
  obtain ⟨rfl, hsz, hP, hK, hD0, hN, hZ⟩ := hv
  have hx := B.exec
  have hb := B.bytes
  have hr := B.returns
  have hts : ∀ wd ∈ lwAll, wd.before ([.ref hX] : List Value).toArray s = true := fun wd h => atoms_spec (ws := (Cond.code yX4_digest cX4_digest 5 (some .long) :: lwAll)) B.pre wd (List.mem_cons_of_mem _ h)
  have hown : s.vm.findClass RX4 = some m.cls := findClass_of_methodNamed B.named
  have hlocks := B.notSynchronized
  subst hsz
  have hD := hD0.self (sz := s.heap.size)
  have hl := lv_entry ([.ref hX]) (n := 5) (Nat.le_of_ble_eq_true rfl)
  rw [lg_entry_eq]
  generalize (lg_sl ([.ref hX]) ++ List.replicate (5 - (lg_sl ([.ref hX])).length) Slot.unset).toArray = ls at hl ⊢
  have hl : lv_has ls 5 [(0, .ref hX)] := hl
  have hS : va_S (fun q : Nat => s.heap.size ≤ q) s.heap s.heap [] := va_S.rf
  generalize hQe : MQ below (va_Ql (fun (r : Int64) (_ : Unit) => r = (F_X4_digest sc pa gu cl se rf R C K fi di br li he lu dn ea lo Ch ct n fY fB fS fN fM fCn fE fLE fG)) (fun _ _ => True) (fun q : Nat => s.heap.size ≤ q)) ([.ref hX] : List Value).toArray s 0 0 (fun q : Nat => s.heap.size ≤ q) = Q
  have hP : va_P D vwCl [(hX, .inr (11, [.ref hW, .ref hF, .ref hA_, .ref hT, .int (nI sc), .int pa, .int gu, .int cl, .int se, .int rf])), (hW, .inr (10, [.int (nI R), .int (nI C), .int (nI K), .int fi, .int di, .int br, .int li])), (hF, .inr (7, [.ref aB, .ref aS, .ref aN, .ref aM, .int he, .int lu])), (hA_, .inr (9, [.ref aCn, .ref aE, .ref aLE, .int dn, .int ea])), (hT, .inr (8, [.ref aC, .ref aG, .ref aI, .ref hB, .int lo, .ref aK, .ref aL, .ref aQ, .int (nI Ch), .int ct])), (hB, .inr (1, [.ref aY, .int 0, .int ml, .int (nI n)])), (aY, .inl ((D.1 100), cap, .inl fY)), (aB, .inl ((D.1 101), 25, .inl fB)), (aS, .inl ((D.1 101), 25, .inl fS)), (aN, .inl ((D.1 101), 25, .inl fN)), (aM, .inl ((D.1 101), 25, .inl fM)), (aCn, .inl ((D.1 101), 25, .inl fCn)), (aE, .inl ((D.1 101), 25, .inl fE)), (aLE, .inl ((D.1 101), 25, .inl fLE)), (aG, .inl ((D.1 101), 25, .inl fG))] s.heap := hP
  obtain ⟨A, hAe⟩ : ∃ A, A = va_A [(hX, .inr (11, [.ref hW, .ref hF, .ref hA_, .ref hT, .int (nI sc), .int pa, .int gu, .int cl, .int se, .int rf])), (hW, .inr (10, [.int (nI R), .int (nI C), .int (nI K), .int fi, .int di, .int br, .int li])), (hF, .inr (7, [.ref aB, .ref aS, .ref aN, .ref aM, .int he, .int lu])), (hA_, .inr (9, [.ref aCn, .ref aE, .ref aLE, .int dn, .int ea])), (hT, .inr (8, [.ref aC, .ref aG, .ref aI, .ref hB, .int lo, .ref aK, .ref aL, .ref aQ, .int (nI Ch), .int ct])), (hB, .inr (1, [.ref aY, .int 0, .int ml, .int (nI n)])), (aY, .inl ((D.1 100), cap, .inl fY)), (aB, .inl ((D.1 101), 25, .inl fB)), (aS, .inl ((D.1 101), 25, .inl fS)), (aN, .inl ((D.1 101), 25, .inl fN)), (aM, .inl ((D.1 101), 25, .inl fM)), (aCn, .inl ((D.1 101), 25, .inl fCn)), (aE, .inl ((D.1 101), 25, .inl fE)), (aLE, .inl ((D.1 101), 25, .inl fLE)), (aG, .inl ((D.1 101), 25, .inl fG))] s.heap.size := ⟨_, rfl⟩
  rw [← hAe] at hD hZ
  have hA : ∀ q : Nat, s.heap.size ≤ q → A q := fun q h => by rw [hAe]; exact Or.inr h
  obtain ⟨H, hHe⟩ : ∃ H, H = s.heap := ⟨_, rfl⟩
  obtain ⟨locs, hLe⟩ : ∃ L : List Loc, L = [] := ⟨_, rfl⟩
  have hP : va_P D vwCl [(hX, .inr (11, [.ref hW, .ref hF, .ref hA_, .ref hT, .int (nI sc), .int pa, .int gu, .int cl, .int se, .int rf])), (hW, .inr (10, [.int (nI R), .int (nI C), .int (nI K), .int fi, .int di, .int br, .int li])), (hF, .inr (7, [.ref aB, .ref aS, .ref aN, .ref aM, .int he, .int lu])), (hA_, .inr (9, [.ref aCn, .ref aE, .ref aLE, .int dn, .int ea])), (hT, .inr (8, [.ref aC, .ref aG, .ref aI, .ref hB, .int lo, .ref aK, .ref aL, .ref aQ, .int (nI Ch), .int ct])), (hB, .inr (1, [.ref aY, .int 0, .int ml, .int (nI n)])), (aY, .inl ((D.1 100), cap, .inl fY)), (aB, .inl ((D.1 101), 25, .inl fB)), (aS, .inl ((D.1 101), 25, .inl fS)), (aN, .inl ((D.1 101), 25, .inl fN)), (aM, .inl ((D.1 101), 25, .inl fM)), (aCn, .inl ((D.1 101), 25, .inl fCn)), (aE, .inl ((D.1 101), 25, .inl fE)), (aLE, .inl ((D.1 101), 25, .inl fLE)), (aG, .inl ((D.1 101), 25, .inl fG))] H := by rw [hHe]; exact hP
  have hS : va_S (fun q : Nat => s.heap.size ≤ q) s.heap H locs := by rw [hHe, hLe]; exact hS
  have hgoal : W p l e ({ frames := 6, cells := 0, slots := 0, locals := 145 } : Room) s m ([.ref hX] : List Value).toArray below meth c H locs 0 0 Q (F0 m 0 ls []) := by
    clear hHe hLe
    refine lv_ldc2 (v := 6553) hx hb hown (hts _ q_773) dX4_digest_0 ?_
    refine lv_lstore_n (lv' := [(1, .long 6553), (0, .ref hX)]) hx hb dX4_digest_3 rfl hl (by decide) rfl (fun ls hl => ?_)
    refine lv_iconst (v := 0) hx hb dX4_digest_4 (by decide) ?_
    refine lv_istore_n (lv' := [(3, .int 0), (1, .long 6553), (0, .ref hX)]) hx hb dX4_digest_5 rfl hl (by decide) rfl (fun ls hl => ?_)
    have lp_6 : ∀ (n0 i0 : Nat), i0 + n0 = 15 → ∀ (a0 : Int64) (H : Heap) (locs : List Loc) (ls : Array Slot), va_P D vwCl [(hX, .inr (11, [.ref hW, .ref hF, .ref hA_, .ref hT, .int (nI sc), .int pa, .int gu, .int cl, .int se, .int rf])), (hW, .inr (10, [.int (nI R), .int (nI C), .int (nI K), .int fi, .int di, .int br, .int li])), (hF, .inr (7, [.ref aB, .ref aS, .ref aN, .ref aM, .int he, .int lu])), (hA_, .inr (9, [.ref aCn, .ref aE, .ref aLE, .int dn, .int ea])), (hT, .inr (8, [.ref aC, .ref aG, .ref aI, .ref hB, .int lo, .ref aK, .ref aL, .ref aQ, .int (nI Ch), .int ct])), (hB, .inr (1, [.ref aY, .int 0, .int ml, .int (nI n)])), (aY, .inl ((D.1 100), cap, .inl fY)), (aB, .inl ((D.1 101), 25, .inl fB)), (aS, .inl ((D.1 101), 25, .inl fS)), (aN, .inl ((D.1 101), 25, .inl fN)), (aM, .inl ((D.1 101), 25, .inl fM)), (aCn, .inl ((D.1 101), 25, .inl fCn)), (aE, .inl ((D.1 101), 25, .inl fE)), (aLE, .inl ((D.1 101), 25, .inl fLE)), (aG, .inl ((D.1 101), 25, .inl fG))] H → va_D A [(hX, .inr (11, [.ref hW, .ref hF, .ref hA_, .ref hT, .int (nI sc), .int pa, .int gu, .int cl, .int se, .int rf])), (hW, .inr (10, [.int (nI R), .int (nI C), .int (nI K), .int fi, .int di, .int br, .int li])), (hF, .inr (7, [.ref aB, .ref aS, .ref aN, .ref aM, .int he, .int lu])), (hA_, .inr (9, [.ref aCn, .ref aE, .ref aLE, .int dn, .int ea])), (hT, .inr (8, [.ref aC, .ref aG, .ref aI, .ref hB, .int lo, .ref aK, .ref aL, .ref aQ, .int (nI Ch), .int ct])), (hB, .inr (1, [.ref aY, .int 0, .int ml, .int (nI n)])), (aY, .inl ((D.1 100), cap, .inl fY)), (aB, .inl ((D.1 101), 25, .inl fB)), (aS, .inl ((D.1 101), 25, .inl fS)), (aN, .inl ((D.1 101), 25, .inl fN)), (aM, .inl ((D.1 101), 25, .inl fM)), (aCn, .inl ((D.1 101), 25, .inl fCn)), (aE, .inl ((D.1 101), 25, .inl fE)), (aLE, .inl ((D.1 101), 25, .inl fLE)), (aG, .inl ((D.1 101), 25, .inl fG))] → va_S (fun q : Nat => s.heap.size ≤ q) s.heap H locs → lv_has ls 5 [(0, .ref hX), (1, .long a0), (3, .int (nI i0))] → (∀ (H : Heap) (locs : List Loc) (ls : Array Slot), va_P D vwCl [(hX, .inr (11, [.ref hW, .ref hF, .ref hA_, .ref hT, .int (nI sc), .int pa, .int gu, .int cl, .int se, .int rf])), (hW, .inr (10, [.int (nI R), .int (nI C), .int (nI K), .int fi, .int di, .int br, .int li])), (hF, .inr (7, [.ref aB, .ref aS, .ref aN, .ref aM, .int he, .int lu])), (hA_, .inr (9, [.ref aCn, .ref aE, .ref aLE, .int dn, .int ea])), (hT, .inr (8, [.ref aC, .ref aG, .ref aI, .ref hB, .int lo, .ref aK, .ref aL, .ref aQ, .int (nI Ch), .int ct])), (hB, .inr (1, [.ref aY, .int 0, .int ml, .int (nI n)])), (aY, .inl ((D.1 100), cap, .inl fY)), (aB, .inl ((D.1 101), 25, .inl fB)), (aS, .inl ((D.1 101), 25, .inl fS)), (aN, .inl ((D.1 101), 25, .inl fN)), (aM, .inl ((D.1 101), 25, .inl fM)), (aCn, .inl ((D.1 101), 25, .inl fCn)), (aE, .inl ((D.1 101), 25, .inl fE)), (aLE, .inl ((D.1 101), 25, .inl fLE)), (aG, .inl ((D.1 101), 25, .inl fG))] H → va_D A [(hX, .inr (11, [.ref hW, .ref hF, .ref hA_, .ref hT, .int (nI sc), .int pa, .int gu, .int cl, .int se, .int rf])), (hW, .inr (10, [.int (nI R), .int (nI C), .int (nI K), .int fi, .int di, .int br, .int li])), (hF, .inr (7, [.ref aB, .ref aS, .ref aN, .ref aM, .int he, .int lu])), (hA_, .inr (9, [.ref aCn, .ref aE, .ref aLE, .int dn, .int ea])), (hT, .inr (8, [.ref aC, .ref aG, .ref aI, .ref hB, .int lo, .ref aK, .ref aL, .ref aQ, .int (nI Ch), .int ct])), (hB, .inr (1, [.ref aY, .int 0, .int ml, .int (nI n)])), (aY, .inl ((D.1 100), cap, .inl fY)), (aB, .inl ((D.1 101), 25, .inl fB)), (aS, .inl ((D.1 101), 25, .inl fS)), (aN, .inl ((D.1 101), 25, .inl fN)), (aM, .inl ((D.1 101), 25, .inl fM)), (aCn, .inl ((D.1 101), 25, .inl fCn)), (aE, .inl ((D.1 101), 25, .inl fE)), (aLE, .inl ((D.1 101), 25, .inl fLE)), (aG, .inl ((D.1 101), 25, .inl fG))] → va_S (fun q : Nat => s.heap.size ≤ q) s.heap H locs → lv_has ls 5 [(0, .ref hX), (1, .long (itr (fun i a => S_X4_digest_6 sc pa gu rf R C K fi di br li lu ea lo Ch ct fG i a) n0 i0 a0)), (3, .int (nI 15))] → W p l e ({ frames := 6, cells := 0, slots := 0, locals := 145 } : Room) s m ([.ref hX] : List Value).toArray below meth c H locs 0 0 Q (F0 m 31 ls [])) → W p l e ({ frames := 6, cells := 0, slots := 0, locals := 145 } : Room) s m ([.ref hX] : List Value).toArray below meth c H locs 0 0 Q (F0 m 6 ls []) := by
      clear hP hD hS hl
      intro n0
      induction n0 with
      | zero =>
        intro i0 hi0 a0 H locs ls hP hD hS hl kon
        have he0 : i0 = 15 := by omega
        refine lv_iload_n hx hb dX4_digest_6 rfl (lv_at hl 2 rfl) ?_
        refine lv_bipush (v := 14) hx hb dX4_digest_7 (by decide) ?_
        refine lv_icmp_gt (tgt := 31) hx hb dX4_digest_9 (by decide) (fun c_1 => ?_) (fun c_1 => ?_)
        · exact kon H locs ls hP hD hS (by have h9 := lv_sub (l' := [(0, .ref hX), (1, .long a0), (3, .int (nI i0))]) hl [0, 1, 2] rfl; (try rw [he0] at h9); exact h9) 
        · exact absurd (nI_lt (a := 14) (b := i0) (by omega) (by omega)) c_1
      | succ n0 ih0 =>
        intro i0 hi0 a0 H locs ls hP hD hS hl kon
        refine lv_iload_n hx hb dX4_digest_6 rfl (lv_at hl 2 rfl) ?_
        refine lv_bipush (v := 14) hx hb dX4_digest_7 (by decide) ?_
        refine lv_icmp_gt (tgt := 31) hx hb dX4_digest_9 (by decide) (fun c_2 => ?_) (fun c_2 => ?_)
        · exact absurd c_2 (nI_nlt (a := 14) (b := i0) (by omega) (by omega))
        · refine lv_lload_n hx hb dX4_digest_12 rfl (lv_at hl 1 rfl) ?_
          refine lv_ldc2 (v := 31) hx hb hown (hts _ q_774) dX4_digest_13 ?_
          refine lv_lmul hx hb dX4_digest_16 ?_
          refine lv_aload_n hx hb dX4_digest_17 rfl (lv_at hl 0 rfl) ?_
          refine lv_iload_n hx hb dX4_digest_18 rfl (lv_at hl 2 rfl) ?_
          have hPc := hP.sub (ws' := [(hX, .inr (11, [.ref hW, .ref hF, .ref hA_, .ref hT, .int (nI sc), .int pa, .int gu, .int cl, .int se, .int rf])), (hW, .inr (10, [.int (nI R), .int (nI C), .int (nI K), .int fi, .int di, .int br, .int li])), (hF, .inr (7, [.ref aB, .ref aS, .ref aN, .ref aM, .int he, .int lu])), (hA_, .inr (9, [.ref aCn, .ref aE, .ref aLE, .int dn, .int ea])), (hT, .inr (8, [.ref aC, .ref aG, .ref aI, .ref hB, .int lo, .ref aK, .ref aL, .ref aQ, .int (nI Ch), .int ct])), (aG, .inl ((D.1 101), 25, .inl fG))]) [0, 1, 2, 3, 4, 14] rfl
          have hDc := hD.sub (ws' := [(hX, .inr (11, [.ref hW, .ref hF, .ref hA_, .ref hT, .int (nI sc), .int pa, .int gu, .int cl, .int se, .int rf])), (hW, .inr (10, [.int (nI R), .int (nI C), .int (nI K), .int fi, .int di, .int br, .int li])), (hF, .inr (7, [.ref aB, .ref aS, .ref aN, .ref aM, .int he, .int lu])), (hA_, .inr (9, [.ref aCn, .ref aE, .ref aLE, .int dn, .int ea])), (hT, .inr (8, [.ref aC, .ref aG, .ref aI, .ref hB, .int lo, .ref aK, .ref aL, .ref aQ, .int (nI Ch), .int ct])), (aG, .inl ((D.1 101), 25, .inl fG))]) [0, 1, 2, 3, 4, 14] (by decide) rfl
          have hFc := va_free (wc := [(hX, .inr (11, [.ref hW, .ref hF, .ref hA_, .ref hT, .int (nI sc), .int pa, .int gu, .int cl, .int se, .int rf])), (hW, .inr (10, [.int (nI R), .int (nI C), .int (nI K), .int fi, .int di, .int br, .int li])), (hF, .inr (7, [.ref aB, .ref aS, .ref aN, .ref aM, .int he, .int lu])), (hA_, .inr (9, [.ref aCn, .ref aE, .ref aLE, .int dn, .int ea])), (hT, .inr (8, [.ref aC, .ref aG, .ref aI, .ref hB, .int lo, .ref aK, .ref aL, .ref aQ, .int (nI Ch), .int ct])), (aG, .inl ((D.1 101), 25, .inl fG))]) hD (va_S_up hS hA) hA [0, 1, 2, 3, 4, 14] rfl
          refine va_calli (va_runV (As := [.int (nI i0)]) (rest := [.long (a0 * 31)]) ⟨hx, hb, hml, hown, hts⟩ (c_X4_tellBoard l D hX hW hF hA_ hT sc pa gu cl se rf R C K fi di br li aB aS aN aM he lu aCn aE aLE dn ea aC aG aI hB aK aL aQ lo Ch ct fG i0 (nI i0) H.size (show R ≤ 5 from hR) (show K ≤ 25 from hKb) (show i0 ≤ 14 from (by omega)) (show gu = 0 ∨ gu = 1 from (by assumption)) (show (nI i0) = nI i0 from rfl)) (cwV 1 hts (gi_V q_775 q_777 q_19 q_80 q_778) rfl rfl rfl (by decide +kernel) ⟨Nat.le_of_ble_eq_true rfl, Nat.le_of_ble_eq_true rfl⟩) ⟨cPre_blind, va_recv hK hP (ci := 11) (q0 := 0) rfl rfl, cPre_mk hPc hK hDc hN (lwZ_for hZ (va_S_up hS hA) hFc)⟩ rfl rfl hl.1 rfl (lv_room (Nat.le_of_ble_eq_true rfl)) dX4_digest_19 ⟨(Nat.le_of_ble_eq_true rfl), (Nat.le_of_ble_eq_true rfl)⟩) hS (fun q h1 h2 => absurd h2 (Nat.not_le.mpr h1)) (fun q h => Nat.le_trans hS.1 h) (fun r_19 u t H1 locs ht hvm hw hBk hz1 hk1 hS => ?_)
          have hP := va_P_ro hP hk1
          subst hw
          clear hBk hvm ht u hz1 hk1
          clear hPc hDc hFc; clear t
          generalize H1 = H at hP hS ⊢
          refine lv_i2l (v := (F_X4_tellBoard sc pa gu rf R C K fi di br li lu ea lo Ch ct fG i0).toInt64) hx hb dX4_digest_22 rfl ?_
          refine lv_ladd hx hb dX4_digest_23 ?_
          refine lv_lstore_n (lv' := [(1, .long ((a0 * 31) + ((F_X4_tellBoard sc pa gu rf R C K fi di br li lu ea lo Ch ct fG i0).toInt64))), (0, .ref hX), (3, .int (nI i0))]) hx hb dX4_digest_24 rfl hl (by decide) rfl (fun ls hl => ?_)
          refine lv_iinc (v := nI (i0 + 1)) (lv' := [(3, .int (nI (i0 + 1))), (1, .long ((a0 * 31) + ((F_X4_tellBoard sc pa gu rf R C K fi di br li lu ea lo Ch ct fG i0).toInt64))), (0, .ref hX)]) hx hb dX4_digest_25 hl (k := 2) rfl (nI_1 _) (by decide) rfl (fun ls hl => ?_)
          refine lv_goto (tgt := 6) hx hb dX4_digest_28 (by decide) ?_
          have hE : S_X4_digest_6 sc pa gu rf R C K fi di br li lu ea lo Ch ct fG i0 a0 = (a0 * 31) + ((F_X4_tellBoard sc pa gu rf R C K fi di br li lu ea lo Ch ct fG i0).toInt64) := (by rfl)
          have hl : lv_has ls 5 [(0, .ref hX), (1, .long ((a0 * 31) + ((F_X4_tellBoard sc pa gu rf R C K fi di br li lu ea lo Ch ct fG i0).toInt64))), (3, .int (nI (i0 + 1)))] := lv_sub hl [2, 1, 0] rfl
          have hP := hP.sub (ws' := [(hX, .inr (11, [.ref hW, .ref hF, .ref hA_, .ref hT, .int (nI sc), .int pa, .int gu, .int cl, .int se, .int rf])), (hW, .inr (10, [.int (nI R), .int (nI C), .int (nI K), .int fi, .int di, .int br, .int li])), (hF, .inr (7, [.ref aB, .ref aS, .ref aN, .ref aM, .int he, .int lu])), (hA_, .inr (9, [.ref aCn, .ref aE, .ref aLE, .int dn, .int ea])), (hT, .inr (8, [.ref aC, .ref aG, .ref aI, .ref hB, .int lo, .ref aK, .ref aL, .ref aQ, .int (nI Ch), .int ct])), (hB, .inr (1, [.ref aY, .int 0, .int ml, .int (nI n)])), (aY, .inl ((D.1 100), cap, .inl fY)), (aB, .inl ((D.1 101), 25, .inl fB)), (aS, .inl ((D.1 101), 25, .inl fS)), (aN, .inl ((D.1 101), 25, .inl fN)), (aM, .inl ((D.1 101), 25, .inl fM)), (aCn, .inl ((D.1 101), 25, .inl fCn)), (aE, .inl ((D.1 101), 25, .inl fE)), (aLE, .inl ((D.1 101), 25, .inl fLE)), (aG, .inl ((D.1 101), 25, .inl fG))]) [0, 1, 2, 3, 4, 5, 6, 7, 8, 9, 10, 11, 12, 13, 14] rfl
          have hD := hD.sub (ws' := [(hX, .inr (11, [.ref hW, .ref hF, .ref hA_, .ref hT, .int (nI sc), .int pa, .int gu, .int cl, .int se, .int rf])), (hW, .inr (10, [.int (nI R), .int (nI C), .int (nI K), .int fi, .int di, .int br, .int li])), (hF, .inr (7, [.ref aB, .ref aS, .ref aN, .ref aM, .int he, .int lu])), (hA_, .inr (9, [.ref aCn, .ref aE, .ref aLE, .int dn, .int ea])), (hT, .inr (8, [.ref aC, .ref aG, .ref aI, .ref hB, .int lo, .ref aK, .ref aL, .ref aQ, .int (nI Ch), .int ct])), (hB, .inr (1, [.ref aY, .int 0, .int ml, .int (nI n)])), (aY, .inl ((D.1 100), cap, .inl fY)), (aB, .inl ((D.1 101), 25, .inl fB)), (aS, .inl ((D.1 101), 25, .inl fS)), (aN, .inl ((D.1 101), 25, .inl fN)), (aM, .inl ((D.1 101), 25, .inl fM)), (aCn, .inl ((D.1 101), 25, .inl fCn)), (aE, .inl ((D.1 101), 25, .inl fE)), (aLE, .inl ((D.1 101), 25, .inl fLE)), (aG, .inl ((D.1 101), 25, .inl fG))]) [0, 1, 2, 3, 4, 5, 6, 7, 8, 9, 10, 11, 12, 13, 14] (by decide) rfl
          exact ih0 (i0 + 1) (by omega) (S_X4_digest_6 sc pa gu rf R C K fi di br li lu ea lo Ch ct fG i0 a0) H locs ls (by (try rw [hE]); exact hP) (by (try rw [hE]); exact hD) hS (by (try rw [hE]); exact hl) kon
    have hl : lv_has ls 5 [(0, .ref hX), (1, .long 6553), (3, .int (nI 0))] := lv_sub hl [2, 1, 0] rfl
    refine lp_6 15 0 (by omega) 6553 H locs ls hP hD hS hl ?_
    clear lp_6 hP hD hS hl
    intro H locs ls hP hD hS hl
    refine lv_iconst (v := 0) hx hb dX4_digest_31 (by decide) ?_
    refine lv_istore_n (lv' := [(3, .int 0), (0, .ref hX), (1, .long (itr (fun i a => S_X4_digest_6 sc pa gu rf R C K fi di br li lu ea lo Ch ct fG i a) 15 0 6553))]) hx hb dX4_digest_32 rfl hl (by decide) rfl (fun ls hl => ?_)
    have lp_33 : ∀ (n0 i0 : Nat), i0 + n0 = 6 → ∀ (a0 : Int64) (H : Heap) (locs : List Loc) (ls : Array Slot), va_P D vwCl [(hX, .inr (11, [.ref hW, .ref hF, .ref hA_, .ref hT, .int (nI sc), .int pa, .int gu, .int cl, .int se, .int rf])), (hW, .inr (10, [.int (nI R), .int (nI C), .int (nI K), .int fi, .int di, .int br, .int li])), (hF, .inr (7, [.ref aB, .ref aS, .ref aN, .ref aM, .int he, .int lu])), (hA_, .inr (9, [.ref aCn, .ref aE, .ref aLE, .int dn, .int ea])), (hT, .inr (8, [.ref aC, .ref aG, .ref aI, .ref hB, .int lo, .ref aK, .ref aL, .ref aQ, .int (nI Ch), .int ct])), (hB, .inr (1, [.ref aY, .int 0, .int ml, .int (nI n)])), (aY, .inl ((D.1 100), cap, .inl fY)), (aB, .inl ((D.1 101), 25, .inl fB)), (aS, .inl ((D.1 101), 25, .inl fS)), (aN, .inl ((D.1 101), 25, .inl fN)), (aM, .inl ((D.1 101), 25, .inl fM)), (aCn, .inl ((D.1 101), 25, .inl fCn)), (aE, .inl ((D.1 101), 25, .inl fE)), (aLE, .inl ((D.1 101), 25, .inl fLE)), (aG, .inl ((D.1 101), 25, .inl fG))] H → va_D A [(hX, .inr (11, [.ref hW, .ref hF, .ref hA_, .ref hT, .int (nI sc), .int pa, .int gu, .int cl, .int se, .int rf])), (hW, .inr (10, [.int (nI R), .int (nI C), .int (nI K), .int fi, .int di, .int br, .int li])), (hF, .inr (7, [.ref aB, .ref aS, .ref aN, .ref aM, .int he, .int lu])), (hA_, .inr (9, [.ref aCn, .ref aE, .ref aLE, .int dn, .int ea])), (hT, .inr (8, [.ref aC, .ref aG, .ref aI, .ref hB, .int lo, .ref aK, .ref aL, .ref aQ, .int (nI Ch), .int ct])), (hB, .inr (1, [.ref aY, .int 0, .int ml, .int (nI n)])), (aY, .inl ((D.1 100), cap, .inl fY)), (aB, .inl ((D.1 101), 25, .inl fB)), (aS, .inl ((D.1 101), 25, .inl fS)), (aN, .inl ((D.1 101), 25, .inl fN)), (aM, .inl ((D.1 101), 25, .inl fM)), (aCn, .inl ((D.1 101), 25, .inl fCn)), (aE, .inl ((D.1 101), 25, .inl fE)), (aLE, .inl ((D.1 101), 25, .inl fLE)), (aG, .inl ((D.1 101), 25, .inl fG))] → va_S (fun q : Nat => s.heap.size ≤ q) s.heap H locs → lv_has ls 5 [(0, .ref hX), (1, .long a0), (3, .int (nI i0))] → (∀ (H : Heap) (locs : List Loc) (ls : Array Slot), va_P D vwCl [(hX, .inr (11, [.ref hW, .ref hF, .ref hA_, .ref hT, .int (nI sc), .int pa, .int gu, .int cl, .int se, .int rf])), (hW, .inr (10, [.int (nI R), .int (nI C), .int (nI K), .int fi, .int di, .int br, .int li])), (hF, .inr (7, [.ref aB, .ref aS, .ref aN, .ref aM, .int he, .int lu])), (hA_, .inr (9, [.ref aCn, .ref aE, .ref aLE, .int dn, .int ea])), (hT, .inr (8, [.ref aC, .ref aG, .ref aI, .ref hB, .int lo, .ref aK, .ref aL, .ref aQ, .int (nI Ch), .int ct])), (hB, .inr (1, [.ref aY, .int 0, .int ml, .int (nI n)])), (aY, .inl ((D.1 100), cap, .inl fY)), (aB, .inl ((D.1 101), 25, .inl fB)), (aS, .inl ((D.1 101), 25, .inl fS)), (aN, .inl ((D.1 101), 25, .inl fN)), (aM, .inl ((D.1 101), 25, .inl fM)), (aCn, .inl ((D.1 101), 25, .inl fCn)), (aE, .inl ((D.1 101), 25, .inl fE)), (aLE, .inl ((D.1 101), 25, .inl fLE)), (aG, .inl ((D.1 101), 25, .inl fG))] H → va_D A [(hX, .inr (11, [.ref hW, .ref hF, .ref hA_, .ref hT, .int (nI sc), .int pa, .int gu, .int cl, .int se, .int rf])), (hW, .inr (10, [.int (nI R), .int (nI C), .int (nI K), .int fi, .int di, .int br, .int li])), (hF, .inr (7, [.ref aB, .ref aS, .ref aN, .ref aM, .int he, .int lu])), (hA_, .inr (9, [.ref aCn, .ref aE, .ref aLE, .int dn, .int ea])), (hT, .inr (8, [.ref aC, .ref aG, .ref aI, .ref hB, .int lo, .ref aK, .ref aL, .ref aQ, .int (nI Ch), .int ct])), (hB, .inr (1, [.ref aY, .int 0, .int ml, .int (nI n)])), (aY, .inl ((D.1 100), cap, .inl fY)), (aB, .inl ((D.1 101), 25, .inl fB)), (aS, .inl ((D.1 101), 25, .inl fS)), (aN, .inl ((D.1 101), 25, .inl fN)), (aM, .inl ((D.1 101), 25, .inl fM)), (aCn, .inl ((D.1 101), 25, .inl fCn)), (aE, .inl ((D.1 101), 25, .inl fE)), (aLE, .inl ((D.1 101), 25, .inl fLE)), (aG, .inl ((D.1 101), 25, .inl fG))] → va_S (fun q : Nat => s.heap.size ≤ q) s.heap H locs → lv_has ls 5 [(0, .ref hX), (1, .long (itr (fun i a => S_X4_digest_33 cl se fi he dn i a) n0 i0 a0)), (3, .int (nI 6))] → W p l e ({ frames := 6, cells := 0, slots := 0, locals := 145 } : Room) s m ([.ref hX] : List Value).toArray below meth c H locs 0 0 Q (F0 m 57 ls [])) → W p l e ({ frames := 6, cells := 0, slots := 0, locals := 145 } : Room) s m ([.ref hX] : List Value).toArray below meth c H locs 0 0 Q (F0 m 33 ls []) := by
      clear hP hD hS hl
      intro n0
      induction n0 with
      | zero =>
        intro i0 hi0 a0 H locs ls hP hD hS hl kon
        have he0 : i0 = 6 := by omega
        refine lv_iload_n hx hb dX4_digest_33 rfl (lv_at hl 2 rfl) ?_
        refine lv_iconst (v := 5) hx hb dX4_digest_34 (by decide) ?_
        refine lv_icmp_gt (tgt := 57) hx hb dX4_digest_35 (by decide) (fun c_3 => ?_) (fun c_3 => ?_)
        · exact kon H locs ls hP hD hS (by have h9 := lv_sub (l' := [(0, .ref hX), (1, .long a0), (3, .int (nI i0))]) hl [0, 1, 2] rfl; (try rw [he0] at h9); exact h9) 
        · exact absurd (nI_lt (a := 5) (b := i0) (by omega) (by omega)) c_3
      | succ n0 ih0 =>
        intro i0 hi0 a0 H locs ls hP hD hS hl kon
        refine lv_iload_n hx hb dX4_digest_33 rfl (lv_at hl 2 rfl) ?_
        refine lv_iconst (v := 5) hx hb dX4_digest_34 (by decide) ?_
        refine lv_icmp_gt (tgt := 57) hx hb dX4_digest_35 (by decide) (fun c_4 => ?_) (fun c_4 => ?_)
        · exact absurd c_4 (nI_nlt (a := 5) (b := i0) (by omega) (by omega))
        · refine lv_lload_n hx hb dX4_digest_38 rfl (lv_at hl 1 rfl) ?_
          refine lv_ldc2 (v := 31) hx hb hown (hts _ q_774) dX4_digest_39 ?_
          refine lv_lmul hx hb dX4_digest_42 ?_
          refine lv_aload_n hx hb dX4_digest_43 rfl (lv_at hl 0 rfl) ?_
          refine lv_iload_n hx hb dX4_digest_44 rfl (lv_at hl 2 rfl) ?_
          have hPc := hP.sub (ws' := [(hX, .inr (11, [.ref hW, .ref hF, .ref hA_, .ref hT, .int (nI sc), .int pa, .int gu, .int cl, .int se, .int rf])), (hW, .inr (10, [.int (nI R), .int (nI C), .int (nI K), .int fi, .int di, .int br, .int li])), (hF, .inr (7, [.ref aB, .ref aS, .ref aN, .ref aM, .int he, .int lu])), (hA_, .inr (9, [.ref aCn, .ref aE, .ref aLE, .int dn, .int ea]))]) [0, 1, 2, 3] rfl
          have hDc := hD.sub (ws' := [(hX, .inr (11, [.ref hW, .ref hF, .ref hA_, .ref hT, .int (nI sc), .int pa, .int gu, .int cl, .int se, .int rf])), (hW, .inr (10, [.int (nI R), .int (nI C), .int (nI K), .int fi, .int di, .int br, .int li])), (hF, .inr (7, [.ref aB, .ref aS, .ref aN, .ref aM, .int he, .int lu])), (hA_, .inr (9, [.ref aCn, .ref aE, .ref aLE, .int dn, .int ea]))]) [0, 1, 2, 3] (by decide) rfl
          have hFc := va_free (wc := [(hX, .inr (11, [.ref hW, .ref hF, .ref hA_, .ref hT, .int (nI sc), .int pa, .int gu, .int cl, .int se, .int rf])), (hW, .inr (10, [.int (nI R), .int (nI C), .int (nI K), .int fi, .int di, .int br, .int li])), (hF, .inr (7, [.ref aB, .ref aS, .ref aN, .ref aM, .int he, .int lu])), (hA_, .inr (9, [.ref aCn, .ref aE, .ref aLE, .int dn, .int ea]))]) hD (va_S_up hS hA) hA [0, 1, 2, 3] rfl
          refine va_calli (va_runV (As := [.int (nI i0)]) (rest := [.long (a0 * 31)]) ⟨hx, hb, hml, hown, hts⟩ (c_X4_tellSet l D hX hW hF hA_ hT sc pa gu cl se rf R C K fi di br li aB aS aN aM he lu aCn aE aLE dn ea i0 (nI i0) H.size (show i0 ≤ 5 from (by omega)) (show (nI i0) = nI i0 from rfl)) (cwV 1 hts (gi_V q_793 q_795 q_22 q_80 q_796) rfl rfl rfl (by decide +kernel) ⟨Nat.le_of_ble_eq_true rfl, Nat.le_of_ble_eq_true rfl⟩) ⟨cPre_blind, va_recv hK hP (ci := 11) (q0 := 0) rfl rfl, cPre_mk hPc hK hDc hN (lwZ_for hZ (va_S_up hS hA) hFc)⟩ rfl rfl hl.1 rfl (lv_room (Nat.le_of_ble_eq_true rfl)) dX4_digest_45 ⟨(Nat.le_of_ble_eq_true rfl), (Nat.le_of_ble_eq_true rfl)⟩) hS (fun q h1 h2 => absurd h2 (Nat.not_le.mpr h1)) (fun q h => Nat.le_trans hS.1 h) (fun r_45 u t H1 locs ht hvm hw hBk hz1 hk1 hS => ?_)
          have hP := va_P_ro hP hk1
          subst hw
          clear hBk hvm ht u hz1 hk1
          clear hPc hDc hFc; clear t
          generalize H1 = H at hP hS ⊢
          refine lv_i2l (v := (F_X4_tellSet cl se fi he dn i0).toInt64) hx hb dX4_digest_48 rfl ?_
          refine lv_ladd hx hb dX4_digest_49 ?_
          refine lv_lstore_n (lv' := [(1, .long ((a0 * 31) + ((F_X4_tellSet cl se fi he dn i0).toInt64))), (0, .ref hX), (3, .int (nI i0))]) hx hb dX4_digest_50 rfl hl (by decide) rfl (fun ls hl => ?_)
          refine lv_iinc (v := nI (i0 + 1)) (lv' := [(3, .int (nI (i0 + 1))), (1, .long ((a0 * 31) + ((F_X4_tellSet cl se fi he dn i0).toInt64))), (0, .ref hX)]) hx hb dX4_digest_51 hl (k := 2) rfl (nI_1 _) (by decide) rfl (fun ls hl => ?_)
          refine lv_goto (tgt := 33) hx hb dX4_digest_54 (by decide) ?_
          have hE : S_X4_digest_33 cl se fi he dn i0 a0 = (a0 * 31) + ((F_X4_tellSet cl se fi he dn i0).toInt64) := (by rfl)
          have hl : lv_has ls 5 [(0, .ref hX), (1, .long ((a0 * 31) + ((F_X4_tellSet cl se fi he dn i0).toInt64))), (3, .int (nI (i0 + 1)))] := lv_sub hl [2, 1, 0] rfl
          have hP := hP.sub (ws' := [(hX, .inr (11, [.ref hW, .ref hF, .ref hA_, .ref hT, .int (nI sc), .int pa, .int gu, .int cl, .int se, .int rf])), (hW, .inr (10, [.int (nI R), .int (nI C), .int (nI K), .int fi, .int di, .int br, .int li])), (hF, .inr (7, [.ref aB, .ref aS, .ref aN, .ref aM, .int he, .int lu])), (hA_, .inr (9, [.ref aCn, .ref aE, .ref aLE, .int dn, .int ea])), (hT, .inr (8, [.ref aC, .ref aG, .ref aI, .ref hB, .int lo, .ref aK, .ref aL, .ref aQ, .int (nI Ch), .int ct])), (hB, .inr (1, [.ref aY, .int 0, .int ml, .int (nI n)])), (aY, .inl ((D.1 100), cap, .inl fY)), (aB, .inl ((D.1 101), 25, .inl fB)), (aS, .inl ((D.1 101), 25, .inl fS)), (aN, .inl ((D.1 101), 25, .inl fN)), (aM, .inl ((D.1 101), 25, .inl fM)), (aCn, .inl ((D.1 101), 25, .inl fCn)), (aE, .inl ((D.1 101), 25, .inl fE)), (aLE, .inl ((D.1 101), 25, .inl fLE)), (aG, .inl ((D.1 101), 25, .inl fG))]) [0, 1, 2, 3, 4, 5, 6, 7, 8, 9, 10, 11, 12, 13, 14] rfl
          have hD := hD.sub (ws' := [(hX, .inr (11, [.ref hW, .ref hF, .ref hA_, .ref hT, .int (nI sc), .int pa, .int gu, .int cl, .int se, .int rf])), (hW, .inr (10, [.int (nI R), .int (nI C), .int (nI K), .int fi, .int di, .int br, .int li])), (hF, .inr (7, [.ref aB, .ref aS, .ref aN, .ref aM, .int he, .int lu])), (hA_, .inr (9, [.ref aCn, .ref aE, .ref aLE, .int dn, .int ea])), (hT, .inr (8, [.ref aC, .ref aG, .ref aI, .ref hB, .int lo, .ref aK, .ref aL, .ref aQ, .int (nI Ch), .int ct])), (hB, .inr (1, [.ref aY, .int 0, .int ml, .int (nI n)])), (aY, .inl ((D.1 100), cap, .inl fY)), (aB, .inl ((D.1 101), 25, .inl fB)), (aS, .inl ((D.1 101), 25, .inl fS)), (aN, .inl ((D.1 101), 25, .inl fN)), (aM, .inl ((D.1 101), 25, .inl fM)), (aCn, .inl ((D.1 101), 25, .inl fCn)), (aE, .inl ((D.1 101), 25, .inl fE)), (aLE, .inl ((D.1 101), 25, .inl fLE)), (aG, .inl ((D.1 101), 25, .inl fG))]) [0, 1, 2, 3, 4, 5, 6, 7, 8, 9, 10, 11, 12, 13, 14] (by decide) rfl
          exact ih0 (i0 + 1) (by omega) (S_X4_digest_33 cl se fi he dn i0 a0) H locs ls (by (try rw [hE]); exact hP) (by (try rw [hE]); exact hD) hS (by (try rw [hE]); exact hl) kon
    have hl : lv_has ls 5 [(0, .ref hX), (1, .long (itr (fun i a => S_X4_digest_6 sc pa gu rf R C K fi di br li lu ea lo Ch ct fG i a) 15 0 6553)), (3, .int (nI 0))] := lv_sub hl [1, 2, 0] rfl
    refine lp_33 6 0 (by omega) (itr (fun i a => S_X4_digest_6 sc pa gu rf R C K fi di br li lu ea lo Ch ct fG i a) 15 0 6553) H locs ls hP hD hS hl ?_
    clear lp_33 hP hD hS hl
    intro H locs ls hP hD hS hl
    refine lv_iconst (v := 0) hx hb dX4_digest_57 (by decide) ?_
    refine lv_istore_n (lv' := [(3, .int 0), (0, .ref hX), (1, .long (itr (fun i a => S_X4_digest_33 cl se fi he dn i a) 6 0 (itr (fun i a => S_X4_digest_6 sc pa gu rf R C K fi di br li lu ea lo Ch ct fG i a) 15 0 6553)))]) hx hb dX4_digest_58 rfl hl (by decide) rfl (fun ls hl => ?_)
    have lp_59 : ∀ (n0 i0 : Nat), i0 + n0 = K → ∀ (a0 : Int64) (H : Heap) (locs : List Loc) (ls : Array Slot), va_P D vwCl [(hX, .inr (11, [.ref hW, .ref hF, .ref hA_, .ref hT, .int (nI sc), .int pa, .int gu, .int cl, .int se, .int rf])), (hW, .inr (10, [.int (nI R), .int (nI C), .int (nI K), .int fi, .int di, .int br, .int li])), (hF, .inr (7, [.ref aB, .ref aS, .ref aN, .ref aM, .int he, .int lu])), (hA_, .inr (9, [.ref aCn, .ref aE, .ref aLE, .int dn, .int ea])), (hT, .inr (8, [.ref aC, .ref aG, .ref aI, .ref hB, .int lo, .ref aK, .ref aL, .ref aQ, .int (nI Ch), .int ct])), (hB, .inr (1, [.ref aY, .int 0, .int ml, .int (nI n)])), (aY, .inl ((D.1 100), cap, .inl fY)), (aB, .inl ((D.1 101), 25, .inl fB)), (aS, .inl ((D.1 101), 25, .inl fS)), (aN, .inl ((D.1 101), 25, .inl fN)), (aM, .inl ((D.1 101), 25, .inl fM)), (aCn, .inl ((D.1 101), 25, .inl fCn)), (aE, .inl ((D.1 101), 25, .inl fE)), (aLE, .inl ((D.1 101), 25, .inl fLE)), (aG, .inl ((D.1 101), 25, .inl fG))] H → va_D A [(hX, .inr (11, [.ref hW, .ref hF, .ref hA_, .ref hT, .int (nI sc), .int pa, .int gu, .int cl, .int se, .int rf])), (hW, .inr (10, [.int (nI R), .int (nI C), .int (nI K), .int fi, .int di, .int br, .int li])), (hF, .inr (7, [.ref aB, .ref aS, .ref aN, .ref aM, .int he, .int lu])), (hA_, .inr (9, [.ref aCn, .ref aE, .ref aLE, .int dn, .int ea])), (hT, .inr (8, [.ref aC, .ref aG, .ref aI, .ref hB, .int lo, .ref aK, .ref aL, .ref aQ, .int (nI Ch), .int ct])), (hB, .inr (1, [.ref aY, .int 0, .int ml, .int (nI n)])), (aY, .inl ((D.1 100), cap, .inl fY)), (aB, .inl ((D.1 101), 25, .inl fB)), (aS, .inl ((D.1 101), 25, .inl fS)), (aN, .inl ((D.1 101), 25, .inl fN)), (aM, .inl ((D.1 101), 25, .inl fM)), (aCn, .inl ((D.1 101), 25, .inl fCn)), (aE, .inl ((D.1 101), 25, .inl fE)), (aLE, .inl ((D.1 101), 25, .inl fLE)), (aG, .inl ((D.1 101), 25, .inl fG))] → va_S (fun q : Nat => s.heap.size ≤ q) s.heap H locs → lv_has ls 5 [(0, .ref hX), (1, .long a0), (3, .int (nI i0))] → (∀ (H : Heap) (locs : List Loc) (ls : Array Slot), va_P D vwCl [(hX, .inr (11, [.ref hW, .ref hF, .ref hA_, .ref hT, .int (nI sc), .int pa, .int gu, .int cl, .int se, .int rf])), (hW, .inr (10, [.int (nI R), .int (nI C), .int (nI K), .int fi, .int di, .int br, .int li])), (hF, .inr (7, [.ref aB, .ref aS, .ref aN, .ref aM, .int he, .int lu])), (hA_, .inr (9, [.ref aCn, .ref aE, .ref aLE, .int dn, .int ea])), (hT, .inr (8, [.ref aC, .ref aG, .ref aI, .ref hB, .int lo, .ref aK, .ref aL, .ref aQ, .int (nI Ch), .int ct])), (hB, .inr (1, [.ref aY, .int 0, .int ml, .int (nI n)])), (aY, .inl ((D.1 100), cap, .inl fY)), (aB, .inl ((D.1 101), 25, .inl fB)), (aS, .inl ((D.1 101), 25, .inl fS)), (aN, .inl ((D.1 101), 25, .inl fN)), (aM, .inl ((D.1 101), 25, .inl fM)), (aCn, .inl ((D.1 101), 25, .inl fCn)), (aE, .inl ((D.1 101), 25, .inl fE)), (aLE, .inl ((D.1 101), 25, .inl fLE)), (aG, .inl ((D.1 101), 25, .inl fG))] H → va_D A [(hX, .inr (11, [.ref hW, .ref hF, .ref hA_, .ref hT, .int (nI sc), .int pa, .int gu, .int cl, .int se, .int rf])), (hW, .inr (10, [.int (nI R), .int (nI C), .int (nI K), .int fi, .int di, .int br, .int li])), (hF, .inr (7, [.ref aB, .ref aS, .ref aN, .ref aM, .int he, .int lu])), (hA_, .inr (9, [.ref aCn, .ref aE, .ref aLE, .int dn, .int ea])), (hT, .inr (8, [.ref aC, .ref aG, .ref aI, .ref hB, .int lo, .ref aK, .ref aL, .ref aQ, .int (nI Ch), .int ct])), (hB, .inr (1, [.ref aY, .int 0, .int ml, .int (nI n)])), (aY, .inl ((D.1 100), cap, .inl fY)), (aB, .inl ((D.1 101), 25, .inl fB)), (aS, .inl ((D.1 101), 25, .inl fS)), (aN, .inl ((D.1 101), 25, .inl fN)), (aM, .inl ((D.1 101), 25, .inl fM)), (aCn, .inl ((D.1 101), 25, .inl fCn)), (aE, .inl ((D.1 101), 25, .inl fE)), (aLE, .inl ((D.1 101), 25, .inl fLE)), (aG, .inl ((D.1 101), 25, .inl fG))] → va_S (fun q : Nat => s.heap.size ≤ q) s.heap H locs → lv_has ls 5 [(0, .ref hX), (1, .long (itr (fun i a => S_X4_digest_59 cl R C fi di li he dn fB fS fN fM fCn fE fLE fG i a) n0 i0 a0)), (3, .int (nI K))] → W p l e ({ frames := 6, cells := 0, slots := 0, locals := 145 } : Room) s m ([.ref hX] : List Value).toArray below meth c H locs 0 0 Q (F0 m 120 ls [])) → W p l e ({ frames := 6, cells := 0, slots := 0, locals := 145 } : Room) s m ([.ref hX] : List Value).toArray below meth c H locs 0 0 Q (F0 m 59 ls []) := by
      clear hP hD hS hl
      intro n0
      induction n0 with
      | zero =>
        intro i0 hi0 a0 H locs ls hP hD hS hl kon
        have he0 : i0 = K := by omega
        refine lv_iload_n hx hb dX4_digest_59 rfl (lv_at hl 2 rfl) ?_
        refine lv_aload_n hx hb dX4_digest_60 rfl (lv_at hl 0 rfl) ?_
        refine va_get (D := D) (ci := 11) (v := .ref hW) (C := RX4) (T := TX4) (N := 10) hx hb hts in_X4 hown hK hP 0 rfl rfl 0 (by decide) (hts _ q_655) (fun _ h9 => h9) rfl dX4_digest_61 ?_
        refine va_getN (D := D) (ci := 10) (v := .int (nI K)) (C := RX3) (T := TX3) (N := 7) hx hb hts in_X3 hown hK hP 1 rfl rfl 2 (by decide) (va_Nw.use rfl (hN.1 _ n_133)) (fun _ h9 => h9) rfl dX4_digest_64 ?_
        refine lv_icmp_ge (tgt := 120) hx hb dX4_digest_67 (by decide) (fun c_5 => ?_) (fun c_5 => ?_)
        · exact kon H locs ls hP hD hS (by have h9 := lv_sub (l' := [(0, .ref hX), (1, .long a0), (3, .int (nI i0))]) hl [0, 1, 2] rfl; (try rw [he0] at h9); exact h9) 
        · exact absurd (nI_le (a := K) (b := i0) (by omega) (by omega)) c_5
      | succ n0 ih0 =>
        intro i0 hi0 a0 H locs ls hP hD hS hl kon
        refine lv_iload_n hx hb dX4_digest_59 rfl (lv_at hl 2 rfl) ?_
        refine lv_aload_n hx hb dX4_digest_60 rfl (lv_at hl 0 rfl) ?_
        refine va_get (D := D) (ci := 11) (v := .ref hW) (C := RX4) (T := TX4) (N := 10) hx hb hts in_X4 hown hK hP 0 rfl rfl 0 (by decide) (hts _ q_655) (fun _ h9 => h9) rfl dX4_digest_61 ?_
        refine va_getN (D := D) (ci := 10) (v := .int (nI K)) (C := RX3) (T := TX3) (N := 7) hx hb hts in_X3 hown hK hP 1 rfl rfl 2 (by decide) (va_Nw.use rfl (hN.1 _ n_133)) (fun _ h9 => h9) rfl dX4_digest_64 ?_
        refine lv_icmp_ge (tgt := 120) hx hb dX4_digest_67 (by decide) (fun c_6 => ?_) (fun c_6 => ?_)
        · exact absurd c_6 (nI_ge (a := i0) (b := K) (by omega) (by omega))
        · refine lv_iconst (v := 0) hx hb dX4_digest_70 (by decide) ?_
          refine lv_istore (lv' := [(4, .int 0), (0, .ref hX), (1, .long a0), (3, .int (nI i0))]) hx hb dX4_digest_71 hl (by decide) rfl (fun ls hl => ?_)
          have lp_73 : ∀ (n1 i1 : Nat), i1 + n1 = 11 → ∀ (a1 : Int64) (H : Heap) (locs : List Loc) (ls : Array Slot), va_P D vwCl [(hX, .inr (11, [.ref hW, .ref hF, .ref hA_, .ref hT, .int (nI sc), .int pa, .int gu, .int cl, .int se, .int rf])), (hW, .inr (10, [.int (nI R), .int (nI C), .int (nI K), .int fi, .int di, .int br, .int li])), (hF, .inr (7, [.ref aB, .ref aS, .ref aN, .ref aM, .int he, .int lu])), (hA_, .inr (9, [.ref aCn, .ref aE, .ref aLE, .int dn, .int ea])), (hT, .inr (8, [.ref aC, .ref aG, .ref aI, .ref hB, .int lo, .ref aK, .ref aL, .ref aQ, .int (nI Ch), .int ct])), (hB, .inr (1, [.ref aY, .int 0, .int ml, .int (nI n)])), (aY, .inl ((D.1 100), cap, .inl fY)), (aB, .inl ((D.1 101), 25, .inl fB)), (aS, .inl ((D.1 101), 25, .inl fS)), (aN, .inl ((D.1 101), 25, .inl fN)), (aM, .inl ((D.1 101), 25, .inl fM)), (aCn, .inl ((D.1 101), 25, .inl fCn)), (aE, .inl ((D.1 101), 25, .inl fE)), (aLE, .inl ((D.1 101), 25, .inl fLE)), (aG, .inl ((D.1 101), 25, .inl fG))] H → va_D A [(hX, .inr (11, [.ref hW, .ref hF, .ref hA_, .ref hT, .int (nI sc), .int pa, .int gu, .int cl, .int se, .int rf])), (hW, .inr (10, [.int (nI R), .int (nI C), .int (nI K), .int fi, .int di, .int br, .int li])), (hF, .inr (7, [.ref aB, .ref aS, .ref aN, .ref aM, .int he, .int lu])), (hA_, .inr (9, [.ref aCn, .ref aE, .ref aLE, .int dn, .int ea])), (hT, .inr (8, [.ref aC, .ref aG, .ref aI, .ref hB, .int lo, .ref aK, .ref aL, .ref aQ, .int (nI Ch), .int ct])), (hB, .inr (1, [.ref aY, .int 0, .int ml, .int (nI n)])), (aY, .inl ((D.1 100), cap, .inl fY)), (aB, .inl ((D.1 101), 25, .inl fB)), (aS, .inl ((D.1 101), 25, .inl fS)), (aN, .inl ((D.1 101), 25, .inl fN)), (aM, .inl ((D.1 101), 25, .inl fM)), (aCn, .inl ((D.1 101), 25, .inl fCn)), (aE, .inl ((D.1 101), 25, .inl fE)), (aLE, .inl ((D.1 101), 25, .inl fLE)), (aG, .inl ((D.1 101), 25, .inl fG))] → va_S (fun q : Nat => s.heap.size ≤ q) s.heap H locs → lv_has ls 5 [(0, .ref hX), (1, .long a1), (3, .int (nI i0)), (4, .int (nI i1))] → (∀ (H : Heap) (locs : List Loc) (ls : Array Slot), va_P D vwCl [(hX, .inr (11, [.ref hW, .ref hF, .ref hA_, .ref hT, .int (nI sc), .int pa, .int gu, .int cl, .int se, .int rf])), (hW, .inr (10, [.int (nI R), .int (nI C), .int (nI K), .int fi, .int di, .int br, .int li])), (hF, .inr (7, [.ref aB, .ref aS, .ref aN, .ref aM, .int he, .int lu])), (hA_, .inr (9, [.ref aCn, .ref aE, .ref aLE, .int dn, .int ea])), (hT, .inr (8, [.ref aC, .ref aG, .ref aI, .ref hB, .int lo, .ref aK, .ref aL, .ref aQ, .int (nI Ch), .int ct])), (hB, .inr (1, [.ref aY, .int 0, .int ml, .int (nI n)])), (aY, .inl ((D.1 100), cap, .inl fY)), (aB, .inl ((D.1 101), 25, .inl fB)), (aS, .inl ((D.1 101), 25, .inl fS)), (aN, .inl ((D.1 101), 25, .inl fN)), (aM, .inl ((D.1 101), 25, .inl fM)), (aCn, .inl ((D.1 101), 25, .inl fCn)), (aE, .inl ((D.1 101), 25, .inl fE)), (aLE, .inl ((D.1 101), 25, .inl fLE)), (aG, .inl ((D.1 101), 25, .inl fG))] H → va_D A [(hX, .inr (11, [.ref hW, .ref hF, .ref hA_, .ref hT, .int (nI sc), .int pa, .int gu, .int cl, .int se, .int rf])), (hW, .inr (10, [.int (nI R), .int (nI C), .int (nI K), .int fi, .int di, .int br, .int li])), (hF, .inr (7, [.ref aB, .ref aS, .ref aN, .ref aM, .int he, .int lu])), (hA_, .inr (9, [.ref aCn, .ref aE, .ref aLE, .int dn, .int ea])), (hT, .inr (8, [.ref aC, .ref aG, .ref aI, .ref hB, .int lo, .ref aK, .ref aL, .ref aQ, .int (nI Ch), .int ct])), (hB, .inr (1, [.ref aY, .int 0, .int ml, .int (nI n)])), (aY, .inl ((D.1 100), cap, .inl fY)), (aB, .inl ((D.1 101), 25, .inl fB)), (aS, .inl ((D.1 101), 25, .inl fS)), (aN, .inl ((D.1 101), 25, .inl fN)), (aM, .inl ((D.1 101), 25, .inl fM)), (aCn, .inl ((D.1 101), 25, .inl fCn)), (aE, .inl ((D.1 101), 25, .inl fE)), (aLE, .inl ((D.1 101), 25, .inl fLE)), (aG, .inl ((D.1 101), 25, .inl fG))] → va_S (fun q : Nat => s.heap.size ≤ q) s.heap H locs → lv_has ls 5 [(0, .ref hX), (1, .long (itr (fun i a => S_X4_digest_73 fi di he dn fB fS fN fM fCn fE fLE fG i0 i a) n1 i1 a1)), (3, .int (nI i0)), (4, .int (nI 11))] → W p l e ({ frames := 6, cells := 0, slots := 0, locals := 145 } : Room) s m ([.ref hX] : List Value).toArray below meth c H locs 0 0 Q (F0 m 101 ls [])) → W p l e ({ frames := 6, cells := 0, slots := 0, locals := 145 } : Room) s m ([.ref hX] : List Value).toArray below meth c H locs 0 0 Q (F0 m 73 ls []) := by
            clear hP hD hS hl
            intro n1
            induction n1 with
            | zero =>
              intro i1 hi1 a1 H locs ls hP hD hS hl kon
              have he1 : i1 = 11 := by omega
              refine lv_iload hx hb dX4_digest_73 (lv_at hl 3 rfl) ?_
              refine lv_bipush (v := 10) hx hb dX4_digest_75 (by decide) ?_
              refine lv_icmp_gt (tgt := 101) hx hb dX4_digest_77 (by decide) (fun c_7 => ?_) (fun c_7 => ?_)
              · exact kon H locs ls hP hD hS (by have h9 := lv_sub (l' := [(0, .ref hX), (1, .long a1), (3, .int (nI i0)), (4, .int (nI i1))]) hl [0, 1, 2, 3] rfl; (try rw [he1] at h9); exact h9) 
              · exact absurd (nI_lt (a := 10) (b := i1) (by omega) (by omega)) c_7
            | succ n1 ih1 =>
              intro i1 hi1 a1 H locs ls hP hD hS hl kon
              refine lv_iload hx hb dX4_digest_73 (lv_at hl 3 rfl) ?_
              refine lv_bipush (v := 10) hx hb dX4_digest_75 (by decide) ?_
              refine lv_icmp_gt (tgt := 101) hx hb dX4_digest_77 (by decide) (fun c_8 => ?_) (fun c_8 => ?_)
              · exact absurd c_8 (nI_nlt (a := 10) (b := i1) (by omega) (by omega))
              · refine lv_lload_n hx hb dX4_digest_80 rfl (lv_at hl 1 rfl) ?_
                refine lv_ldc2 (v := 31) hx hb hown (hts _ q_774) dX4_digest_81 ?_
                refine lv_lmul hx hb dX4_digest_84 ?_
                refine lv_aload_n hx hb dX4_digest_85 rfl (lv_at hl 0 rfl) ?_
                refine lv_iload_n hx hb dX4_digest_86 rfl (lv_at hl 2 rfl) ?_
                refine lv_iload hx hb dX4_digest_87 (lv_at hl 3 rfl) ?_
                have hPc := hP.sub (ws' := [(hX, .inr (11, [.ref hW, .ref hF, .ref hA_, .ref hT, .int (nI sc), .int pa, .int gu, .int cl, .int se, .int rf])), (hW, .inr (10, [.int (nI R), .int (nI C), .int (nI K), .int fi, .int di, .int br, .int li])), (hF, .inr (7, [.ref aB, .ref aS, .ref aN, .ref aM, .int he, .int lu])), (hA_, .inr (9, [.ref aCn, .ref aE, .ref aLE, .int dn, .int ea])), (hT, .inr (8, [.ref aC, .ref aG, .ref aI, .ref hB, .int lo, .ref aK, .ref aL, .ref aQ, .int (nI Ch), .int ct])), (aB, .inl ((D.1 101), 25, .inl fB)), (aS, .inl ((D.1 101), 25, .inl fS)), (aN, .inl ((D.1 101), 25, .inl fN)), (aM, .inl ((D.1 101), 25, .inl fM)), (aCn, .inl ((D.1 101), 25, .inl fCn)), (aE, .inl ((D.1 101), 25, .inl fE)), (aLE, .inl ((D.1 101), 25, .inl fLE)), (aG, .inl ((D.1 101), 25, .inl fG))]) [0, 1, 2, 3, 4, 7, 8, 9, 10, 11, 12, 13, 14] rfl
                have hDc := hD.sub (ws' := [(hX, .inr (11, [.ref hW, .ref hF, .ref hA_, .ref hT, .int (nI sc), .int pa, .int gu, .int cl, .int se, .int rf])), (hW, .inr (10, [.int (nI R), .int (nI C), .int (nI K), .int fi, .int di, .int br, .int li])), (hF, .inr (7, [.ref aB, .ref aS, .ref aN, .ref aM, .int he, .int lu])), (hA_, .inr (9, [.ref aCn, .ref aE, .ref aLE, .int dn, .int ea])), (hT, .inr (8, [.ref aC, .ref aG, .ref aI, .ref hB, .int lo, .ref aK, .ref aL, .ref aQ, .int (nI Ch), .int ct])), (aB, .inl ((D.1 101), 25, .inl fB)), (aS, .inl ((D.1 101), 25, .inl fS)), (aN, .inl ((D.1 101), 25, .inl fN)), (aM, .inl ((D.1 101), 25, .inl fM)), (aCn, .inl ((D.1 101), 25, .inl fCn)), (aE, .inl ((D.1 101), 25, .inl fE)), (aLE, .inl ((D.1 101), 25, .inl fLE)), (aG, .inl ((D.1 101), 25, .inl fG))]) [0, 1, 2, 3, 4, 7, 8, 9, 10, 11, 12, 13, 14] (by decide) rfl
                have hFc := va_free (wc := [(hX, .inr (11, [.ref hW, .ref hF, .ref hA_, .ref hT, .int (nI sc), .int pa, .int gu, .int cl, .int se, .int rf])), (hW, .inr (10, [.int (nI R), .int (nI C), .int (nI K), .int fi, .int di, .int br, .int li])), (hF, .inr (7, [.ref aB, .ref aS, .ref aN, .ref aM, .int he, .int lu])), (hA_, .inr (9, [.ref aCn, .ref aE, .ref aLE, .int dn, .int ea])), (hT, .inr (8, [.ref aC, .ref aG, .ref aI, .ref hB, .int lo, .ref aK, .ref aL, .ref aQ, .int (nI Ch), .int ct])), (aB, .inl ((D.1 101), 25, .inl fB)), (aS, .inl ((D.1 101), 25, .inl fS)), (aN, .inl ((D.1 101), 25, .inl fN)), (aM, .inl ((D.1 101), 25, .inl fM)), (aCn, .inl ((D.1 101), 25, .inl fCn)), (aE, .inl ((D.1 101), 25, .inl fE)), (aLE, .inl ((D.1 101), 25, .inl fLE)), (aG, .inl ((D.1 101), 25, .inl fG))]) hD (va_S_up hS hA) hA [0, 1, 2, 3, 4, 7, 8, 9, 10, 11, 12, 13, 14] rfl
                refine va_calli (va_runV (As := [.int (nI i0), .int (nI i1)]) (rest := [.long (a1 * 31)]) ⟨hx, hb, hml, hown, hts⟩ (c_X4_tellOf l D hX hW hF hA_ hT sc pa gu cl se rf R C K fi di br li aB aS aN aM he lu aCn aE aLE dn ea aC aG aI hB aK aL aQ lo Ch ct fB fS fN fM fCn fE fLE fG i0 i1 (nI i0) (nI i1) H.size (show i0 < 25 from (by omega)) (show i1 ≤ 10 from (by omega)) (show (nI i0) = nI i0 from rfl) (show (nI i1) = nI i1 from rfl)) (cwV 2 hts (gi_V q_797 q_799 q_23 q_80 q_800) rfl rfl rfl (by decide +kernel) ⟨Nat.le_of_ble_eq_true rfl, Nat.le_of_ble_eq_true rfl⟩) ⟨cPre_blind, va_recv hK hP (ci := 11) (q0 := 0) rfl rfl, cPre_mk hPc hK hDc hN (lwZ_for hZ (va_S_up hS hA) hFc)⟩ rfl rfl hl.1 rfl (lv_room (Nat.le_of_ble_eq_true rfl)) dX4_digest_89 ⟨(Nat.le_of_ble_eq_true rfl), (Nat.le_of_ble_eq_true rfl)⟩) hS (fun q h1 h2 => absurd h2 (Nat.not_le.mpr h1)) (fun q h => Nat.le_trans hS.1 h) (fun r_89 u t H1 locs ht hvm hw hBk hz1 hk1 hS => ?_)
                have hP := va_P_ro hP hk1
                subst hw
                clear hBk hvm ht u hz1 hk1
                clear hPc hDc hFc; clear t
                generalize H1 = H at hP hS ⊢
                refine lv_i2l (v := (F_X4_tellOf fi di he dn fB fS fN fM fCn fE fLE fG i0 i1).toInt64) hx hb dX4_digest_92 rfl ?_
                refine lv_ladd hx hb dX4_digest_93 ?_
                refine lv_lstore_n (lv' := [(1, .long ((a1 * 31) + ((F_X4_tellOf fi di he dn fB fS fN fM fCn fE fLE fG i0 i1).toInt64))), (0, .ref hX), (3, .int (nI i0)), (4, .int (nI i1))]) hx hb dX4_digest_94 rfl hl (by decide) rfl (fun ls hl => ?_)
                refine lv_iinc (v := nI (i1 + 1)) (lv' := [(4, .int (nI (i1 + 1))), (1, .long ((a1 * 31) + ((F_X4_tellOf fi di he dn fB fS fN fM fCn fE fLE fG i0 i1).toInt64))), (0, .ref hX), (3, .int (nI i0))]) hx hb dX4_digest_95 hl (k := 3) rfl (nI_1 _) (by decide) rfl (fun ls hl => ?_)
                refine lv_goto (tgt := 73) hx hb dX4_digest_98 (by decide) ?_
                have hE : S_X4_digest_73 fi di he dn fB fS fN fM fCn fE fLE fG i0 i1 a1 = (a1 * 31) + ((F_X4_tellOf fi di he dn fB fS fN fM fCn fE fLE fG i0 i1).toInt64) := (by rfl)
                have hl : lv_has ls 5 [(0, .ref hX), (1, .long ((a1 * 31) + ((F_X4_tellOf fi di he dn fB fS fN fM fCn fE fLE fG i0 i1).toInt64))), (3, .int (nI i0)), (4, .int (nI (i1 + 1)))] := lv_sub hl [2, 1, 3, 0] rfl
                have hP := hP.sub (ws' := [(hX, .inr (11, [.ref hW, .ref hF, .ref hA_, .ref hT, .int (nI sc), .int pa, .int gu, .int cl, .int se, .int rf])), (hW, .inr (10, [.int (nI R), .int (nI C), .int (nI K), .int fi, .int di, .int br, .int li])), (hF, .inr (7, [.ref aB, .ref aS, .ref aN, .ref aM, .int he, .int lu])), (hA_, .inr (9, [.ref aCn, .ref aE, .ref aLE, .int dn, .int ea])), (hT, .inr (8, [.ref aC, .ref aG, .ref aI, .ref hB, .int lo, .ref aK, .ref aL, .ref aQ, .int (nI Ch), .int ct])), (hB, .inr (1, [.ref aY, .int 0, .int ml, .int (nI n)])), (aY, .inl ((D.1 100), cap, .inl fY)), (aB, .inl ((D.1 101), 25, .inl fB)), (aS, .inl ((D.1 101), 25, .inl fS)), (aN, .inl ((D.1 101), 25, .inl fN)), (aM, .inl ((D.1 101), 25, .inl fM)), (aCn, .inl ((D.1 101), 25, .inl fCn)), (aE, .inl ((D.1 101), 25, .inl fE)), (aLE, .inl ((D.1 101), 25, .inl fLE)), (aG, .inl ((D.1 101), 25, .inl fG))]) [0, 1, 2, 3, 4, 5, 6, 7, 8, 9, 10, 11, 12, 13, 14] rfl
                have hD := hD.sub (ws' := [(hX, .inr (11, [.ref hW, .ref hF, .ref hA_, .ref hT, .int (nI sc), .int pa, .int gu, .int cl, .int se, .int rf])), (hW, .inr (10, [.int (nI R), .int (nI C), .int (nI K), .int fi, .int di, .int br, .int li])), (hF, .inr (7, [.ref aB, .ref aS, .ref aN, .ref aM, .int he, .int lu])), (hA_, .inr (9, [.ref aCn, .ref aE, .ref aLE, .int dn, .int ea])), (hT, .inr (8, [.ref aC, .ref aG, .ref aI, .ref hB, .int lo, .ref aK, .ref aL, .ref aQ, .int (nI Ch), .int ct])), (hB, .inr (1, [.ref aY, .int 0, .int ml, .int (nI n)])), (aY, .inl ((D.1 100), cap, .inl fY)), (aB, .inl ((D.1 101), 25, .inl fB)), (aS, .inl ((D.1 101), 25, .inl fS)), (aN, .inl ((D.1 101), 25, .inl fN)), (aM, .inl ((D.1 101), 25, .inl fM)), (aCn, .inl ((D.1 101), 25, .inl fCn)), (aE, .inl ((D.1 101), 25, .inl fE)), (aLE, .inl ((D.1 101), 25, .inl fLE)), (aG, .inl ((D.1 101), 25, .inl fG))]) [0, 1, 2, 3, 4, 5, 6, 7, 8, 9, 10, 11, 12, 13, 14] (by decide) rfl
                exact ih1 (i1 + 1) (by omega) (S_X4_digest_73 fi di he dn fB fS fN fM fCn fE fLE fG i0 i1 a1) H locs ls (by (try rw [hE]); exact hP) (by (try rw [hE]); exact hD) hS (by (try rw [hE]); exact hl) kon
          have hl : lv_has ls 5 [(0, .ref hX), (1, .long a0), (3, .int (nI i0)), (4, .int (nI 0))] := lv_sub hl [1, 2, 3, 0] rfl
          refine lp_73 11 0 (by omega) a0 H locs ls hP hD hS hl ?_
          clear lp_73 hP hD hS hl
          intro H locs ls hP hD hS hl
          refine lv_lload_n hx hb dX4_digest_101 rfl (lv_at hl 1 rfl) ?_
          refine lv_ldc2 (v := 31) hx hb hown (hts _ q_774) dX4_digest_102 ?_
          refine lv_lmul hx hb dX4_digest_105 ?_
          refine lv_aload_n hx hb dX4_digest_106 rfl (lv_at hl 0 rfl) ?_
          refine lv_iload_n hx hb dX4_digest_107 rfl (lv_at hl 2 rfl) ?_
          have hPc := hP.sub (ws' := [(hX, .inr (11, [.ref hW, .ref hF, .ref hA_, .ref hT, .int (nI sc), .int pa, .int gu, .int cl, .int se, .int rf])), (hW, .inr (10, [.int (nI R), .int (nI C), .int (nI K), .int fi, .int di, .int br, .int li]))]) [0, 1] rfl
          have hDc := hD.sub (ws' := [(hX, .inr (11, [.ref hW, .ref hF, .ref hA_, .ref hT, .int (nI sc), .int pa, .int gu, .int cl, .int se, .int rf])), (hW, .inr (10, [.int (nI R), .int (nI C), .int (nI K), .int fi, .int di, .int br, .int li]))]) [0, 1] (by decide) rfl
          have hFc := va_free (wc := [(hX, .inr (11, [.ref hW, .ref hF, .ref hA_, .ref hT, .int (nI sc), .int pa, .int gu, .int cl, .int se, .int rf])), (hW, .inr (10, [.int (nI R), .int (nI C), .int (nI K), .int fi, .int di, .int br, .int li]))]) hD (va_S_up hS hA) hA [0, 1] rfl
          refine va_calli (va_runV (As := [.int (nI i0)]) (rest := [.long ((itr (fun i a => S_X4_digest_73 fi di he dn fB fS fN fM fCn fE fLE fG i0 i a) 11 0 a0) * 31)]) ⟨hx, hb, hml, hown, hts⟩ (c_X4_ghostsWith l D hX hW hF hA_ hT sc pa gu cl se rf R C K fi di br li i0 (nI i0) H.size (show R ≤ 5 from hR) (show (nI i0) = nI i0 from rfl)) (cwV 1 hts (gi_V q_802 q_804 q_24 q_80 q_805) rfl rfl rfl (by decide +kernel) ⟨Nat.le_of_ble_eq_true rfl, Nat.le_of_ble_eq_true rfl⟩) ⟨cPre_blind, va_recv hK hP (ci := 11) (q0 := 0) rfl rfl, cPre_mk hPc hK hDc hN (lwZ_for hZ (va_S_up hS hA) hFc)⟩ rfl rfl hl.1 rfl (lv_room (Nat.le_of_ble_eq_true rfl)) dX4_digest_108 ⟨(Nat.le_of_ble_eq_true rfl), (Nat.le_of_ble_eq_true rfl)⟩) hS (fun q h1 h2 => absurd h2 (Nat.not_le.mpr h1)) (fun q h => Nat.le_trans hS.1 h) (fun r_108 u t H1 locs ht hvm hw hBk hz1 hk1 hS => ?_)
          have hP := va_P_ro hP hk1
          subst hw
          clear hBk hvm ht u hz1 hk1
          clear hPc hDc hFc; clear t
          generalize H1 = H at hP hS ⊢
          refine lv_i2l (v := (F_X4_ghostsWith cl R C fi di li i0).toInt64) hx hb dX4_digest_111 rfl ?_
          refine lv_ladd hx hb dX4_digest_112 ?_
          refine lv_lstore_n (lv' := [(1, .long (((itr (fun i a => S_X4_digest_73 fi di he dn fB fS fN fM fCn fE fLE fG i0 i a) 11 0 a0) * 31) + ((F_X4_ghostsWith cl R C fi di li i0).toInt64))), (0, .ref hX), (3, .int (nI i0)), (4, .int (nI 11))]) hx hb dX4_digest_113 rfl hl (by decide) rfl (fun ls hl => ?_)
          refine lv_iinc (v := nI (i0 + 1)) (lv' := [(3, .int (nI (i0 + 1))), (1, .long (((itr (fun i a => S_X4_digest_73 fi di he dn fB fS fN fM fCn fE fLE fG i0 i a) 11 0 a0) * 31) + ((F_X4_ghostsWith cl R C fi di li i0).toInt64))), (0, .ref hX), (4, .int (nI 11))]) hx hb dX4_digest_114 hl (k := 2) rfl (nI_1 _) (by decide) rfl (fun ls hl => ?_)
          refine lv_goto (tgt := 59) hx hb dX4_digest_117 (by decide) ?_
          have hE : S_X4_digest_59 cl R C fi di li he dn fB fS fN fM fCn fE fLE fG i0 a0 = ((itr (fun i a => S_X4_digest_73 fi di he dn fB fS fN fM fCn fE fLE fG i0 i a) 11 0 a0) * 31) + ((F_X4_ghostsWith cl R C fi di li i0).toInt64) := (by rfl)
          have hl : lv_has ls 5 [(0, .ref hX), (1, .long (((itr (fun i a => S_X4_digest_73 fi di he dn fB fS fN fM fCn fE fLE fG i0 i a) 11 0 a0) * 31) + ((F_X4_ghostsWith cl R C fi di li i0).toInt64))), (3, .int (nI (i0 + 1)))] := lv_sub hl [2, 1, 0] rfl
          have hP := hP.sub (ws' := [(hX, .inr (11, [.ref hW, .ref hF, .ref hA_, .ref hT, .int (nI sc), .int pa, .int gu, .int cl, .int se, .int rf])), (hW, .inr (10, [.int (nI R), .int (nI C), .int (nI K), .int fi, .int di, .int br, .int li])), (hF, .inr (7, [.ref aB, .ref aS, .ref aN, .ref aM, .int he, .int lu])), (hA_, .inr (9, [.ref aCn, .ref aE, .ref aLE, .int dn, .int ea])), (hT, .inr (8, [.ref aC, .ref aG, .ref aI, .ref hB, .int lo, .ref aK, .ref aL, .ref aQ, .int (nI Ch), .int ct])), (hB, .inr (1, [.ref aY, .int 0, .int ml, .int (nI n)])), (aY, .inl ((D.1 100), cap, .inl fY)), (aB, .inl ((D.1 101), 25, .inl fB)), (aS, .inl ((D.1 101), 25, .inl fS)), (aN, .inl ((D.1 101), 25, .inl fN)), (aM, .inl ((D.1 101), 25, .inl fM)), (aCn, .inl ((D.1 101), 25, .inl fCn)), (aE, .inl ((D.1 101), 25, .inl fE)), (aLE, .inl ((D.1 101), 25, .inl fLE)), (aG, .inl ((D.1 101), 25, .inl fG))]) [0, 1, 2, 3, 4, 5, 6, 7, 8, 9, 10, 11, 12, 13, 14] rfl
          have hD := hD.sub (ws' := [(hX, .inr (11, [.ref hW, .ref hF, .ref hA_, .ref hT, .int (nI sc), .int pa, .int gu, .int cl, .int se, .int rf])), (hW, .inr (10, [.int (nI R), .int (nI C), .int (nI K), .int fi, .int di, .int br, .int li])), (hF, .inr (7, [.ref aB, .ref aS, .ref aN, .ref aM, .int he, .int lu])), (hA_, .inr (9, [.ref aCn, .ref aE, .ref aLE, .int dn, .int ea])), (hT, .inr (8, [.ref aC, .ref aG, .ref aI, .ref hB, .int lo, .ref aK, .ref aL, .ref aQ, .int (nI Ch), .int ct])), (hB, .inr (1, [.ref aY, .int 0, .int ml, .int (nI n)])), (aY, .inl ((D.1 100), cap, .inl fY)), (aB, .inl ((D.1 101), 25, .inl fB)), (aS, .inl ((D.1 101), 25, .inl fS)), (aN, .inl ((D.1 101), 25, .inl fN)), (aM, .inl ((D.1 101), 25, .inl fM)), (aCn, .inl ((D.1 101), 25, .inl fCn)), (aE, .inl ((D.1 101), 25, .inl fE)), (aLE, .inl ((D.1 101), 25, .inl fLE)), (aG, .inl ((D.1 101), 25, .inl fG))]) [0, 1, 2, 3, 4, 5, 6, 7, 8, 9, 10, 11, 12, 13, 14] (by decide) rfl
          exact ih0 (i0 + 1) (by omega) (S_X4_digest_59 cl R C fi di li he dn fB fS fN fM fCn fE fLE fG i0 a0) H locs ls (by (try rw [hE]); exact hP) (by (try rw [hE]); exact hD) hS (by (try rw [hE]); exact hl) kon
    have hl : lv_has ls 5 [(0, .ref hX), (1, .long (itr (fun i a => S_X4_digest_33 cl se fi he dn i a) 6 0 (itr (fun i a => S_X4_digest_6 sc pa gu rf R C K fi di br li lu ea lo Ch ct fG i a) 15 0 6553))), (3, .int (nI 0))] := lv_sub hl [1, 2, 0] rfl
    refine lp_59 K 0 (by omega) (itr (fun i a => S_X4_digest_33 cl se fi he dn i a) 6 0 (itr (fun i a => S_X4_digest_6 sc pa gu rf R C K fi di br li lu ea lo Ch ct fG i a) 15 0 6553)) H locs ls hP hD hS hl ?_
    clear lp_59 hP hD hS hl
    intro H locs ls hP hD hS hl
    refine lv_iconst (v := 0) hx hb dX4_digest_120 (by decide) ?_
    refine lv_istore_n (lv' := [(3, .int 0), (0, .ref hX), (1, .long (itr (fun i a => S_X4_digest_59 cl R C fi di li he dn fB fS fN fM fCn fE fLE fG i a) K 0 (itr (fun i a => S_X4_digest_33 cl se fi he dn i a) 6 0 (itr (fun i a => S_X4_digest_6 sc pa gu rf R C K fi di br li lu ea lo Ch ct fG i a) 15 0 6553))))]) hx hb dX4_digest_121 rfl hl (by decide) rfl (fun ls hl => ?_)
    have lp_122 : ∀ (n0 i0 : Nat), i0 + n0 = n → ∀ (a0 : Int64) (H : Heap) (locs : List Loc) (ls : Array Slot), va_P D vwCl [(hX, .inr (11, [.ref hW, .ref hF, .ref hA_, .ref hT, .int (nI sc), .int pa, .int gu, .int cl, .int se, .int rf])), (hW, .inr (10, [.int (nI R), .int (nI C), .int (nI K), .int fi, .int di, .int br, .int li])), (hF, .inr (7, [.ref aB, .ref aS, .ref aN, .ref aM, .int he, .int lu])), (hA_, .inr (9, [.ref aCn, .ref aE, .ref aLE, .int dn, .int ea])), (hT, .inr (8, [.ref aC, .ref aG, .ref aI, .ref hB, .int lo, .ref aK, .ref aL, .ref aQ, .int (nI Ch), .int ct])), (hB, .inr (1, [.ref aY, .int 0, .int ml, .int (nI n)])), (aY, .inl ((D.1 100), cap, .inl fY)), (aB, .inl ((D.1 101), 25, .inl fB)), (aS, .inl ((D.1 101), 25, .inl fS)), (aN, .inl ((D.1 101), 25, .inl fN)), (aM, .inl ((D.1 101), 25, .inl fM)), (aCn, .inl ((D.1 101), 25, .inl fCn)), (aE, .inl ((D.1 101), 25, .inl fE)), (aLE, .inl ((D.1 101), 25, .inl fLE)), (aG, .inl ((D.1 101), 25, .inl fG))] H → va_D A [(hX, .inr (11, [.ref hW, .ref hF, .ref hA_, .ref hT, .int (nI sc), .int pa, .int gu, .int cl, .int se, .int rf])), (hW, .inr (10, [.int (nI R), .int (nI C), .int (nI K), .int fi, .int di, .int br, .int li])), (hF, .inr (7, [.ref aB, .ref aS, .ref aN, .ref aM, .int he, .int lu])), (hA_, .inr (9, [.ref aCn, .ref aE, .ref aLE, .int dn, .int ea])), (hT, .inr (8, [.ref aC, .ref aG, .ref aI, .ref hB, .int lo, .ref aK, .ref aL, .ref aQ, .int (nI Ch), .int ct])), (hB, .inr (1, [.ref aY, .int 0, .int ml, .int (nI n)])), (aY, .inl ((D.1 100), cap, .inl fY)), (aB, .inl ((D.1 101), 25, .inl fB)), (aS, .inl ((D.1 101), 25, .inl fS)), (aN, .inl ((D.1 101), 25, .inl fN)), (aM, .inl ((D.1 101), 25, .inl fM)), (aCn, .inl ((D.1 101), 25, .inl fCn)), (aE, .inl ((D.1 101), 25, .inl fE)), (aLE, .inl ((D.1 101), 25, .inl fLE)), (aG, .inl ((D.1 101), 25, .inl fG))] → va_S (fun q : Nat => s.heap.size ≤ q) s.heap H locs → lv_has ls 5 [(0, .ref hX), (1, .long a0), (3, .int (nI i0))] → (∀ (H : Heap) (locs : List Loc) (ls : Array Slot), va_P D vwCl [(hX, .inr (11, [.ref hW, .ref hF, .ref hA_, .ref hT, .int (nI sc), .int pa, .int gu, .int cl, .int se, .int rf])), (hW, .inr (10, [.int (nI R), .int (nI C), .int (nI K), .int fi, .int di, .int br, .int li])), (hF, .inr (7, [.ref aB, .ref aS, .ref aN, .ref aM, .int he, .int lu])), (hA_, .inr (9, [.ref aCn, .ref aE, .ref aLE, .int dn, .int ea])), (hT, .inr (8, [.ref aC, .ref aG, .ref aI, .ref hB, .int lo, .ref aK, .ref aL, .ref aQ, .int (nI Ch), .int ct])), (hB, .inr (1, [.ref aY, .int 0, .int ml, .int (nI n)])), (aY, .inl ((D.1 100), cap, .inl fY)), (aB, .inl ((D.1 101), 25, .inl fB)), (aS, .inl ((D.1 101), 25, .inl fS)), (aN, .inl ((D.1 101), 25, .inl fN)), (aM, .inl ((D.1 101), 25, .inl fM)), (aCn, .inl ((D.1 101), 25, .inl fCn)), (aE, .inl ((D.1 101), 25, .inl fE)), (aLE, .inl ((D.1 101), 25, .inl fLE)), (aG, .inl ((D.1 101), 25, .inl fG))] H → va_D A [(hX, .inr (11, [.ref hW, .ref hF, .ref hA_, .ref hT, .int (nI sc), .int pa, .int gu, .int cl, .int se, .int rf])), (hW, .inr (10, [.int (nI R), .int (nI C), .int (nI K), .int fi, .int di, .int br, .int li])), (hF, .inr (7, [.ref aB, .ref aS, .ref aN, .ref aM, .int he, .int lu])), (hA_, .inr (9, [.ref aCn, .ref aE, .ref aLE, .int dn, .int ea])), (hT, .inr (8, [.ref aC, .ref aG, .ref aI, .ref hB, .int lo, .ref aK, .ref aL, .ref aQ, .int (nI Ch), .int ct])), (hB, .inr (1, [.ref aY, .int 0, .int ml, .int (nI n)])), (aY, .inl ((D.1 100), cap, .inl fY)), (aB, .inl ((D.1 101), 25, .inl fB)), (aS, .inl ((D.1 101), 25, .inl fS)), (aN, .inl ((D.1 101), 25, .inl fN)), (aM, .inl ((D.1 101), 25, .inl fM)), (aCn, .inl ((D.1 101), 25, .inl fCn)), (aE, .inl ((D.1 101), 25, .inl fE)), (aLE, .inl ((D.1 101), 25, .inl fLE)), (aG, .inl ((D.1 101), 25, .inl fG))] → va_S (fun q : Nat => s.heap.size ≤ q) s.heap H locs → lv_has ls 5 [(0, .ref hX), (1, .long (itr (fun i a => S_X4_digest_122 fY i a) n0 i0 a0)), (3, .int (nI n))] → W p l e ({ frames := 6, cells := 0, slots := 0, locals := 145 } : Room) s m ([.ref hX] : List Value).toArray below meth c H locs 0 0 Q (F0 m 161 ls [])) → W p l e ({ frames := 6, cells := 0, slots := 0, locals := 145 } : Room) s m ([.ref hX] : List Value).toArray below meth c H locs 0 0 Q (F0 m 122 ls []) := by
      clear hP hD hS hl
      intro n0
      induction n0 with
      | zero =>
        intro i0 hi0 a0 H locs ls hP hD hS hl kon
        have he0 : i0 = n := by omega
        refine lv_iload_n hx hb dX4_digest_122 rfl (lv_at hl 2 rfl) ?_
        refine lv_aload_n hx hb dX4_digest_123 rfl (lv_at hl 0 rfl) ?_
        refine va_get (D := D) (ci := 11) (v := .ref hT) (C := RX4) (T := TX4) (N := 10) hx hb hts in_X4 hown hK hP 0 rfl rfl 3 (by decide) (hts _ q_658) (fun _ h9 => h9) rfl dX4_digest_124 ?_
        refine va_getN (D := D) (ci := 8) (v := .ref hB) (C := RX1) (T := TX1) (N := 10) hx hb hts in_X1 hown hK hP 4 rfl rfl 3 (by decide) (va_Nw.use rfl (hN.1 _ n_260)) (fun _ h9 => h9) rfl dX4_digest_127 ?_
        have hPc := hP.sub (ws' := [(hB, .inr (1, [.ref aY, .int 0, .int ml, .int (nI n)]))]) [5] rfl
        have hDc := hD.sub (ws' := [(hB, .inr (1, [.ref aY, .int 0, .int ml, .int (nI n)]))]) [5] (by decide) rfl
        have hFc := va_free (wc := [(hB, .inr (1, [.ref aY, .int 0, .int ml, .int (nI n)]))]) hD (va_S_up hS hA) hA [5] rfl
        refine va_calli (va_runV (As := []) (rest := [.int (nI i0)]) ⟨hx, hb, hml, hown, hts⟩ (c_J4_length_8abf5 l D hB aY ml n H.size ) (cwV 0 hts (gi_V q_736 q_493 q_1666 q_86 q_494) rfl rfl rfl (by decide +kernel) ⟨Nat.le_of_ble_eq_true rfl, Nat.le_of_ble_eq_true rfl⟩) ⟨cPre_blind, va_recv hK hP (ci := 1) (q0 := 5) rfl rfl, cPre_mk hPc hK hDc hN (lwZ_for hZ (va_S_up hS hA) hFc)⟩ rfl rfl hl.1 rfl (lv_room (Nat.le_of_ble_eq_true rfl)) dX4_digest_130 ⟨(Nat.le_of_ble_eq_true rfl), (Nat.le_of_ble_eq_true rfl)⟩) hS (fun q h1 h2 => absurd h2 (Nat.not_le.mpr h1)) (fun q h => Nat.le_trans hS.1 h) (fun r_130 u t H1 locs ht hvm hw hBk hz1 hk1 hS => ?_)
        have hP := va_P_ro hP hk1
        subst hw
        clear hBk hvm ht u hz1 hk1
        clear hPc hDc hFc; clear t
        generalize H1 = H at hP hS ⊢
        rw [show (F_J4_length_8abf5 n : Int32) = nI n from rfl]
        refine lv_icmp_ge (tgt := 161) hx hb dX4_digest_133 (by decide) (fun c_9 => ?_) (fun c_9 => ?_)
        · exact kon H locs ls hP hD hS (by have h9 := lv_sub (l' := [(0, .ref hX), (1, .long a0), (3, .int (nI i0))]) hl [0, 1, 2] rfl; (try rw [he0] at h9); exact h9) 
        · exact absurd (nI_le (a := n) (b := i0) (by omega) (by omega)) c_9
      | succ n0 ih0 =>
        intro i0 hi0 a0 H locs ls hP hD hS hl kon
        refine lv_iload_n hx hb dX4_digest_122 rfl (lv_at hl 2 rfl) ?_
        refine lv_aload_n hx hb dX4_digest_123 rfl (lv_at hl 0 rfl) ?_
        refine va_get (D := D) (ci := 11) (v := .ref hT) (C := RX4) (T := TX4) (N := 10) hx hb hts in_X4 hown hK hP 0 rfl rfl 3 (by decide) (hts _ q_658) (fun _ h9 => h9) rfl dX4_digest_124 ?_
        refine va_getN (D := D) (ci := 8) (v := .ref hB) (C := RX1) (T := TX1) (N := 10) hx hb hts in_X1 hown hK hP 4 rfl rfl 3 (by decide) (va_Nw.use rfl (hN.1 _ n_260)) (fun _ h9 => h9) rfl dX4_digest_127 ?_
        have hPc := hP.sub (ws' := [(hB, .inr (1, [.ref aY, .int 0, .int ml, .int (nI n)]))]) [5] rfl
        have hDc := hD.sub (ws' := [(hB, .inr (1, [.ref aY, .int 0, .int ml, .int (nI n)]))]) [5] (by decide) rfl
        have hFc := va_free (wc := [(hB, .inr (1, [.ref aY, .int 0, .int ml, .int (nI n)]))]) hD (va_S_up hS hA) hA [5] rfl
        refine va_calli (va_runV (As := []) (rest := [.int (nI i0)]) ⟨hx, hb, hml, hown, hts⟩ (c_J4_length_8abf5 l D hB aY ml n H.size ) (cwV 0 hts (gi_V q_736 q_493 q_1666 q_86 q_494) rfl rfl rfl (by decide +kernel) ⟨Nat.le_of_ble_eq_true rfl, Nat.le_of_ble_eq_true rfl⟩) ⟨cPre_blind, va_recv hK hP (ci := 1) (q0 := 5) rfl rfl, cPre_mk hPc hK hDc hN (lwZ_for hZ (va_S_up hS hA) hFc)⟩ rfl rfl hl.1 rfl (lv_room (Nat.le_of_ble_eq_true rfl)) dX4_digest_130 ⟨(Nat.le_of_ble_eq_true rfl), (Nat.le_of_ble_eq_true rfl)⟩) hS (fun q h1 h2 => absurd h2 (Nat.not_le.mpr h1)) (fun q h => Nat.le_trans hS.1 h) (fun r_130 u t H1 locs ht hvm hw hBk hz1 hk1 hS => ?_)
        have hP := va_P_ro hP hk1
        subst hw
        clear hBk hvm ht u hz1 hk1
        clear hPc hDc hFc; clear t
        generalize H1 = H at hP hS ⊢
        rw [show (F_J4_length_8abf5 n : Int32) = nI n from rfl]
        refine lv_icmp_ge (tgt := 161) hx hb dX4_digest_133 (by decide) (fun c_10 => ?_) (fun c_10 => ?_)
        · exact absurd c_10 (nI_ge (a := i0) (b := n) (by omega) (by omega))
        · refine lv_lload_n hx hb dX4_digest_136 rfl (lv_at hl 1 rfl) ?_
          refine lv_ldc2 (v := 31) hx hb hown (hts _ q_774) dX4_digest_137 ?_
          refine lv_lmul hx hb dX4_digest_140 ?_
          refine lv_aload_n hx hb dX4_digest_141 rfl (lv_at hl 0 rfl) ?_
          refine va_get (D := D) (ci := 11) (v := .ref hT) (C := RX4) (T := TX4) (N := 10) hx hb hts in_X4 hown hK hP 0 rfl rfl 3 (by decide) (hts _ q_658) (fun _ h9 => h9) rfl dX4_digest_142 ?_
          refine va_getN (D := D) (ci := 8) (v := .ref hB) (C := RX1) (T := TX1) (N := 10) hx hb hts in_X1 hown hK hP 4 rfl rfl 3 (by decide) (va_Nw.use rfl (hN.1 _ n_260)) (fun _ h9 => h9) rfl dX4_digest_145 ?_
          refine lv_iload_n hx hb dX4_digest_148 rfl (lv_at hl 2 rfl) ?_
          have hPc := hP.sub (ws' := [(hB, .inr (1, [.ref aY, .int 0, .int ml, .int (nI n)])), (aY, .inl ((D.1 100), cap, .inl fY))]) [5, 6] rfl
          have hDc := hD.sub (ws' := [(hB, .inr (1, [.ref aY, .int 0, .int ml, .int (nI n)])), (aY, .inl ((D.1 100), cap, .inl fY))]) [5, 6] (by decide) rfl
          have hFc := va_free (wc := [(hB, .inr (1, [.ref aY, .int 0, .int ml, .int (nI n)])), (aY, .inl ((D.1 100), cap, .inl fY))]) hD (va_S_up hS hA) hA [5, 6] rfl
          refine va_calli (va_runV (As := [.int (nI i0)]) (rest := [.long (a0 * 31)]) ⟨hx, hb, hml, hown, hts⟩ (c_J4_charAt_5068e l D hB aY ml n cap fY i0 (nI i0) H.size (show i0 < n from (by omega)) (show n ≤ cap from (by omega)) (show cap ≤ 1000 from (by omega)) (show (nI i0) = nI i0 from rfl)) (cwV 1 hts (gi_V q_810 q_811 q_812 q_86 q_813) rfl rfl rfl (by decide +kernel) ⟨Nat.le_of_ble_eq_true rfl, Nat.le_of_ble_eq_true rfl⟩) ⟨cPre_blind, va_recv hK hP (ci := 1) (q0 := 5) rfl rfl, cPre_mk hPc hK hDc hN (lwZ_for hZ (va_S_up hS hA) hFc)⟩ rfl rfl hl.1 rfl (lv_room (Nat.le_of_ble_eq_true rfl)) dX4_digest_149 ⟨(Nat.le_of_ble_eq_true rfl), (Nat.le_of_ble_eq_true rfl)⟩) hS (fun q h1 h2 => absurd h2 (Nat.not_le.mpr h1)) (fun q h => Nat.le_trans hS.1 h) (fun r_149 u t H1 locs ht hvm hw hBk hz1 hk1 hS => ?_)
          have hP := va_P_ro hP hk1
          obtain ⟨hw, z_11⟩ := hw
          rw [hw] at z_11
          subst hw
          clear hBk hvm ht u hz1 hk1
          clear hPc hDc hFc; clear t
          generalize H1 = H at hP hS ⊢
          refine lv_i2l (v := (F_J4_charAt_5068e fY i0).toInt64) hx hb dX4_digest_152 rfl ?_
          refine lv_ladd hx hb dX4_digest_153 ?_
          refine lv_lstore_n (lv' := [(1, .long ((a0 * 31) + ((F_J4_charAt_5068e fY i0).toInt64))), (0, .ref hX), (3, .int (nI i0))]) hx hb dX4_digest_154 rfl hl (by decide) rfl (fun ls hl => ?_)
          refine lv_iinc (v := nI (i0 + 1)) (lv' := [(3, .int (nI (i0 + 1))), (1, .long ((a0 * 31) + ((F_J4_charAt_5068e fY i0).toInt64))), (0, .ref hX)]) hx hb dX4_digest_155 hl (k := 2) rfl (nI_1 _) (by decide) rfl (fun ls hl => ?_)
          refine lv_goto (tgt := 122) hx hb dX4_digest_158 (by decide) ?_
          have hE : S_X4_digest_122 fY i0 a0 = (a0 * 31) + ((F_J4_charAt_5068e fY i0).toInt64) := (by rfl)
          have hl : lv_has ls 5 [(0, .ref hX), (1, .long ((a0 * 31) + ((F_J4_charAt_5068e fY i0).toInt64))), (3, .int (nI (i0 + 1)))] := lv_sub hl [2, 1, 0] rfl
          have hP := hP.sub (ws' := [(hX, .inr (11, [.ref hW, .ref hF, .ref hA_, .ref hT, .int (nI sc), .int pa, .int gu, .int cl, .int se, .int rf])), (hW, .inr (10, [.int (nI R), .int (nI C), .int (nI K), .int fi, .int di, .int br, .int li])), (hF, .inr (7, [.ref aB, .ref aS, .ref aN, .ref aM, .int he, .int lu])), (hA_, .inr (9, [.ref aCn, .ref aE, .ref aLE, .int dn, .int ea])), (hT, .inr (8, [.ref aC, .ref aG, .ref aI, .ref hB, .int lo, .ref aK, .ref aL, .ref aQ, .int (nI Ch), .int ct])), (hB, .inr (1, [.ref aY, .int 0, .int ml, .int (nI n)])), (aY, .inl ((D.1 100), cap, .inl fY)), (aB, .inl ((D.1 101), 25, .inl fB)), (aS, .inl ((D.1 101), 25, .inl fS)), (aN, .inl ((D.1 101), 25, .inl fN)), (aM, .inl ((D.1 101), 25, .inl fM)), (aCn, .inl ((D.1 101), 25, .inl fCn)), (aE, .inl ((D.1 101), 25, .inl fE)), (aLE, .inl ((D.1 101), 25, .inl fLE)), (aG, .inl ((D.1 101), 25, .inl fG))]) [0, 1, 2, 3, 4, 5, 6, 7, 8, 9, 10, 11, 12, 13, 14] rfl
          have hD := hD.sub (ws' := [(hX, .inr (11, [.ref hW, .ref hF, .ref hA_, .ref hT, .int (nI sc), .int pa, .int gu, .int cl, .int se, .int rf])), (hW, .inr (10, [.int (nI R), .int (nI C), .int (nI K), .int fi, .int di, .int br, .int li])), (hF, .inr (7, [.ref aB, .ref aS, .ref aN, .ref aM, .int he, .int lu])), (hA_, .inr (9, [.ref aCn, .ref aE, .ref aLE, .int dn, .int ea])), (hT, .inr (8, [.ref aC, .ref aG, .ref aI, .ref hB, .int lo, .ref aK, .ref aL, .ref aQ, .int (nI Ch), .int ct])), (hB, .inr (1, [.ref aY, .int 0, .int ml, .int (nI n)])), (aY, .inl ((D.1 100), cap, .inl fY)), (aB, .inl ((D.1 101), 25, .inl fB)), (aS, .inl ((D.1 101), 25, .inl fS)), (aN, .inl ((D.1 101), 25, .inl fN)), (aM, .inl ((D.1 101), 25, .inl fM)), (aCn, .inl ((D.1 101), 25, .inl fCn)), (aE, .inl ((D.1 101), 25, .inl fE)), (aLE, .inl ((D.1 101), 25, .inl fLE)), (aG, .inl ((D.1 101), 25, .inl fG))]) [0, 1, 2, 3, 4, 5, 6, 7, 8, 9, 10, 11, 12, 13, 14] (by decide) rfl
          exact ih0 (i0 + 1) (by omega) (S_X4_digest_122 fY i0 a0) H locs ls (by (try rw [hE]); exact hP) (by (try rw [hE]); exact hD) hS (by (try rw [hE]); exact hl) kon
    have hl : lv_has ls 5 [(0, .ref hX), (1, .long (itr (fun i a => S_X4_digest_59 cl R C fi di li he dn fB fS fN fM fCn fE fLE fG i a) K 0 (itr (fun i a => S_X4_digest_33 cl se fi he dn i a) 6 0 (itr (fun i a => S_X4_digest_6 sc pa gu rf R C K fi di br li lu ea lo Ch ct fG i a) 15 0 6553)))), (3, .int (nI 0))] := lv_sub hl [1, 2, 0] rfl
    refine lp_122 n 0 (by omega) (itr (fun i a => S_X4_digest_59 cl R C fi di li he dn fB fS fN fM fCn fE fLE fG i a) K 0 (itr (fun i a => S_X4_digest_33 cl se fi he dn i a) 6 0 (itr (fun i a => S_X4_digest_6 sc pa gu rf R C K fi di br li lu ea lo Ch ct fG i a) 15 0 6553))) H locs ls hP hD hS hl ?_
    clear lp_122 hP hD hS hl
    intro H locs ls hP hD hS hl
    refine lv_lload_n hx hb dX4_digest_161 rfl (lv_at hl 1 rfl) ?_
    refine lv_ldc2 (v := 31) hx hb hown (hts _ q_774) dX4_digest_162 ?_
    refine lv_lmul hx hb dX4_digest_165 ?_
    refine lv_aload_n hx hb dX4_digest_166 rfl (lv_at hl 0 rfl) ?_
    refine va_get (D := D) (ci := 11) (v := .ref hW) (C := RX4) (T := TX4) (N := 10) hx hb hts in_X4 hown hK hP 0 rfl rfl 0 (by decide) (hts _ q_655) (fun _ h9 => h9) rfl dX4_digest_167 ?_
    refine lv_iconst (v := 3) hx hb dX4_digest_170 (by decide) ?_
    have hPc := hP.sub (ws' := [(hW, .inr (10, [.int (nI R), .int (nI C), .int (nI K), .int fi, .int di, .int br, .int li]))]) [1] rfl
    have hDc := hD.sub (ws' := [(hW, .inr (10, [.int (nI R), .int (nI C), .int (nI K), .int fi, .int di, .int br, .int li]))]) [1] (by decide) rfl
    have hFc := va_free (wc := [(hW, .inr (10, [.int (nI R), .int (nI C), .int (nI K), .int fi, .int di, .int br, .int li]))]) hD (va_S_up hS hA) hA [1] rfl
    refine va_calli (va_runVN (As := [.int 3]) (rest := [.long ((itr (fun i a => S_X4_digest_122 fY i a) n 0 (itr (fun i a => S_X4_digest_59 cl R C fi di li he dn fB fS fN fM fCn fE fLE fG i a) K 0 (itr (fun i a => S_X4_digest_33 cl se fi he dn i a) 6 0 (itr (fun i a => S_X4_digest_6 sc pa gu rf R C K fi di br li lu ea lo Ch ct fG i a) 15 0 6553)))) * 31)]) ⟨hx, hb, hml, hown, hts⟩ (c_X3_unclearSets l D hW R C K fi di br li 3 H.size (show R ≤ 5 from hR)) ⟨va_cnB 1 hts (gi_sub q_828) rfl rfl rfl (hN.1 _ n_825) (hts _ q_81) (by decide +kernel) ⟨Nat.le_of_ble_eq_true rfl, Nat.le_of_ble_eq_true rfl⟩, (hts _ q_827), (hts _ q_26)⟩ ⟨cPre_blind, va_recv hK hP (ci := 10) (q0 := 1) rfl rfl, cPre_mk hPc hK hDc hN (lwZ_for hZ (va_S_up hS hA) hFc)⟩ rfl rfl hl.1 rfl (lv_room (Nat.le_of_ble_eq_true rfl)) dX4_digest_171 ⟨(Nat.le_of_ble_eq_true rfl), (Nat.le_of_ble_eq_true rfl)⟩) hS (fun q h1 h2 => absurd h2 (Nat.not_le.mpr h1)) (fun q h => Nat.le_trans hS.1 h) (fun r_171 u t H1 locs ht hvm hw hBk hz1 hk1 hS => ?_)
    have hP := va_P_ro hP hk1
    subst hw
    clear hBk hvm ht u hz1 hk1
    clear hPc hDc hFc; clear t
    generalize H1 = H at hP hS ⊢
    refine lv_i2l (v := (F_X3_unclearSets R C K fi di li 3).toInt64) hx hb dX4_digest_174 rfl ?_
    refine lv_ladd hx hb dX4_digest_175 ?_
    refine lv_lstore_n (lv' := [(1, .long (((itr (fun i a => S_X4_digest_122 fY i a) n 0 (itr (fun i a => S_X4_digest_59 cl R C fi di li he dn fB fS fN fM fCn fE fLE fG i a) K 0 (itr (fun i a => S_X4_digest_33 cl se fi he dn i a) 6 0 (itr (fun i a => S_X4_digest_6 sc pa gu rf R C K fi di br li lu ea lo Ch ct fG i a) 15 0 6553)))) * 31) + ((F_X3_unclearSets R C K fi di li 3).toInt64))), (0, .ref hX), (3, .int (nI n))]) hx hb dX4_digest_176 rfl hl (by decide) rfl (fun ls hl => ?_)
    refine lv_lload_n hx hb dX4_digest_177 rfl (lv_at hl 0 rfl) ?_
    refine lv_ldc2 (v := 31) hx hb hown (hts _ q_774) dX4_digest_178 ?_
    refine lv_lmul hx hb dX4_digest_181 ?_
    refine lv_aload_n hx hb dX4_digest_182 rfl (lv_at hl 1 rfl) ?_
    refine va_get (D := D) (ci := 11) (v := .ref hW) (C := RX4) (T := TX4) (N := 10) hx hb hts in_X4 hown hK hP 0 rfl rfl 0 (by decide) (hts _ q_655) (fun _ h9 => h9) rfl dX4_digest_183 ?_
    have hPc := hP.sub (ws' := [(hW, .inr (10, [.int (nI R), .int (nI C), .int (nI K), .int fi, .int di, .int br, .int li]))]) [1] rfl
    have hDc := hD.sub (ws' := [(hW, .inr (10, [.int (nI R), .int (nI C), .int (nI K), .int fi, .int di, .int br, .int li]))]) [1] (by decide) rfl
    have hFc := va_free (wc := [(hW, .inr (10, [.int (nI R), .int (nI C), .int (nI K), .int fi, .int di, .int br, .int li]))]) hD (va_S_up hS hA) hA [1] rfl
    refine va_calli (va_runVN (As := []) (rest := [.long ((((itr (fun i a => S_X4_digest_122 fY i a) n 0 (itr (fun i a => S_X4_digest_59 cl R C fi di li he dn fB fS fN fM fCn fE fLE fG i a) K 0 (itr (fun i a => S_X4_digest_33 cl se fi he dn i a) 6 0 (itr (fun i a => S_X4_digest_6 sc pa gu rf R C K fi di br li lu ea lo Ch ct fG i a) 15 0 6553)))) * 31) + ((F_X3_unclearSets R C K fi di li 3).toInt64)) * 31)]) ⟨hx, hb, hml, hown, hts⟩ (c_X3_diodeToAdd l D hW R C K fi di br li H.size (show R ≤ 5 from hR) (show K ≤ 25 from hKb)) ⟨va_cnB 0 hts (gi_sub q_710) rfl rfl rfl (hN.1 _ n_707) (hts _ q_81) (by decide +kernel) ⟨Nat.le_of_ble_eq_true rfl, Nat.le_of_ble_eq_true rfl⟩, (hts _ q_709), (hts _ q_7)⟩ ⟨cPre_blind, va_recv hK hP (ci := 10) (q0 := 1) rfl rfl, cPre_mk hPc hK hDc hN (lwZ_for hZ (va_S_up hS hA) hFc)⟩ rfl rfl hl.1 rfl (lv_room (Nat.le_of_ble_eq_true rfl)) dX4_digest_186 ⟨(Nat.le_of_ble_eq_true rfl), (Nat.le_of_ble_eq_true rfl)⟩) hS (fun q h1 h2 => absurd h2 (Nat.not_le.mpr h1)) (fun q h => Nat.le_trans hS.1 h) (fun r_186 u t H1 locs ht hvm hw hBk hz1 hk1 hS => ?_)
    have hP := va_P_ro hP hk1
    subst hw
    clear hBk hvm ht u hz1 hk1
    clear hPc hDc hFc; clear t
    generalize H1 = H at hP hS ⊢
    refine lv_i2l (v := (F_X3_diodeToAdd R C K fi di li).toInt64) hx hb dX4_digest_189 rfl ?_
    refine lv_ladd hx hb dX4_digest_190 ?_
    refine lv_lstore_n (lv' := [(1, .long (((((itr (fun i a => S_X4_digest_122 fY i a) n 0 (itr (fun i a => S_X4_digest_59 cl R C fi di li he dn fB fS fN fM fCn fE fLE fG i a) K 0 (itr (fun i a => S_X4_digest_33 cl se fi he dn i a) 6 0 (itr (fun i a => S_X4_digest_6 sc pa gu rf R C K fi di br li lu ea lo Ch ct fG i a) 15 0 6553)))) * 31) + ((F_X3_unclearSets R C K fi di li 3).toInt64)) * 31) + ((F_X3_diodeToAdd R C K fi di li).toInt64))), (0, .ref hX), (3, .int (nI n))]) hx hb dX4_digest_191 rfl hl (by decide) rfl (fun ls hl => ?_)
    refine lv_lload_n hx hb dX4_digest_192 rfl (lv_at hl 0 rfl) ?_
    refine lv_ldc2 (v := 31) hx hb hown (hts _ q_774) dX4_digest_193 ?_
    refine lv_lmul hx hb dX4_digest_196 ?_
    refine lv_ldc2d (v := 4634204016564240384) hx hb hown (hts _ q_836) dX4_digest_197 ?_
    refine lv_aload_n hx hb dX4_digest_200 rfl (lv_at hl 1 rfl) ?_
    have hPc := hP.sub (ws' := [(hX, .inr (11, [.ref hW, .ref hF, .ref hA_, .ref hT, .int (nI sc), .int pa, .int gu, .int cl, .int se, .int rf])), (hW, .inr (10, [.int (nI R), .int (nI C), .int (nI K), .int fi, .int di, .int br, .int li])), (hF, .inr (7, [.ref aB, .ref aS, .ref aN, .ref aM, .int he, .int lu])), (hA_, .inr (9, [.ref aCn, .ref aE, .ref aLE, .int dn, .int ea])), (aM, .inl ((D.1 101), 25, .inl fM)), (aE, .inl ((D.1 101), 25, .inl fE)), (aLE, .inl ((D.1 101), 25, .inl fLE))]) [0, 1, 2, 3, 10, 12, 13] rfl
    have hDc := hD.sub (ws' := [(hX, .inr (11, [.ref hW, .ref hF, .ref hA_, .ref hT, .int (nI sc), .int pa, .int gu, .int cl, .int se, .int rf])), (hW, .inr (10, [.int (nI R), .int (nI C), .int (nI K), .int fi, .int di, .int br, .int li])), (hF, .inr (7, [.ref aB, .ref aS, .ref aN, .ref aM, .int he, .int lu])), (hA_, .inr (9, [.ref aCn, .ref aE, .ref aLE, .int dn, .int ea])), (aM, .inl ((D.1 101), 25, .inl fM)), (aE, .inl ((D.1 101), 25, .inl fE)), (aLE, .inl ((D.1 101), 25, .inl fLE))]) [0, 1, 2, 3, 10, 12, 13] (by decide) rfl
    have hFc := va_free (wc := [(hX, .inr (11, [.ref hW, .ref hF, .ref hA_, .ref hT, .int (nI sc), .int pa, .int gu, .int cl, .int se, .int rf])), (hW, .inr (10, [.int (nI R), .int (nI C), .int (nI K), .int fi, .int di, .int br, .int li])), (hF, .inr (7, [.ref aB, .ref aS, .ref aN, .ref aM, .int he, .int lu])), (hA_, .inr (9, [.ref aCn, .ref aE, .ref aLE, .int dn, .int ea])), (aM, .inl ((D.1 101), 25, .inl fM)), (aE, .inl ((D.1 101), 25, .inl fE)), (aLE, .inl ((D.1 101), 25, .inl fLE))]) hD (va_S_up hS hA) hA [0, 1, 2, 3, 10, 12, 13] rfl
    refine va_calld (va_runV (As := []) (rest := [.double 4634204016564240384, .long ((((((itr (fun i a => S_X4_digest_122 fY i a) n 0 (itr (fun i a => S_X4_digest_59 cl R C fi di li he dn fB fS fN fM fCn fE fLE fG i a) K 0 (itr (fun i a => S_X4_digest_33 cl se fi he dn i a) 6 0 (itr (fun i a => S_X4_digest_6 sc pa gu rf R C K fi di br li lu ea lo Ch ct fG i a) 15 0 6553)))) * 31) + ((F_X3_unclearSets R C K fi di li 3).toInt64)) * 31) + ((F_X3_diodeToAdd R C K fi di li).toInt64)) * 31)]) ⟨hx, hb, hml, hown, hts⟩ (c_X4_lag l D hX hW hF hA_ hT sc pa gu cl se rf R C K fi di br li aB aS aN aM he lu aCn aE aLE dn ea fM fE fLE H.size (show K ≤ 25 from hKb)) (cwV 0 hts (gi_V q_837 q_696 q_697 q_80 q_698) rfl rfl rfl (by decide +kernel) ⟨Nat.le_of_ble_eq_true rfl, Nat.le_of_ble_eq_true rfl⟩) ⟨cPre_blind, va_recv hK hP (ci := 11) (q0 := 0) rfl rfl, cPre_mk hPc hK hDc hN (lwZ_for hZ (va_S_up hS hA) hFc)⟩ rfl rfl hl.1 rfl (lv_room (Nat.le_of_ble_eq_true rfl)) dX4_digest_201 ⟨(Nat.le_of_ble_eq_true rfl), (Nat.le_of_ble_eq_true rfl)⟩) hS (fun q h1 h2 => absurd h2 (Nat.not_le.mpr h1)) (fun q h => Nat.le_trans hS.1 h) (fun r_201 u t H1 locs ht hvm hw hBk hz1 hk1 hS => ?_)
    have hP := va_P_ro hP hk1
    subst hw
    clear hBk hvm ht u hz1 hk1
    clear hPc hDc hFc; clear t
    generalize H1 = H at hP hS ⊢
    refine lv_dmul hx hb dX4_digest_204 (dmul64_n64 lagF_n64) ?_
    refine lv_d2l hx hb dX4_digest_205 ?_
    refine lv_ladd hx hb dX4_digest_206 ?_
    refine lv_lstore_n (lv' := [(1, .long (((((((itr (fun i a => S_X4_digest_122 fY i a) n 0 (itr (fun i a => S_X4_digest_59 cl R C fi di li he dn fB fS fN fM fCn fE fLE fG i a) K 0 (itr (fun i a => S_X4_digest_33 cl se fi he dn i a) 6 0 (itr (fun i a => S_X4_digest_6 sc pa gu rf R C K fi di br li lu ea lo Ch ct fG i a) 15 0 6553)))) * 31) + ((F_X3_unclearSets R C K fi di li 3).toInt64)) * 31) + ((F_X3_diodeToAdd R C K fi di li).toInt64)) * 31) + (FP.d2l (FP.dmul 4634204016564240384 (F_X4_lag K fM fE fLE))))), (0, .ref hX), (3, .int (nI n))]) hx hb dX4_digest_207 rfl hl (by decide) rfl (fun ls hl => ?_)
    refine lv_lload_n hx hb dX4_digest_208 rfl (lv_at hl 0 rfl) ?_
    refine lv_ldc2 (v := 31) hx hb hown (hts _ q_774) dX4_digest_209 ?_
    refine lv_lmul hx hb dX4_digest_212 ?_
    refine lv_aload_n hx hb dX4_digest_213 rfl (lv_at hl 1 rfl) ?_
    have hPc := hP.sub (ws' := [(hX, .inr (11, [.ref hW, .ref hF, .ref hA_, .ref hT, .int (nI sc), .int pa, .int gu, .int cl, .int se, .int rf])), (hW, .inr (10, [.int (nI R), .int (nI C), .int (nI K), .int fi, .int di, .int br, .int li])), (hF, .inr (7, [.ref aB, .ref aS, .ref aN, .ref aM, .int he, .int lu])), (hT, .inr (8, [.ref aC, .ref aG, .ref aI, .ref hB, .int lo, .ref aK, .ref aL, .ref aQ, .int (nI Ch), .int ct])), (hB, .inr (1, [.ref aY, .int 0, .int ml, .int (nI n)]))]) [0, 1, 2, 4, 5] rfl
    have hDc := hD.sub (ws' := [(hX, .inr (11, [.ref hW, .ref hF, .ref hA_, .ref hT, .int (nI sc), .int pa, .int gu, .int cl, .int se, .int rf])), (hW, .inr (10, [.int (nI R), .int (nI C), .int (nI K), .int fi, .int di, .int br, .int li])), (hF, .inr (7, [.ref aB, .ref aS, .ref aN, .ref aM, .int he, .int lu])), (hT, .inr (8, [.ref aC, .ref aG, .ref aI, .ref hB, .int lo, .ref aK, .ref aL, .ref aQ, .int (nI Ch), .int ct])), (hB, .inr (1, [.ref aY, .int 0, .int ml, .int (nI n)]))]) [0, 1, 2, 4, 5] (by decide) rfl
    have hFc := va_free (wc := [(hX, .inr (11, [.ref hW, .ref hF, .ref hA_, .ref hT, .int (nI sc), .int pa, .int gu, .int cl, .int se, .int rf])), (hW, .inr (10, [.int (nI R), .int (nI C), .int (nI K), .int fi, .int di, .int br, .int li])), (hF, .inr (7, [.ref aB, .ref aS, .ref aN, .ref aM, .int he, .int lu])), (hT, .inr (8, [.ref aC, .ref aG, .ref aI, .ref hB, .int lo, .ref aK, .ref aL, .ref aQ, .int (nI Ch), .int ct])), (hB, .inr (1, [.ref aY, .int 0, .int ml, .int (nI n)]))]) hD (va_S_up hS hA) hA [0, 1, 2, 4, 5] rfl
    refine va_calli (va_runV (As := []) (rest := [.long ((((((((itr (fun i a => S_X4_digest_122 fY i a) n 0 (itr (fun i a => S_X4_digest_59 cl R C fi di li he dn fB fS fN fM fCn fE fLE fG i a) K 0 (itr (fun i a => S_X4_digest_33 cl se fi he dn i a) 6 0 (itr (fun i a => S_X4_digest_6 sc pa gu rf R C K fi di br li lu ea lo Ch ct fG i a) 15 0 6553)))) * 31) + ((F_X3_unclearSets R C K fi di li 3).toInt64)) * 31) + ((F_X3_diodeToAdd R C K fi di li).toInt64)) * 31) + (FP.d2l (FP.dmul 4634204016564240384 (F_X4_lag K fM fE fLE)))) * 31)]) ⟨hx, hb, hml, hown, hts⟩ (c_X4_isSound l D hX hW hF hA_ hT sc pa gu cl se rf R C K fi di br li aB aS aN aM he lu aC aG aI hB aK aL aQ lo Ch ct aY ml n H.size (show R ≤ 5 from hR) (show K ≤ 25 from hKb)) (cwV 0 hts (gi_V q_838 q_733 q_734 q_80 q_735) rfl rfl rfl (by decide +kernel) ⟨Nat.le_of_ble_eq_true rfl, Nat.le_of_ble_eq_true rfl⟩) ⟨cPre_blind, va_recv hK hP (ci := 11) (q0 := 0) rfl rfl, cPre_mk hPc hK hDc hN (lwZ_for hZ (va_S_up hS hA) hFc)⟩ rfl rfl hl.1 rfl (lv_room (Nat.le_of_ble_eq_true rfl)) dX4_digest_214 ⟨(Nat.le_of_ble_eq_true rfl), (Nat.le_of_ble_eq_true rfl)⟩) hS (fun q h1 h2 => absurd h2 (Nat.not_le.mpr h1)) (fun q h => Nat.le_trans hS.1 h) (fun r_214 u t H1 locs ht hvm hw hBk hz1 hk1 hS => ?_)
    have hP := va_P_ro hP hk1
    obtain ⟨hw, z_12⟩ := hw
    rw [hw] at z_12
    subst hw
    clear hBk hvm ht u hz1 hk1
    clear hPc hDc hFc; clear t
    generalize H1 = H at hP hS ⊢
    have hPc := hP.sub (ws' := []) [] rfl
    have hDc := hD.sub (ws' := []) [] (by decide) rfl
    have hFc := va_free (wc := []) hD (va_S_up hS hA) hA [] rfl
    refine va_calli (va_runS (As := [.int (F_X4_isSound R C K fi di li he n)]) (rest := [.long ((((((((itr (fun i a => S_X4_digest_122 fY i a) n 0 (itr (fun i a => S_X4_digest_59 cl R C fi di li he dn fB fS fN fM fCn fE fLE fG i a) K 0 (itr (fun i a => S_X4_digest_33 cl se fi he dn i a) 6 0 (itr (fun i a => S_X4_digest_6 sc pa gu rf R C K fi di br li lu ea lo Ch ct fG i a) 15 0 6553)))) * 31) + ((F_X3_unclearSets R C K fi di li 3).toInt64)) * 31) + ((F_X3_diodeToAdd R C K fi di li).toInt64)) * 31) + (FP.d2l (FP.dmul 4634204016564240384 (F_X4_lag K fM fE fLE)))) * 31)]) ⟨hx, hb, hml, hown, hts⟩ (c_X4_oneIf l D (F_X4_isSound R C K fi di li he n) H.size ) (cwS 1 hts (gi_S q_779 q_780 q_80 q_781) rfl rfl rfl (by decide +kernel) ⟨Nat.le_of_ble_eq_true rfl, Nat.le_of_ble_eq_true rfl⟩) ⟨cPre_blind, cPre_mk hPc hK hDc hN (lwZ_for hZ (va_S_up hS hA) hFc)⟩ rfl rfl hl.1 rfl (lv_room (Nat.le_of_ble_eq_true rfl)) dX4_digest_217 ⟨(Nat.le_of_ble_eq_true rfl), (Nat.le_of_ble_eq_true rfl)⟩) hS (fun q h1 h2 => absurd h2 (Nat.not_le.mpr h1)) (fun q h => Nat.le_trans hS.1 h) (fun r_217 u t H1 locs ht hvm hw hBk hz1 hk1 hS => ?_)
    have hP := va_P_ro hP hk1
    subst hw
    clear hBk hvm ht u hz1 hk1
    clear hPc hDc hFc; clear t
    generalize H1 = H at hP hS ⊢
    refine lv_i2l (v := (F_X4_oneIf (F_X4_isSound R C K fi di li he n)).toInt64) hx hb dX4_digest_220 rfl ?_
    refine lv_ladd hx hb dX4_digest_221 ?_
    subst hQe
    exact W.lret (v := ((((((((itr (fun i a => S_X4_digest_122 fY i a) n 0 (itr (fun i a => S_X4_digest_59 cl R C fi di li he dn fB fS fN fM fCn fE fLE fG i a) K 0 (itr (fun i a => S_X4_digest_33 cl se fi he dn i a) 6 0 (itr (fun i a => S_X4_digest_6 sc pa gu rf R C K fi di br li lu ea lo Ch ct fG i a) 15 0 6553)))) * 31) + ((F_X3_unclearSets R C K fi di li 3).toInt64)) * 31) + ((F_X3_diodeToAdd R C K fi di li).toInt64)) * 31) + (FP.d2l (FP.dmul 4634204016564240384 (F_X4_lag K fM fE fLE)))) * 31) + ((F_X4_oneIf (F_X4_isSound R C K fi di li he n)).toInt64)) hx hb hr (fun t ht hW => ⟨⟨((((((((itr (fun i a => S_X4_digest_122 fY i a) n 0 (itr (fun i a => S_X4_digest_59 cl R C fi di li he dn fB fS fN fM fCn fE fLE fG i a) K 0 (itr (fun i a => S_X4_digest_33 cl se fi he dn i a) 6 0 (itr (fun i a => S_X4_digest_6 sc pa gu rf R C K fi di br li lu ea lo Ch ct fG i a) 15 0 6553)))) * 31) + ((F_X3_unclearSets R C K fi di li 3).toInt64)) * 31) + ((F_X3_diodeToAdd R C K fi di li).toInt64)) * 31) + (FP.d2l (FP.dmul 4634204016564240384 (F_X4_lag K fM fE fLE)))) * 31) + ((F_X4_oneIf (F_X4_isSound R C K fi di li he n)).toInt64), (), rfl, (by rfl), trivial⟩, hS.F ht⟩) hS.2.2 dX4_digest_222
  rw [hHe, hLe] at hgoal
  exact hgoal
