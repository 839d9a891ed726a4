theorem sub_le0 {a b : Nat} (h : a ≤ b) (hb : b < 2 ^ 30) : nI a - nI b ≤ 0 := by
  rw [Int32.le_iff_toInt_le, pk_sub_toInt (by omega) hb, Int32.toInt_zero]; omega
theorem sub_gt0 {a b : Nat} (h : b < a) (hb : a < 2 ^ 30) : ¬ nI a - nI b ≤ 0 := by
  rw [Int32.le_iff_toInt_le, pk_sub_toInt hb (by omega), Int32.toInt_zero]; omega
theorem nI_m1 {a : Nat} (h : 0 < a) : nI a - 1 = nI (a - 1) := by
  obtain ⟨b, rfl⟩ : ∃ b, a = b + 1 := ⟨a - 1, by omega⟩
  rw [nI_pred]; rfl

def F_J5_isLatin1_aae02  : Int32 := 1
set_option maxHeartbeats 4000000 in
set_option maxRecDepth 100000 in
theorem c_J5_isLatin1_aae02 (l : Launch) (D : va_G) (hB : Nat) (aY : Nat) (ml : Int32) (n : Nat) (sz : Nat)  : Met l yJ5_isLatin1_aae02 (Cond.code yJ5_isLatin1_aae02 cJ5_isLatin1_aae02 1 (some .boolean) :: lwAll) ({ frames := 0, cells := 0, slots := 0, locals := 0 } : Room) (va_Pc [.ref hB] (cPre D (lwTY D) [(hB, .inr (1, [.ref aY, .int 0, .int ml, .int (nI n)]))] sz)) (va_Qi (fun (r : Int32) (_ : Unit) => r = F_J5_isLatin1_aae02 ∧ (r = 0 ∨ r = 1)) (fun _ _ => True) (fun q : Nat => sz ≤ q)) 0 0 (fun q : Nat => sz ≤ q) := by
  refine Met.ofW (cc := cJ5_isLatin1_aae02) (maxL := 1) (ret := (some .boolean)) (by decide) rfl ?_
  intro p e s m args below meth c s₁ B hml hv
  obtain ⟨rfl, hsz, hP, hK, hD0, hN, hZ⟩ := hv
  have hx := B.exec
  have hb := B.bytes
  have hr := B.returns
  have hts : ∀ wd ∈ lwAll, wd.before ([.ref hB] : List Value).toArray s = true := fun wd h => atoms_spec (ws := (Cond.code yJ5_isLatin1_aae02 cJ5_isLatin1_aae02 1 (some .boolean) :: lwAll)) B.pre wd (List.mem_cons_of_mem _ h)
  have hown : s.vm.findClass RJ5 = some m.cls := findClass_of_methodNamed B.named
  have hlocks := B.notSynchronized
  subst hsz
  have hD := hD0.self (sz := s.heap.size)
  have hl := lv_entry ([.ref hB]) (n := 1) (Nat.le_of_ble_eq_true rfl)
  rw [lg_entry_eq]
  generalize (lg_sl ([.ref hB]) ++ List.replicate (1 - (lg_sl ([.ref hB])).length) Slot.unset).toArray = ls at hl ⊢
  have hl : lv_has ls 1 [(0, .ref hB)] := hl
  have hS : va_S (fun q : Nat => s.heap.size ≤ q) s.heap s.heap [] := va_S.rf
  generalize hQe : MQ below (va_Qi (fun (r : Int32) (_ : Unit) => r = F_J5_isLatin1_aae02 ∧ (r = 0 ∨ r = 1)) (fun _ _ => True) (fun q : Nat => s.heap.size ≤ q)) ([.ref hB] : List Value).toArray s 0 0 (fun q : Nat => s.heap.size ≤ q) = Q
  have hP : va_P D vwCl [(hB, .inr (1, [.ref aY, .int 0, .int ml, .int (nI n)]))] s.heap := hP
  obtain ⟨A, hAe⟩ : ∃ A, A = va_A [(hB, .inr (1, [.ref aY, .int 0, .int ml, .int (nI n)]))] s.heap.size := ⟨_, rfl⟩
  rw [← hAe] at hD hZ
  have hA : ∀ q : Nat, s.heap.size ≤ q → A q := fun q h => by rw [hAe]; exact Or.inr h
  obtain ⟨H, hHe⟩ : ∃ H, H = s.heap := ⟨_, rfl⟩
  obtain ⟨locs, hLe⟩ : ∃ L : List Loc, L = [] := ⟨_, rfl⟩
  have hP : va_P D vwCl [(hB, .inr (1, [.ref aY, .int 0, .int ml, .int (nI n)]))] H := by rw [hHe]; exact hP
  have hS : va_S (fun q : Nat => s.heap.size ≤ q) s.heap H locs := by rw [hHe, hLe]; exact hS
  have hgoal : W p l e ({ frames := 0, cells := 0, slots := 0, locals := 0 } : Room) s m ([.ref hB] : List Value).toArray below meth c H locs 0 0 Q (F0 m 0 ls []) := by
    clear hHe hLe
    refine va_gets hx hb hZ.1 (va_S_up hS hA) hown (hts _ q_230) (fun _ h9 => h9) dJ5_isLatin1_aae02_0 ?_
    refine lv_if_eq (tgt := 17) hx hb dJ5_isLatin1_aae02_3 (by decide) (fun c_1 => ?_) (fun c_1 => ?_)
    · exact absurd c_1 (by decide)
    · refine lv_aload_n hx hb dJ5_isLatin1_aae02_6 rfl (lv_at hl 0 rfl) ?_
      refine va_get (D := D) (ci := 1) (v := .int 0) (C := RJ4) (T := TJ4) (N := 4) hx hb hts in_J4 hown hK hP 0 rfl rfl 1 (by decide) (hts _ q_240) (fun _ h9 => h9) rfl dJ5_isLatin1_aae02_7 ?_
      refine lv_if_ne (tgt := 17) hx hb dJ5_isLatin1_aae02_10 (by decide) (fun c_2 => ?_) (fun c_2 => ?_)
      · exact absurd (by decide) c_2
      · refine lv_iconst (v := 1) hx hb dJ5_isLatin1_aae02_13 (by decide) ?_
        refine lv_goto (tgt := 18) hx hb dJ5_isLatin1_aae02_14 (by decide) ?_
        subst hQe
        exact W.zret (ty := .boolean) (v := 1) hx hb hr (zb_narrow zb_1) (fun t ht hW => ⟨⟨1, (), rfl, ⟨(by rfl), zb_1⟩, trivial⟩, hS.F ht⟩) hS.2.2 dJ5_isLatin1_aae02_18
  rw [hHe, hLe] at hgoal
  exact hgoal

def F_J5_length_8abf5 (n : Nat) : Int32 := nI n
set_option maxHeartbeats 4000000 in
set_option maxRecDepth 100000 in
theorem c_J5_length_8abf5 (l : Launch) (D : va_G) (hB : Nat) (aY : Nat) (ml : Int32) (n : Nat) (sz : Nat)  : Met l yJ5_length_8abf5 (Cond.code yJ5_length_8abf5 cJ5_length_8abf5 1 (some .int) :: lwAll) ({ frames := 0, cells := 0, slots := 0, locals := 0 } : Room) (va_Pc [.ref hB] (cPre D (lwTY D) [(hB, .inr (1, [.ref aY, .int 0, .int ml, .int (nI n)]))] sz)) (va_Qi (fun (r : Int32) (_ : Unit) => r = (F_J5_length_8abf5 n)) (fun _ _ => True) (fun q : Nat => sz ≤ q)) 0 0 (fun q : Nat => sz ≤ q) := by
  refine Met.ofW (cc := cJ5_length_8abf5) (maxL := 1) (ret := (some .int)) (by decide) rfl ?_
  intro p e s m args below meth c s₁ B hml hv
  obtain ⟨rfl, hsz, hP, hK, hD0, hN, hZ⟩ := hv
  have hx := B.exec
  have hb := B.bytes
  have hr := B.returns
  have hts : ∀ wd ∈ lwAll, wd.before ([.ref hB] : List Value).toArray s = true := fun wd h => atoms_spec (ws := (Cond.code yJ5_length_8abf5 cJ5_length_8abf5 1 (some .int) :: lwAll)) B.pre wd (List.mem_cons_of_mem _ h)
  have hown : s.vm.findClass RJ5 = some m.cls := findClass_of_methodNamed B.named
  have hlocks := B.notSynchronized
  subst hsz
  have hD := hD0.self (sz := s.heap.size)
  have hl := lv_entry ([.ref hB]) (n := 1) (Nat.le_of_ble_eq_true rfl)
  rw [lg_entry_eq]
  generalize (lg_sl ([.ref hB]) ++ List.replicate (1 - (lg_sl ([.ref hB])).length) Slot.unset).toArray = ls at hl ⊢
  have hl : lv_has ls 1 [(0, .ref hB)] := hl
  have hS : va_S (fun q : Nat => s.heap.size ≤ q) s.heap s.heap [] := va_S.rf
  generalize hQe : MQ below (va_Qi (fun (r : Int32) (_ : Unit) => r = (F_J5_length_8abf5 n)) (fun _ _ => True) (fun q : Nat => s.heap.size ≤ q)) ([.ref hB] : List Value).toArray s 0 0 (fun q : Nat => s.heap.size ≤ q) = Q
  have hP : va_P D vwCl [(hB, .inr (1, [.ref aY, .int 0, .int ml, .int (nI n)]))] s.heap := hP
  obtain ⟨A, hAe⟩ : ∃ A, A = va_A [(hB, .inr (1, [.ref aY, .int 0, .int ml, .int (nI n)]))] s.heap.size := ⟨_, rfl⟩
  rw [← hAe] at hD hZ
  have hA : ∀ q : Nat, s.heap.size ≤ q → A q := fun q h => by rw [hAe]; exact Or.inr h
  obtain ⟨H, hHe⟩ : ∃ H, H = s.heap := ⟨_, rfl⟩
  obtain ⟨locs, hLe⟩ : ∃ L : List Loc, L = [] := ⟨_, rfl⟩
  have hP : va_P D vwCl [(hB, .inr (1, [.ref aY, .int 0, .int ml, .int (nI n)]))] H := by rw [hHe]; exact hP
  have hS : va_S (fun q : Nat => s.heap.size ≤ q) s.heap H locs := by rw [hHe, hLe]; exact hS
  have hgoal : W p l e ({ frames := 0, cells := 0, slots := 0, locals := 0 } : Room) s m ([.ref hB] : List Value).toArray below meth c H locs 0 0 Q (F0 m 0 ls []) := by
    clear hHe hLe
    refine lv_aload_n hx hb dJ5_length_8abf5_0 rfl (lv_at hl 0 rfl) ?_
    refine va_get (D := D) (ci := 1) (v := .int (nI n)) (C := RJ4) (T := TJ4) (N := 4) hx hb hts in_J4 hown hK hP 0 rfl rfl 3 (by decide) (hts _ q_243) (fun _ h9 => h9) rfl dJ5_length_8abf5_1 ?_
    subst hQe
    exact W.iret (v := nI n) hx hb hr (fun t ht hW => ⟨⟨nI n, (), rfl, (by rfl), trivial⟩, hS.F ht⟩) hS.2.2 dJ5_length_8abf5_4
  rw [hHe, hLe] at hgoal
  exact hgoal

def F_J4_length_8abf5 (n : Nat) : Int32 := F_J5_length_8abf5 n
set_option maxHeartbeats 4000000 in
set_option maxRecDepth 100000 in
theorem c_J4_length_8abf5 (l : Launch) (D : va_G) (hB : Nat) (aY : Nat) (ml : Int32) (n : Nat) (sz : Nat)  : Met l yJ4_length_8abf5 (Cond.code yJ4_length_8abf5 cJ4_length_8abf5 1 (some .int) :: lwAll) ({ frames := 1, cells := 0, slots := 0, locals := 20 } : Room) (va_Pc [.ref hB] (cPre D (lwTY D) [(hB, .inr (1, [.ref aY, .int 0, .int ml, .int (nI n)]))] sz)) (va_Qi (fun (r : Int32) (_ : Unit) => r = (F_J4_length_8abf5 n)) (fun _ _ => True) (fun q : Nat => sz ≤ q)) 0 0 (fun q : Nat => sz ≤ q) := by
  refine Met.ofW (cc := cJ4_length_8abf5) (maxL := 1) (ret := (some .int)) (by decide) rfl ?_
  intro p e s m args below meth c s₁ B hml hv
  obtain ⟨rfl, hsz, hP, hK, hD0, hN, hZ⟩ := hv
  have hx := B.exec
  have hb := B.bytes
  have hr := B.returns
  have hts : ∀ wd ∈ lwAll, wd.before ([.ref hB] : List Value).toArray s = true := fun wd h => atoms_spec (ws := (Cond.code yJ4_length_8abf5 cJ4_length_8abf5 1 (some .int) :: lwAll)) B.pre wd (List.mem_cons_of_mem _ h)
  have hown : s.vm.findClass RJ4 = some m.cls := findClass_of_methodNamed B.named
  have hlocks := B.notSynchronized
  subst hsz
  have hD := hD0.self (sz := s.heap.size)
  have hl := lv_entry ([.ref hB]) (n := 1) (Nat.le_of_ble_eq_true rfl)
  rw [lg_entry_eq]
  generalize (lg_sl ([.ref hB]) ++ List.replicate (1 - (lg_sl ([.ref hB])).length) Slot.unset).toArray = ls at hl ⊢
  have hl : lv_has ls 1 [(0, .ref hB)] := hl
  have hS : va_S (fun q : Nat => s.heap.size ≤ q) s.heap s.heap [] := va_S.rf
  generalize hQe : MQ below (va_Qi (fun (r : Int32) (_ : Unit) => r = (F_J4_length_8abf5 n)) (fun _ _ => True) (fun q : Nat => s.heap.size ≤ q)) ([.ref hB] : List Value).toArray s 0 0 (fun q : Nat => s.heap.size ≤ q) = Q
  have hP : va_P D vwCl [(hB, .inr (1, [.ref aY, .int 0, .int ml, .int (nI n)]))] s.heap := hP
  obtain ⟨A, hAe⟩ : ∃ A, A = va_A [(hB, .inr (1, [.ref aY, .int 0, .int ml, .int (nI n)]))] s.heap.size := ⟨_, rfl⟩
  rw [← hAe] at hD hZ
  have hA : ∀ q : Nat, s.heap.size ≤ q → A q := fun q h => by rw [hAe]; exact Or.inr h
  obtain ⟨H, hHe⟩ : ∃ H, H = s.heap := ⟨_, rfl⟩
  obtain ⟨locs, hLe⟩ : ∃ L : List Loc, L = [] := ⟨_, rfl⟩
  have hP : va_P D vwCl [(hB, .inr (1, [.ref aY, .int 0, .int ml, .int (nI n)]))] H := by rw [hHe]; exact hP
  have hS : va_S (fun q : Nat => s.heap.size ≤ q) s.heap H locs := by rw [hHe, hLe]; exact hS
  have hgoal : W p l e ({ frames := 1, cells := 0, slots := 0, locals := 20 } : Room) s m ([.ref hB] : List Value).toArray below meth c H locs 0 0 Q (F0 m 0 ls []) := by
    clear hHe hLe
    refine lv_aload_n hx hb dJ4_length_8abf5_0 rfl (lv_at hl 0 rfl) ?_
    have hPc := hP.sub (ws' := [(hB, .inr (1, [.ref aY, .int 0, .int ml, .int (nI n)]))]) [0] rfl
    have hDc := hD.sub (ws' := [(hB, .inr (1, [.ref aY, .int 0, .int ml, .int (nI n)]))]) [0] (by decide) rfl
    have hFc := va_free (wc := [(hB, .inr (1, [.ref aY, .int 0, .int ml, .int (nI n)]))]) hD (va_S_up hS hA) hA [0] rfl
    refine va_calli (va_runSU (hK.1 1 _ rfl).2 (As := []) (rest := []) ⟨hx, hb, hml, hown, hts⟩ (c_J5_length_8abf5 l D hB aY ml n H.size ) (va_cwSU 0 hts (gi_SU q_495 q_491 q_252 q_490 q_85 q_496) rfl rfl rfl (by decide +kernel) ⟨Nat.le_of_ble_eq_true rfl, Nat.le_of_ble_eq_true rfl⟩) ⟨cPre_blind, va_recv hK hP (ci := 1) (q0 := 0) rfl rfl, cPre_mk hPc hK hDc hN (lwZ_for hZ (va_S_up hS hA) hFc)⟩ rfl rfl hl.1 rfl (lv_room (Nat.le_of_ble_eq_true rfl)) dJ4_length_8abf5_1 ⟨(Nat.le_of_ble_eq_true rfl), (Nat.le_of_ble_eq_true rfl)⟩) hS (fun q h1 h2 => absurd h2 (Nat.not_le.mpr h1)) (fun q h => Nat.le_trans hS.1 h) (fun r_1 u t H1 locs ht hvm hw hBk hz1 hk1 hS => ?_)
    have hP := va_P_ro hP hk1
    subst hw
    clear hBk hvm ht u hz1 hk1
    clear hPc hDc hFc; clear t
    generalize H1 = H at hP hS ⊢
    subst hQe
    exact W.iret (v := F_J5_length_8abf5 n) hx hb hr (fun t ht hW => ⟨⟨F_J5_length_8abf5 n, (), rfl, (by rfl), trivial⟩, hS.F ht⟩) hS.2.2 dJ4_length_8abf5_4
  rw [hHe, hLe] at hgoal
  exact hgoal

def F_J1_canEncode_fc78d (x0 : Int32) : Int32 := (if 255 < x0 then 0 else 1)
set_option maxHeartbeats 4000000 in
set_option maxRecDepth 100000 in
theorem c_J1_canEncode_fc78d (l : Launch) (D : va_G) (x0 : Int32) (sz : Nat)  : Met l yJ1_canEncode_fc78d (Cond.code yJ1_canEncode_fc78d cJ1_canEncode_fc78d 1 (some .boolean) :: lwAll) ({ frames := 0, cells := 0, slots := 0, locals := 0 } : Room) (va_Pc [.int x0] (cPre D (lwTY D) [] sz)) (va_Qi (fun (r : Int32) (_ : Unit) => r = (F_J1_canEncode_fc78d x0) ∧ (r = 0 ∨ r = 1)) (fun _ _ => True) (fun q : Nat => sz ≤ q)) 0 0 (fun q : Nat => sz ≤ q) := by
  refine Met.ofW (cc := cJ1_canEncode_fc78d) (maxL := 1) (ret := (some .boolean)) (by decide) rfl ?_
  intro p e s m args below meth c s₁ B hml hv
  obtain ⟨rfl, hsz, hP, hK, hD0, hN, hZ⟩ := hv
  have hx := B.exec
  have hb := B.bytes
  have hr := B.returns
  have hts : ∀ wd ∈ lwAll, wd.before ([.int x0] : List Value).toArray s = true := fun wd h => atoms_spec (ws := (Cond.code yJ1_canEncode_fc78d cJ1_canEncode_fc78d 1 (some .boolean) :: lwAll)) B.pre wd (List.mem_cons_of_mem _ h)
  have hown : s.vm.findClass RJ1 = some m.cls := findClass_of_methodNamed B.named
  have hlocks := B.notSynchronized
  subst hsz
  have hD := hD0.self (sz := s.heap.size)
  have hl := lv_entry ([.int x0]) (n := 1) (Nat.le_of_ble_eq_true rfl)
  rw [lg_entry_eq]
  generalize (lg_sl ([.int x0]) ++ List.replicate (1 - (lg_sl ([.int x0])).length) Slot.unset).toArray = ls at hl ⊢
  have hl : lv_has ls 1 [(0, .int x0)] := hl
  have hS : va_S (fun q : Nat => s.heap.size ≤ q) s.heap s.heap [] := va_S.rf
  generalize hQe : MQ below (va_Qi (fun (r : Int32) (_ : Unit) => r = (F_J1_canEncode_fc78d x0) ∧ (r = 0 ∨ r = 1)) (fun _ _ => True) (fun q : Nat => s.heap.size ≤ q)) ([.int x0] : List Value).toArray s 0 0 (fun q : Nat => s.heap.size ≤ q) = Q
  have hP : va_P D vwCl [] s.heap := hP
  obtain ⟨A, hAe⟩ : ∃ A, A = va_A [] s.heap.size := ⟨_, rfl⟩
  rw [← hAe] at hD hZ
  have hA : ∀ q : Nat, s.heap.size ≤ q → A q := fun q h => by rw [hAe]; exact Or.inr h
  obtain ⟨H, hHe⟩ : ∃ H, H = s.heap := ⟨_, rfl⟩
  obtain ⟨locs, hLe⟩ : ∃ L : List Loc, L = [] := ⟨_, rfl⟩
  have hP : va_P D vwCl [] H := by rw [hHe]; exact hP
  have hS : va_S (fun q : Nat => s.heap.size ≤ q) s.heap H locs := by rw [hHe, hLe]; exact hS
  have hgoal : W p l e ({ frames := 0, cells := 0, slots := 0, locals := 0 } : Room) s m ([.int x0] : List Value).toArray below meth c H locs 0 0 Q (F0 m 0 ls []) := by
    clear hHe hLe
    refine lv_iload_n hx hb dJ1_canEncode_fc78d_0 rfl (lv_at hl 0 rfl) ?_
    refine lv_sipush (v := 255) hx hb dJ1_canEncode_fc78d_1 (by decide) ?_
    refine lv_icmp_gt (tgt := 11) hx hb dJ1_canEncode_fc78d_4 (by decide) (fun c_1 => ?_) (fun c_1 => ?_)
    · refine lv_iconst (v := 0) hx hb dJ1_canEncode_fc78d_11 (by decide) ?_
      subst hQe
      exact W.zret (ty := .boolean) (v := 0) hx hb hr (zb_narrow zb_0) (fun t ht hW => ⟨⟨0, (), rfl, ⟨(by unfold F_J1_canEncode_fc78d; rw [if_pos c_1]), zb_0⟩, trivial⟩, hS.F ht⟩) hS.2.2 dJ1_canEncode_fc78d_12
    · refine lv_iconst (v := 1) hx hb dJ1_canEncode_fc78d_7 (by decide) ?_
      refine lv_goto (tgt := 12) hx hb dJ1_canEncode_fc78d_8 (by decide) ?_
      subst hQe
      exact W.zret (ty := .boolean) (v := 1) hx hb hr (zb_narrow zb_1) (fun t ht hW => ⟨⟨1, (), rfl, ⟨(by unfold F_J1_canEncode_fc78d; rw [if_neg c_1]), zb_1⟩, trivial⟩, hS.F ht⟩) hS.2.2 dJ1_canEncode_fc78d_12
  rw [hHe, hLe] at hgoal
  exact hgoal

def F_J8_newLength_cabcc (a : Nat) (c0 : Nat) : Int32 := nI (a + c0)
set_option maxHeartbeats 4000000 in
set_option maxRecDepth 100000 in
theorem c_J8_newLength_cabcc (l : Launch) (D : va_G) (a : Nat) (b : Nat) (c0 : Nat) (x0 : Int32) (x1 : Int32) (x2 : Int32) (sz : Nat) (hbc : b < c0) (hac : a + c0 ≤ 100000) (hx0 : x0 = nI a) (hx1 : x1 = nI b) (hx2 : x2 = nI c0) : Met l yJ8_newLength_cabcc (Cond.code yJ8_newLength_cabcc cJ8_newLength_cabcc 4 (some .int) :: lwAll) ({ frames := 1, cells := 0, slots := 0, locals := 21 } : Room) (va_Pc [.int x0, .int x1, .int x2] (cPre D (lwTY D) [] sz)) (va_Qi (fun (r : Int32) (_ : Unit) => r = (F_J8_newLength_cabcc a c0)) (fun _ _ => True) (fun q : Nat => sz ≤ q)) 0 0 (fun q : Nat => sz ≤ q) := by
  subst hx0
  subst hx1
  subst hx2
  refine Met.ofW (cc := cJ8_newLength_cabcc) (maxL := 4) (ret := (some .int)) (by decide) rfl ?_
  intro p e s m args below meth c s₁ B hml hv
  obtain ⟨rfl, hsz, hP, hK, hD0, hN, hZ⟩ := hv
  have hx := B.exec
  have hb := B.bytes
  have hr := B.returns
  have hts : ∀ wd ∈ lwAll, wd.before ([.int (nI a), .int (nI b), .int (nI c0)] : List Value).toArray s = true := fun wd h => atoms_spec (ws := (Cond.code yJ8_newLength_cabcc cJ8_newLength_cabcc 4 (some .int) :: lwAll)) B.pre wd (List.mem_cons_of_mem _ h)
  have hown : s.vm.findClass RJ8 = some m.cls := findClass_of_methodNamed B.named
  have hlocks := B.notSynchronized
  subst hsz
  have hD := hD0.self (sz := s.heap.size)
  have hl := lv_entry ([.int (nI a), .int (nI b), .int (nI c0)]) (n := 4) (Nat.le_of_ble_eq_true rfl)
  rw [lg_entry_eq]
  generalize (lg_sl ([.int (nI a), .int (nI b), .int (nI c0)]) ++ List.replicate (4 - (lg_sl ([.int (nI a), .int (nI b), .int (nI c0)])).length) Slot.unset).toArray = ls at hl ⊢
  have hl : lv_has ls 4 [(0, .int (nI a)), (1, .int (nI b)), (2, .int (nI c0))] := hl
  have hS : va_S (fun q : Nat => s.heap.size ≤ q) s.heap s.heap [] := va_S.rf
  generalize hQe : MQ below (va_Qi (fun (r : Int32) (_ : Unit) => r = (F_J8_newLength_cabcc a c0)) (fun _ _ => True) (fun q : Nat => s.heap.size ≤ q)) ([.int (nI a), .int (nI b), .int (nI c0)] : List Value).toArray s 0 0 (fun q : Nat => s.heap.size ≤ q) = Q
  have hP : va_P D vwCl [] s.heap := hP
  obtain ⟨A, hAe⟩ : ∃ A, A = va_A [] s.heap.size := ⟨_, rfl⟩
  rw [← hAe] at hD hZ
  have hA : ∀ q : Nat, s.heap.size ≤ q → A q := fun q h => by rw [hAe]; exact Or.inr h
  obtain ⟨H, hHe⟩ : ∃ H, H = s.heap := ⟨_, rfl⟩
  obtain ⟨locs, hLe⟩ : ∃ L : List Loc, L = [] := ⟨_, rfl⟩
  have hP : va_P D vwCl [] H := by rw [hHe]; exact hP
  have hS : va_S (fun q : Nat => s.heap.size ≤ q) s.heap H locs := by rw [hHe, hLe]; exact hS
  have hgoal : W p l e ({ frames := 1, cells := 0, slots := 0, locals := 21 } : Room) s m ([.int (nI a), .int (nI b), .int (nI c0)] : List Value).toArray below meth c H locs 0 0 Q (F0 m 0 ls []) := by
    clear hHe hLe
    refine lv_iload_n hx hb dJ8_newLength_cabcc_0 rfl (lv_at hl 0 rfl) ?_
    refine lv_iload_n hx hb dJ8_newLength_cabcc_1 rfl (lv_at hl 1 rfl) ?_
    refine lv_iload_n hx hb dJ8_newLength_cabcc_2 rfl (lv_at hl 2 rfl) ?_
    refine va_mmax hx hb (hml.trans hl.1.symm) hown (hts _ q_348) (hts _ q_349) (hts _ q_95) (hts _ q_350) (Nat.le_of_ble_eq_true rfl) (Nat.le_of_ble_eq_true rfl) (Nat.zero_le _) (Nat.zero_le _) dJ8_newLength_cabcc_3 ?_
    rw [show ((if (nI b) < (nI c0) then (nI c0) else (nI b)) : Int32) = nI c0 from (if_pos (nI_lt (by omega) (by omega)))]
    refine lv_iadd hx hb dJ8_newLength_cabcc_6 ?_
    rw [show ((nI a) + (nI c0) : Int32) = nI (a + c0) from (nI_add _ _)]
    refine lv_istore_n (lv' := [(3, .int (nI (a + c0))), (0, .int (nI a)), (1, .int (nI b)), (2, .int (nI c0))]) hx hb dJ8_newLength_cabcc_7 rfl hl (by decide) rfl (fun ls hl => ?_)
    refine lv_iconst (v := 0) hx hb dJ8_newLength_cabcc_8 (by decide) ?_
    refine lv_iload_n hx hb dJ8_newLength_cabcc_9 rfl (lv_at hl 0 rfl) ?_
    refine lv_icmp_ge (tgt := 21) hx hb dJ8_newLength_cabcc_10 (by decide) (fun c_1 => ?_) (fun c_1 => ?_)
    · exact absurd c_1 (nI_nle (by omega) (by omega))
    · refine lv_iload_n hx hb dJ8_newLength_cabcc_13 rfl (lv_at hl 0 rfl) ?_
      refine lv_ldc (v := 2147483639) hx hb hown (hts _ q_351) dJ8_newLength_cabcc_14 ?_
      refine lv_icmp_gt (tgt := 21) hx hb dJ8_newLength_cabcc_16 (by decide) (fun c_2 => ?_) (fun c_2 => ?_)
      · exact absurd c_2 (nI_nlt (a := 2147483639) (b := a + c0) (by omega) (by omega))
      · refine lv_iload_n hx hb dJ8_newLength_cabcc_19 rfl (lv_at hl 0 rfl) ?_
        subst hQe
        exact W.iret (v := nI (a + c0)) hx hb hr (fun t ht hW => ⟨⟨nI (a + c0), (), rfl, (by rfl), trivial⟩, hS.F ht⟩) hS.2.2 dJ8_newLength_cabcc_20
  rw [hHe, hLe] at hgoal
  exact hgoal

def F_J5_newCapacity_0f7a4 (cap : Nat) : Int32 := nI (2 * cap + 2)
set_option maxHeartbeats 4000000 in
set_option maxRecDepth 100000 in
theorem c_J5_newCapacity_0f7a4 (l : Launch) (D : va_G) (hB : Nat) (aY : Nat) (ml : Int32) (n : Nat) (cap : Nat) (fY : Nat → Int32) (x1 : Int32) (sz : Nat) (hcap : cap ≤ 1000) (hx1 : x1 = nI (cap + 1)) : Met l yJ5_newCapacity_0f7a4 (Cond.code yJ5_newCapacity_0f7a4 cJ5_newCapacity_0f7a4 6 (some .int) :: lwAll) ({ frames := 2, cells := 0, slots := 0, locals := 44 } : Room) (va_Pc [.ref hB, .int x1] (cPre D (lwTY D) [(hB, .inr (1, [.ref aY, .int 0, .int ml, .int (nI n)])), (aY, .inl ((D.1 100), cap, .inl fY))] sz)) (va_Qi (fun (r : Int32) (_ : Unit) => r = (F_J5_newCapacity_0f7a4 cap)) (fun _ _ => True) (fun q : Nat => sz ≤ q)) 0 0 (fun q : Nat => sz ≤ q) := by
  subst hx1
  refine Met.ofW (cc := cJ5_newCapacity_0f7a4) (maxL := 6) (ret := (some .int)) (by decide) rfl ?_
  intro p e s m args below meth c s₁ B hml hv
  obtain ⟨rfl, hsz, hP, hK, hD0, hN, hZ⟩ := hv
  have hx := B.exec
  have hb := B.bytes
  have hr := B.returns
  have hts : ∀ wd ∈ lwAll, wd.before ([.ref hB, .int (nI (cap + 1))] : List Value).toArray s = true := fun wd h => atoms_spec (ws := (Cond.code yJ5_newCapacity_0f7a4 cJ5_newCapacity_0f7a4 6 (some .int) :: lwAll)) B.pre wd (List.mem_cons_of_mem _ h)
  have hown : s.vm.findClass RJ5 = some m.cls := findClass_of_methodNamed B.named
  have hlocks := B.notSynchronized
  subst hsz
  have hD := hD0.self (sz := s.heap.size)
  have hl := lv_entry ([.ref hB, .int (nI (cap + 1))]) (n := 6) (Nat.le_of_ble_eq_true rfl)
  rw [lg_entry_eq]
  generalize (lg_sl ([.ref hB, .int (nI (cap + 1))]) ++ List.replicate (6 - (lg_sl ([.ref hB, .int (nI (cap + 1))])).length) Slot.unset).toArray = ls at hl ⊢
  have hl : lv_has ls 6 [(0, .ref hB), (1, .int (nI (cap + 1)))] := hl
  have hS : va_S (fun q : Nat => s.heap.size ≤ q) s.heap s.heap [] := va_S.rf
  generalize hQe : MQ below (va_Qi (fun (r : Int32) (_ : Unit) => r = (F_J5_newCapacity_0f7a4 cap)) (fun _ _ => True) (fun q : Nat => s.heap.size ≤ q)) ([.ref hB, .int (nI (cap + 1))] : List Value).toArray s 0 0 (fun q : Nat => s.heap.size ≤ q) = Q
  have hP : va_P D vwCl [(hB, .inr (1, [.ref aY, .int 0, .int ml, .int (nI n)])), (aY, .inl ((D.1 100), cap, .inl fY))] s.heap := hP
  obtain ⟨A, hAe⟩ : ∃ A, A = va_A [(hB, .inr (1, [.ref aY, .int 0, .int ml, .int (nI n)])), (aY, .inl ((D.1 100), cap, .inl fY))] s.heap.size := ⟨_, rfl⟩
  rw [← hAe] at hD hZ
  have hA : ∀ q : Nat, s.heap.size ≤ q → A q := fun q h => by rw [hAe]; exact Or.inr h
  obtain ⟨H, hHe⟩ : ∃ H, H = s.heap := ⟨_, rfl⟩
  obtain ⟨locs, hLe⟩ : ∃ L : List Loc, L = [] := ⟨_, rfl⟩
  have hP : va_P D vwCl [(hB, .inr (1, [.ref aY, .int 0, .int ml, .int (nI n)])), (aY, .inl ((D.1 100), cap, .inl fY))] H := by rw [hHe]; exact hP
  have hS : va_S (fun q : Nat => s.heap.size ≤ q) s.heap H locs := by rw [hHe, hLe]; exact hS
  have hgoal : W p l e ({ frames := 2, cells := 0, slots := 0, locals := 44 } : Room) s m ([.ref hB, .int (nI (cap + 1))] : List Value).toArray below meth c H locs 0 0 Q (F0 m 0 ls []) := by
    clear hHe hLe
    refine lv_aload_n hx hb dJ5_newCapacity_0f7a4_0 rfl (lv_at hl 0 rfl) ?_
    refine va_get (D := D) (ci := 1) (v := .ref aY) (C := RJ4) (T := TJ4) (N := 4) hx hb hts in_J4 hown hK hP 0 rfl rfl 0 (by decide) (hts _ q_239) (fun _ h9 => h9) rfl dJ5_newCapacity_0f7a4_1 ?_
    refine va_alen hx hb hK hP 1 0 rfl rfl (v := nI cap) rfl dJ5_newCapacity_0f7a4_4 ?_
    refine lv_istore_n (lv' := [(2, .int (nI cap)), (0, .ref hB), (1, .int (nI (cap + 1)))]) hx hb dJ5_newCapacity_0f7a4_5 rfl hl (by decide) rfl (fun ls hl => ?_)
    refine lv_iload_n hx hb dJ5_newCapacity_0f7a4_6 rfl (lv_at hl 2 rfl) ?_
    refine lv_aload_n hx hb dJ5_newCapacity_0f7a4_7 rfl (lv_at hl 1 rfl) ?_
    refine va_get (D := D) (ci := 1) (v := .int 0) (C := RJ4) (T := TJ4) (N := 4) hx hb hts in_J4 hown hK hP 0 rfl rfl 1 (by decide) (hts _ q_240) (fun _ h9 => h9) rfl dJ5_newCapacity_0f7a4_8 ?_
    refine lv_ishl hx hb dJ5_newCapacity_0f7a4_11 ?_
    rw [show ((nI (cap + 1)) <<< ((0 : Int32) &&& 31) : Int32) = nI (cap + 1) from (sb_shl0 _)]
    refine lv_istore_n (lv' := [(3, .int (nI (cap + 1))), (2, .int (nI cap)), (0, .ref hB), (1, .int (nI (cap + 1)))]) hx hb dJ5_newCapacity_0f7a4_12 rfl hl (by decide) rfl (fun ls hl => ?_)
    refine lv_iload_n hx hb dJ5_newCapacity_0f7a4_13 rfl (lv_at hl 0 rfl) ?_
    refine lv_iload_n hx hb dJ5_newCapacity_0f7a4_14 rfl (lv_at hl 1 rfl) ?_
    refine lv_isub hx hb dJ5_newCapacity_0f7a4_15 ?_
    rw [show ((nI (cap + 1)) - (nI cap) : Int32) = nI 1 from ((pk_sub (by omega)).trans (congrArg nI (by omega)))]
    refine lv_istore (lv' := [(4, .int (nI 1)), (3, .int (nI (cap + 1))), (2, .int (nI cap)), (0, .ref hB), (1, .int (nI (cap + 1)))]) hx hb dJ5_newCapacity_0f7a4_16 hl (by decide) rfl (fun ls hl => ?_)
    refine lv_iload_n hx hb dJ5_newCapacity_0f7a4_18 rfl (lv_at hl 2 rfl) ?_
    refine lv_iload hx hb dJ5_newCapacity_0f7a4_19 (lv_at hl 0 rfl) ?_
    refine lv_iload_n hx hb dJ5_newCapacity_0f7a4_21 rfl (lv_at hl 2 rfl) ?_
    refine lv_iconst (v := 2) hx hb dJ5_newCapacity_0f7a4_22 (by decide) ?_
    refine lv_aload_n hx hb dJ5_newCapacity_0f7a4_23 rfl (lv_at hl 3 rfl) ?_
    refine va_get (D := D) (ci := 1) (v := .int 0) (C := RJ4) (T := TJ4) (N := 4) hx hb hts in_J4 hown hK hP 0 rfl rfl 1 (by decide) (hts _ q_240) (fun _ h9 => h9) rfl dJ5_newCapacity_0f7a4_24 ?_
    refine lv_ishl hx hb dJ5_newCapacity_0f7a4_27 ?_
    rw [show ((2 : Int32) <<< ((0 : Int32) &&& 31) : Int32) = 2 from (sb_shl0 2)]
    refine lv_iadd hx hb dJ5_newCapacity_0f7a4_28 ?_
    rw [show ((nI cap) + 2 : Int32) = nI (cap + 2) from (nI_add cap 2)]
    have hPc := hP.sub (ws' := []) [] rfl
    have hDc := hD.sub (ws' := []) [] (by decide) rfl
    have hFc := va_free (wc := []) hD (va_S_up hS hA) hA [] rfl
    refine va_calli (va_runS (As := [.int (nI cap), .int (nI 1), .int (nI (cap + 2))]) (rest := []) ⟨hx, hb, hml, hown, hts⟩ (c_J8_newLength_cabcc l D cap 1 (cap + 2) (nI cap) (nI 1) (nI (cap + 2)) H.size (show 1 < (cap + 2) from (by omega)) (show cap + (cap + 2) ≤ 100000 from (by omega)) (show (nI cap) = nI cap from rfl) (show (nI 1) = nI 1 from rfl) (show (nI (cap + 2)) = nI (cap + 2) from rfl)) ⟨callB_of 3 hts (gi_sub q_347) rfl rfl rfl (hts _ q_94) (hts _ q_345) (by decide +kernel) ⟨Nat.le_of_ble_eq_true rfl, Nat.le_of_ble_eq_true rfl⟩, (hts _ q_346)⟩ ⟨cPre_blind, cPre_mk hPc hK hDc hN (lwZ_for hZ (va_S_up hS hA) hFc)⟩ rfl rfl hl.1 rfl (lv_room (Nat.le_of_ble_eq_true rfl)) dJ5_newCapacity_0f7a4_29 ⟨(Nat.le_of_ble_eq_true rfl), (Nat.le_of_ble_eq_true rfl)⟩) hS (fun q h1 h2 => absurd h2 (Nat.not_le.mpr h1)) (fun q h => Nat.le_trans hS.1 h) (fun r_29 u t H1 locs ht hvm hw hBk hz1 hk1 hS => ?_)
    have hP := va_P_ro hP hk1
    subst hw
    clear hBk hvm ht u hz1 hk1
    clear hPc hDc hFc; clear t
    generalize H1 = H at hP hS ⊢
    rw [show (F_J8_newLength_cabcc cap (cap + 2) : Int32) = nI (2 * cap + 2) from (congrArg nI (by omega))]
    refine lv_istore (lv' := [(5, .int (nI (2 * cap + 2))), (4, .int (nI 1)), (3, .int (nI (cap + 1))), (2, .int (nI cap)), (0, .ref hB), (1, .int (nI (cap + 1)))]) hx hb dJ5_newCapacity_0f7a4_32 hl (by decide) rfl (fun ls hl => ?_)
    refine lv_iload hx hb dJ5_newCapacity_0f7a4_34 (lv_at hl 0 rfl) ?_
    refine lv_ldc (v := 2147483647) hx hb hown (hts _ q_355) dJ5_newCapacity_0f7a4_36 ?_
    refine lv_icmp_ne (tgt := 51) hx hb dJ5_newCapacity_0f7a4_38 (by decide) (fun c_1 => ?_) (fun c_1 => ?_)
    · refine lv_iload hx hb dJ5_newCapacity_0f7a4_51 (lv_at hl 0 rfl) ?_
      refine lv_aload_n hx hb dJ5_newCapacity_0f7a4_53 rfl (lv_at hl 4 rfl) ?_
      refine va_get (D := D) (ci := 1) (v := .int 0) (C := RJ4) (T := TJ4) (N := 4) hx hb hts in_J4 hown hK hP 0 rfl rfl 1 (by decide) (hts _ q_240) (fun _ h9 => h9) rfl dJ5_newCapacity_0f7a4_54 ?_
      refine lv_ishr hx hb dJ5_newCapacity_0f7a4_57 ?_
      rw [show ((nI (2 * cap + 2)) >>> ((0 : Int32) &&& 31) : Int32) = nI (2 * cap + 2) from (sb_shr0 _)]
      subst hQe
      exact W.iret (v := nI (2 * cap + 2)) hx hb hr (fun t ht hW => ⟨⟨nI (2 * cap + 2), (), rfl, (by rfl), trivial⟩, hS.F ht⟩) hS.2.2 dJ5_newCapacity_0f7a4_58
    · exact absurd c_1 (fun h => absurd ((nI_eq (a := 2 * cap + 2) (b := 2147483647) (by omega) (by omega)).mp h) (by omega))
  rw [hHe, hLe] at hgoal
  exact hgoal


set_option maxHeartbeats 4000000 in
set_option maxRecDepth 100000 in
theorem c_J7_copyOf_9075b (l : Launch) (D : va_G) (aY : Nat) (cap : Nat) (fY : Nat → Int32) (q : Nat) (x1 : Int32) (sz : Nat) (hq : cap < q) (hq2 : q ≤ 100000) (hfit : ∀ j, fits .byte (.int (fY j)) = true) (hx1 : x1 = nI q) : Met l yJ7_copyOf_9075b (Cond.code yJ7_copyOf_9075b cJ7_copyOf_9075b 3 (some (.array .byte)) :: lwAll) ({ frames := 1, cells := 1, slots := q, locals := 60 } : Room) (va_Pc [.ref aY, .int x1] (cPre D (lwTY D) [(aY, .inl ((D.1 100), cap, .inl fY))] sz)) (va_Qr (fun (_ : Unit) => True) (fun (_ : Unit) (ra : Nat) t => va_P D vwCl [(aY, .inl ((D.1 100), cap, .inl fY)), (ra, .inl ((D.1 100), q, .inl (va_cpy fY (fun _ => 0) 0 0 cap)))] t.heap ∧ va_D (va_A [(aY, .inl ((D.1 100), cap, .inl fY))] sz) [(aY, .inl ((D.1 100), cap, .inl fY)), (ra, .inl ((D.1 100), q, .inl (va_cpy fY (fun _ => 0) 0 0 cap)))]) (va_A [(aY, .inl ((D.1 100), cap, .inl fY))] sz)) 1 q (va_A [(aY, .inl ((D.1 100), cap, .inl fY))] sz) := by
  subst hx1
  refine Met.ofW (cc := cJ7_copyOf_9075b) (maxL := 3) (ret := (some (.array .byte))) (by decide) rfl ?_
  intro p e s m args below meth c s₁ B hml hv
  obtain ⟨rfl, hsz, hP, hK, hD0, hN, hZ⟩ := hv
  have hx := B.exec
  have hb := B.bytes
  have hr := B.returns
  have hts : ∀ wd ∈ lwAll, wd.before ([.ref aY, .int (nI q)] : List Value).toArray s = true := fun wd h => atoms_spec (ws := (Cond.code yJ7_copyOf_9075b cJ7_copyOf_9075b 3 (some (.array .byte)) :: lwAll)) B.pre wd (List.mem_cons_of_mem _ h)
  have hown : s.vm.findClass RJ7 = some m.cls := findClass_of_methodNamed B.named
  have hlocks := B.notSynchronized
  subst hsz
  have hD := hD0.self (sz := s.heap.size)
  have hl := lv_entry ([.ref aY, .int (nI q)]) (n := 3) (Nat.le_of_ble_eq_true rfl)
  rw [lg_entry_eq]
  generalize (lg_sl ([.ref aY, .int (nI q)]) ++ List.replicate (3 - (lg_sl ([.ref aY, .int (nI q)])).length) Slot.unset).toArray = ls at hl ⊢
  have hl : lv_has ls 3 [(0, .ref aY), (1, .int (nI q))] := hl
  have hS : va_S (va_A [(aY, .inl ((D.1 100), cap, .inl fY))] s.heap.size) s.heap s.heap [] := va_S.rf
  generalize hQe : MQ below (va_Qr (fun (_ : Unit) => True) (fun (_ : Unit) (ra : Nat) t => va_P D vwCl [(aY, .inl ((D.1 100), cap, .inl fY)), (ra, .inl ((D.1 100), q, .inl (va_cpy fY (fun _ => 0) 0 0 cap)))] t.heap ∧ va_D (va_A [(aY, .inl ((D.1 100), cap, .inl fY))] s.heap.size) [(aY, .inl ((D.1 100), cap, .inl fY)), (ra, .inl ((D.1 100), q, .inl (va_cpy fY (fun _ => 0) 0 0 cap)))]) (va_A [(aY, .inl ((D.1 100), cap, .inl fY))] s.heap.size)) ([.ref aY, .int (nI q)] : List Value).toArray s 1 q (va_A [(aY, .inl ((D.1 100), cap, .inl fY))] s.heap.size) = Q
  have hP : va_P D vwCl [(aY, .inl ((D.1 100), cap, .inl fY))] s.heap := hP
  obtain ⟨A, hAe⟩ : ∃ A, A = va_A [(aY, .inl ((D.1 100), cap, .inl fY))] s.heap.size := ⟨_, rfl⟩
  rw [← hAe] at hD hZ hS
  have hA : ∀ q : Nat, s.heap.size ≤ q → A q := fun q h => by rw [hAe]; exact Or.inr h
  obtain ⟨H, hHe⟩ : ∃ H, H = s.heap := ⟨_, rfl⟩
  obtain ⟨locs, hLe⟩ : ∃ L : List Loc, L = [] := ⟨_, rfl⟩
  have hP : va_P D vwCl [(aY, .inl ((D.1 100), cap, .inl fY))] H := by rw [hHe]; exact hP
  have hS : va_S A s.heap H locs := by rw [hHe, hLe]; exact hS
  have hgoal : W p l e ({ frames := 1, cells := 1, slots := q, locals := 60 } : Room) s m ([.ref aY, .int (nI q)] : List Value).toArray below meth c H locs 0 0 Q (F0 m 0 ls []) := by
    clear hHe hLe
    refine lv_iload_n hx hb dJ7_copyOf_9075b_0 rfl (lv_at hl 1 rfl) ?_
    refine lv_aload_n hx hb dJ7_copyOf_9075b_1 rfl (lv_at hl 0 rfl) ?_
    refine va_alen hx hb hK hP 0 0 rfl rfl (v := nI cap) rfl dJ7_copyOf_9075b_2 ?_
    refine lv_icmp_ne (tgt := 14) hx hb dJ7_copyOf_9075b_3 (by decide) (fun c_1 => ?_) (fun c_1 => ?_)
    · refine lv_iload_n hx hb dJ7_copyOf_9075b_14 rfl (lv_at hl 1 rfl) ?_
      refine va_newB hx hb (hts _ q_253) hK hP hD hS hA (N' := q) (nI_pos (by omega)) (nI_clamp (by omega)) (by omega) (show 0 + 1 ≤ 1 from (by omega)) (show 0 + q ≤ q from (by omega)) dJ7_copyOf_9075b_15 (fun y_15 H hqe hP hD hS => ?_)
      clear hqe
      have hP : va_P D vwCl [(aY, .inl ((D.1 100), cap, .inl fY)), (y_15, .inl ((D.1 100), q, .inl (fun _ => 0)))] H := hP
      have hD : va_D A [(aY, .inl ((D.1 100), cap, .inl fY)), (y_15, .inl ((D.1 100), q, .inl (fun _ => 0)))] := hD
      refine lv_astore_n (lv' := [(2, .ref y_15), (0, .ref aY), (1, .int (nI q))]) hx hb dJ7_copyOf_9075b_17 rfl hl (by decide) rfl (fun ls hl => ?_)
      refine lv_aload_n hx hb dJ7_copyOf_9075b_18 rfl (lv_at hl 1 rfl) ?_
      refine lv_iconst (v := 0) hx hb dJ7_copyOf_9075b_19 (by decide) ?_
      refine lv_aload_n hx hb dJ7_copyOf_9075b_20 rfl (lv_at hl 0 rfl) ?_
      refine lv_iconst (v := 0) hx hb dJ7_copyOf_9075b_21 (by decide) ?_
      refine lv_aload_n hx hb dJ7_copyOf_9075b_22 rfl (lv_at hl 1 rfl) ?_
      refine va_alen hx hb hK hP 0 0 rfl rfl (v := nI cap) rfl dJ7_copyOf_9075b_23 ?_
      refine lv_iload_n hx hb dJ7_copyOf_9075b_24 rfl (lv_at hl 2 rfl) ?_
      refine va_mmin hx hb (hml.trans hl.1.symm) hown (hts _ q_366) (hts _ q_367) (hts _ q_95) (hts _ q_368) (Nat.le_of_ble_eq_true rfl) (Nat.le_of_ble_eq_true rfl) (show 0 + 1 ≤ 1 from (by omega)) (show 0 + q ≤ q from (by omega)) dJ7_copyOf_9075b_25 ?_
      rw [show ((if (nI q) < (nI cap) then (nI q) else (nI cap)) : Int32) = nI cap from (if_neg (nI_nlt (by omega) (by omega)))]
      refine va_copyi hx hb (hml.trans hl.1.symm) hown (hts _ q_369) (hts _ q_371) (hts _ q_370) (hts _ q_97) hK hP hD hS 0 1 0 0 rfl rfl rfl rfl rfl (by decide) (by decide) (nI_pos (by omega)) (by rw [sb_cl0, nI_clamp (by omega)]; omega) (by rw [sb_cl0, nI_clamp (by omega)]; omega) (fun i _ => hfit _) (Nat.le_of_ble_eq_true rfl) (show (List.map (fun v => Value.category v) ([] : List Value)).sum + (nativeFrameWords "java/lang/System" "arraycopy" 5 + 11) ≤ 60 from by decide +kernel) dJ7_copyOf_9075b_28 (fun H locs hP hD hS => ?_)
      have hP : va_P D vwCl [(aY, .inl ((D.1 100), cap, .inl fY)), (y_15, .inl ((D.1 100), q, .inl (va_cpy fY (fun _ => 0) (0 : Int32).toNatClampNeg (0 : Int32).toNatClampNeg (nI cap).toNatClampNeg)))] H := hP
      have hD : va_D A [(aY, .inl ((D.1 100), cap, .inl fY)), (y_15, .inl ((D.1 100), q, .inl (va_cpy fY (fun _ => 0) (0 : Int32).toNatClampNeg (0 : Int32).toNatClampNeg (nI cap).toNatClampNeg)))] := hD
      have e0 : (0 : Int32).toNatClampNeg = 0 := sb_cl0
      have e1 : (nI cap).toNatClampNeg = cap := nI_clamp (by omega)
      rw [e0, e1] at hP hD
      refine lv_aload_n hx hb dJ7_copyOf_9075b_31 rfl (lv_at hl 0 rfl) ?_
      subst hQe
      subst hAe
      refine W.widen (k := 1) (n := q) (by omega) (by omega) ?_
      have hP9 := hP.sub (ws' := [(aY, .inl ((D.1 100), cap, .inl fY)), (y_15, .inl ((D.1 100), q, .inl (va_cpy fY (fun _ => 0) 0 0 cap)))]) [0, 1] rfl
      have hD9 := hD.sub (ws' := [(aY, .inl ((D.1 100), cap, .inl fY)), (y_15, .inl ((D.1 100), q, .inl (va_cpy fY (fun _ => 0) 0 0 cap)))]) [0, 1] (by decide) rfl
      exact W.aret (v := .ref y_15) hx hb hr (by first | exact Or.inl ⟨_, rfl⟩ | exact Or.inr ⟨_, rfl⟩) (Or.inr ⟨_, rfl⟩) (fun t ht hW => ⟨⟨(), y_15, rfl, trivial, (by rw [ht]; exact hP9), (hD9)⟩, hS.F ht⟩) hS.2.2 dJ7_copyOf_9075b_32
    · exact absurd c_1 (fun h => absurd ((nI_eq (by omega) (by omega)).mp h) (by omega))
  rw [hHe, hLe] at hgoal
  exact hgoal


set_option maxHeartbeats 4000000 in
set_option maxRecDepth 100000 in
theorem c_J5_ensureCapacityInternal_d00dfA (l : Launch) (D : va_G) (hB : Nat) (aY : Nat) (ml : Int32) (n : Nat) (cap : Nat) (fY : Nat → Int32) (q : Nat) (x1 : Int32) (sz : Nat) (hq : q ≤ cap) (hcap : cap ≤ 1000) (hx1 : x1 = nI q) : Met l yJ5_ensureCapacityInternal_d00df (Cond.code yJ5_ensureCapacityInternal_d00df cJ5_ensureCapacityInternal_d00df 3 none :: lwAll) ({ frames := 0, cells := 0, slots := 0, locals := 0 } : Room) (va_Pc [.ref hB, .int x1] (cPre D (lwTY D) [(hB, .inr (1, [.ref aY, .int 0, .int ml, .int (nI n)])), (aY, .inl ((D.1 100), cap, .inl fY))] sz)) (va_Qv (fun (_ : Unit) => True) (fun _ _ => True) (fun q : Nat => sz ≤ q)) 0 0 (fun q : Nat => sz ≤ q) := by
  subst hx1
  refine Met.ofW (cc := cJ5_ensureCapacityInternal_d00df) (maxL := 3) (ret := none) (by decide) rfl ?_
  intro p e s m args below meth c s₁ B hml hv
  obtain ⟨rfl, hsz, hP, hK, hD0, hN, hZ⟩ := hv
  have hx := B.exec
  have hb := B.bytes
  have hr := B.returns
  have hts : ∀ wd ∈ lwAll, wd.before ([.ref hB, .int (nI q)] : List Value).toArray s = true := fun wd h => atoms_spec (ws := (Cond.code yJ5_ensureCapacityInternal_d00df cJ5_ensureCapacityInternal_d00df 3 none :: lwAll)) B.pre wd (List.mem_cons_of_mem _ h)
  have hown : s.vm.findClass RJ5 = some m.cls := findClass_of_methodNamed B.named
  have hlocks := B.notSynchronized
  subst hsz
  have hD := hD0.self (sz := s.heap.size)
  have hl := lv_entry ([.ref hB, .int (nI q)]) (n := 3) (Nat.le_of_ble_eq_true rfl)
  rw [lg_entry_eq]
  generalize (lg_sl ([.ref hB, .int (nI q)]) ++ List.replicate (3 - (lg_sl ([.ref hB, .int (nI q)])).length) Slot.unset).toArray = ls at hl ⊢
  have hl : lv_has ls 3 [(0, .ref hB), (1, .int (nI q))] := hl
  have hS : va_S (fun q : Nat => s.heap.size ≤ q) s.heap s.heap [] := va_S.rf
  generalize hQe : MQ below (va_Qv (fun (_ : Unit) => True) (fun _ _ => True) (fun q : Nat => s.heap.size ≤ q)) ([.ref hB, .int (nI q)] : List Value).toArray s 0 0 (fun q : Nat => s.heap.size ≤ q) = Q
  have hP : va_P D vwCl [(hB, .inr (1, [.ref aY, .int 0, .int ml, .int (nI n)])), (aY, .inl ((D.1 100), cap, .inl fY))] s.heap := hP
  obtain ⟨A, hAe⟩ : ∃ A, A = va_A [(hB, .inr (1, [.ref aY, .int 0, .int ml, .int (nI n)])), (aY, .inl ((D.1 100), cap, .inl fY))] s.heap.size := ⟨_, rfl⟩
  rw [← hAe] at hD hZ
  have hA : ∀ q : Nat, s.heap.size ≤ q → A q := fun q h => by rw [hAe]; exact Or.inr h
  obtain ⟨H, hHe⟩ : ∃ H, H = s.heap := ⟨_, rfl⟩
  obtain ⟨locs, hLe⟩ : ∃ L : List Loc, L = [] := ⟨_, rfl⟩
  have hP : va_P D vwCl [(hB, .inr (1, [.ref aY, .int 0, .int ml, .int (nI n)])), (aY, .inl ((D.1 100), cap, .inl fY))] H := by rw [hHe]; exact hP
  have hS : va_S (fun q : Nat => s.heap.size ≤ q) s.heap H locs := by rw [hHe, hLe]; exact hS
  have hgoal : W p l e ({ frames := 0, cells := 0, slots := 0, locals := 0 } : Room) s m ([.ref hB, .int (nI q)] : List Value).toArray below meth c H locs 0 0 Q (F0 m 0 ls []) := by
    clear hHe hLe
    refine lv_aload_n hx hb dJ5_ensureCapacityInternal_d00df_0 rfl (lv_at hl 0 rfl) ?_
    refine va_get (D := D) (ci := 1) (v := .ref aY) (C := RJ4) (T := TJ4) (N := 4) hx hb hts in_J4 hown hK hP 0 rfl rfl 0 (by decide) (hts _ q_239) (fun _ h9 => h9) rfl dJ5_ensureCapacityInternal_d00df_1 ?_
    refine va_alen hx hb hK hP 1 0 rfl rfl (v := nI cap) rfl dJ5_ensureCapacityInternal_d00df_4 ?_
    refine lv_aload_n hx hb dJ5_ensureCapacityInternal_d00df_5 rfl (lv_at hl 0 rfl) ?_
    refine va_get (D := D) (ci := 1) (v := .int 0) (C := RJ4) (T := TJ4) (N := 4) hx hb hts in_J4 hown hK hP 0 rfl rfl 1 (by decide) (hts _ q_240) (fun _ h9 => h9) rfl dJ5_ensureCapacityInternal_d00df_6 ?_
    refine lv_ishr hx hb dJ5_ensureCapacityInternal_d00df_9 ?_
    rw [show ((nI cap) >>> ((0 : Int32) &&& 31) : Int32) = nI cap from (sb_shr0 _)]
    refine lv_istore_n (lv' := [(2, .int (nI cap)), (0, .ref hB), (1, .int (nI q))]) hx hb dJ5_ensureCapacityInternal_d00df_10 rfl hl (by decide) rfl (fun ls hl => ?_)
    refine lv_iload_n hx hb dJ5_ensureCapacityInternal_d00df_11 rfl (lv_at hl 2 rfl) ?_
    refine lv_iload_n hx hb dJ5_ensureCapacityInternal_d00df_12 rfl (lv_at hl 0 rfl) ?_
    refine lv_isub hx hb dJ5_ensureCapacityInternal_d00df_13 ?_
    refine lv_if_le (tgt := 38) hx hb dJ5_ensureCapacityInternal_d00df_14 (by decide) (fun c_1 => ?_) (fun c_1 => ?_)
    · subst hQe
      exact W.vret hx hb hr (fun t ht hW => ⟨⟨(), rfl, trivial, trivial⟩, hS.F ht⟩) hS.2.2 dJ5_ensureCapacityInternal_d00df_38
    · exact absurd (sub_le0 (by omega) (by omega)) c_1
  rw [hHe, hLe] at hgoal
  exact hgoal

def F_J5_ensureCapacityInternal_d00dfB (cap : Nat) (fY : Nat → Int32) : Nat × (Nat → Int32) := ((2 * cap + 2), va_cpy fY (fun _ => 0) 0 0 cap)
set_option maxHeartbeats 4000000 in
set_option maxRecDepth 100000 in
theorem c_J5_ensureCapacityInternal_d00dfB (l : Launch) (D : va_G) (hB : Nat) (aY : Nat) (ml : Int32) (n : Nat) (cap : Nat) (fY : Nat → Int32) (x1 : Int32) (sz : Nat) (hcap : cap ≤ 1000) (hfit : ∀ j, fits .byte (.int (fY j)) = true) (hx1 : x1 = nI (cap + 1)) : Met l yJ5_ensureCapacityInternal_d00df (Cond.code yJ5_ensureCapacityInternal_d00df cJ5_ensureCapacityInternal_d00df 3 none :: lwAll) ({ frames := 3, cells := 1, slots := 2 * cap + 2, locals := 82 } : Room) (va_Pc [.ref hB, .int x1] (cPre D (lwTY D) [(hB, .inr (1, [.ref aY, .int 0, .int ml, .int (nI n)])), (aY, .inl ((D.1 100), cap, .inl fY))] sz)) (va_Qv (fun (_ : Nat) => True) (fun (aY2 : Nat) t => va_P D vwCl [(hB, .inr (1, [.ref aY2, .int 0, .int ml, .int (nI n)])), (aY2, .inl ((D.1 100), ((F_J5_ensureCapacityInternal_d00dfB cap fY).1), .inl ((F_J5_ensureCapacityInternal_d00dfB cap fY).2)))] t.heap ∧ va_D (va_A [(hB, .inr (1, [.ref aY, .int 0, .int ml, .int (nI n)])), (aY, .inl ((D.1 100), cap, .inl fY))] sz) [(hB, .inr (1, [.ref aY2, .int 0, .int ml, .int (nI n)])), (aY2, .inl ((D.1 100), ((F_J5_ensureCapacityInternal_d00dfB cap fY).1), .inl ((F_J5_ensureCapacityInternal_d00dfB cap fY).2)))]) (va_A [(hB, .inr (1, [.ref aY, .int 0, .int ml, .int (nI n)])), (aY, .inl ((D.1 100), cap, .inl fY))] sz)) 1 (2 * cap + 2) (va_A [(hB, .inr (1, [.ref aY, .int 0, .int ml, .int (nI n)])), (aY, .inl ((D.1 100), cap, .inl fY))] sz) := by
  subst hx1
  refine Met.ofW (cc := cJ5_ensureCapacityInternal_d00df) (maxL := 3) (ret := none) (by decide) rfl ?_
  intro p e s m args below meth c s₁ B hml hv
  obtain ⟨rfl, hsz, hP, hK, hD0, hN, hZ⟩ := hv
  have hx := B.exec
  have hb := B.bytes
  have hr := B.returns
  have hts : ∀ wd ∈ lwAll, wd.before ([.ref hB, .int (nI (cap + 1))] : List Value).toArray s = true := fun wd h => atoms_spec (ws := (Cond.code yJ5_ensureCapacityInternal_d00df cJ5_ensureCapacityInternal_d00df 3 none :: lwAll)) B.pre wd (List.mem_cons_of_mem _ h)
  have hown : s.vm.findClass RJ5 = some m.cls := findClass_of_methodNamed B.named
  have hlocks := B.notSynchronized
  subst hsz
  have hD := hD0.self (sz := s.heap.size)
  have hl := lv_entry ([.ref hB, .int (nI (cap + 1))]) (n := 3) (Nat.le_of_ble_eq_true rfl)
  rw [lg_entry_eq]
  generalize (lg_sl ([.ref hB, .int (nI (cap + 1))]) ++ List.replicate (3 - (lg_sl ([.ref hB, .int (nI (cap + 1))])).length) Slot.unset).toArray = ls at hl ⊢
  have hl : lv_has ls 3 [(0, .ref hB), (1, .int (nI (cap + 1)))] := hl
  have hS : va_S (va_A [(hB, .inr (1, [.ref aY, .int 0, .int ml, .int (nI n)])), (aY, .inl ((D.1 100), cap, .inl fY))] s.heap.size) s.heap s.heap [] := va_S.rf
  generalize hQe : MQ below (va_Qv (fun (_ : Nat) => True) (fun (aY2 : Nat) t => va_P D vwCl [(hB, .inr (1, [.ref aY2, .int 0, .int ml, .int (nI n)])), (aY2, .inl ((D.1 100), ((F_J5_ensureCapacityInternal_d00dfB cap fY).1), .inl ((F_J5_ensureCapacityInternal_d00dfB cap fY).2)))] t.heap ∧ va_D (va_A [(hB, .inr (1, [.ref aY, .int 0, .int ml, .int (nI n)])), (aY, .inl ((D.1 100), cap, .inl fY))] s.heap.size) [(hB, .inr (1, [.ref aY2, .int 0, .int ml, .int (nI n)])), (aY2, .inl ((D.1 100), ((F_J5_ensureCapacityInternal_d00dfB cap fY).1), .inl ((F_J5_ensureCapacityInternal_d00dfB cap fY).2)))]) (va_A [(hB, .inr (1, [.ref aY, .int 0, .int ml, .int (nI n)])), (aY, .inl ((D.1 100), cap, .inl fY))] s.heap.size)) ([.ref hB, .int (nI (cap + 1))] : List Value).toArray s 1 (2 * cap + 2) (va_A [(hB, .inr (1, [.ref aY, .int 0, .int ml, .int (nI n)])), (aY, .inl ((D.1 100), cap, .inl fY))] s.heap.size) = Q
  have hP : va_P D vwCl [(hB, .inr (1, [.ref aY, .int 0, .int ml, .int (nI n)])), (aY, .inl ((D.1 100), cap, .inl fY))] s.heap := hP
  obtain ⟨A, hAe⟩ : ∃ A, A = va_A [(hB, .inr (1, [.ref aY, .int 0, .int ml, .int (nI n)])), (aY, .inl ((D.1 100), cap, .inl fY))] s.heap.size := ⟨_, rfl⟩
  rw [← hAe] at hD hZ hS
  have hA : ∀ q : Nat, s.heap.size ≤ q → A q := fun q h => by rw [hAe]; exact Or.inr h
  obtain ⟨H, hHe⟩ : ∃ H, H = s.heap := ⟨_, rfl⟩
  obtain ⟨locs, hLe⟩ : ∃ L : List Loc, L = [] := ⟨_, rfl⟩
  have hP : va_P D vwCl [(hB, .inr (1, [.ref aY, .int 0, .int ml, .int (nI n)])), (aY, .inl ((D.1 100), cap, .inl fY))] H := by rw [hHe]; exact hP
  have hS : va_S A s.heap H locs := by rw [hHe, hLe]; exact hS
  have hgoal : W p l e ({ frames := 3, cells := 1, slots := 2 * cap + 2, locals := 82 } : Room) s m ([.ref hB, .int (nI (cap + 1))] : List Value).toArray below meth c H locs 0 0 Q (F0 m 0 ls []) := by
    clear hHe hLe
    refine lv_aload_n hx hb dJ5_ensureCapacityInternal_d00df_0 rfl (lv_at hl 0 rfl) ?_
    refine va_get (D := D) (ci := 1) (v := .ref aY) (C := RJ4) (T := TJ4) (N := 4) hx hb hts in_J4 hown hK hP 0 rfl rfl 0 (by decide) (hts _ q_239) (fun _ h9 => h9) rfl dJ5_ensureCapacityInternal_d00df_1 ?_
    refine va_alen hx hb hK hP 1 0 rfl rfl (v := nI cap) rfl dJ5_ensureCapacityInternal_d00df_4 ?_
    refine lv_aload_n hx hb dJ5_ensureCapacityInternal_d00df_5 rfl (lv_at hl 0 rfl) ?_
    refine va_get (D := D) (ci := 1) (v := .int 0) (C := RJ4) (T := TJ4) (N := 4) hx hb hts in_J4 hown hK hP 0 rfl rfl 1 (by decide) (hts _ q_240) (fun _ h9 => h9) rfl dJ5_ensureCapacityInternal_d00df_6 ?_
    refine lv_ishr hx hb dJ5_ensureCapacityInternal_d00df_9 ?_
    rw [show ((nI cap) >>> ((0 : Int32) &&& 31) : Int32) = nI cap from (sb_shr0 _)]
    refine lv_istore_n (lv' := [(2, .int (nI cap)), (0, .ref hB), (1, .int (nI (cap + 1)))]) hx hb dJ5_ensureCapacityInternal_d00df_10 rfl hl (by decide) rfl (fun ls hl => ?_)
    refine lv_iload_n hx hb dJ5_ensureCapacityInternal_d00df_11 rfl (lv_at hl 2 rfl) ?_
    refine lv_iload_n hx hb dJ5_ensureCapacityInternal_d00df_12 rfl (lv_at hl 0 rfl) ?_
    refine lv_isub hx hb dJ5_ensureCapacityInternal_d00df_13 ?_
    refine lv_if_le (tgt := 38) hx hb dJ5_ensureCapacityInternal_d00df_14 (by decide) (fun c_1 => ?_) (fun c_1 => ?_)
    · exact absurd c_1 (sub_gt0 (by omega) (by omega))
    · refine lv_aload_n hx hb dJ5_ensureCapacityInternal_d00df_17 rfl (lv_at hl 1 rfl) ?_
      refine lv_aload_n hx hb dJ5_ensureCapacityInternal_d00df_18 rfl (lv_at hl 1 rfl) ?_
      refine va_get (D := D) (ci := 1) (v := .ref aY) (C := RJ4) (T := TJ4) (N := 4) hx hb hts in_J4 hown hK hP 0 rfl rfl 0 (by decide) (hts _ q_239) (fun _ h9 => h9) rfl dJ5_ensureCapacityInternal_d00df_19 ?_
      refine lv_aload_n hx hb dJ5_ensureCapacityInternal_d00df_22 rfl (lv_at hl 1 rfl) ?_
      refine lv_iload_n hx hb dJ5_ensureCapacityInternal_d00df_23 rfl (lv_at hl 2 rfl) ?_
      have hPc := hP.sub (ws' := [(hB, .inr (1, [.ref aY, .int 0, .int ml, .int (nI n)])), (aY, .inl ((D.1 100), cap, .inl fY))]) [0, 1] rfl
      have hDc := hD.sub (ws' := [(hB, .inr (1, [.ref aY, .int 0, .int ml, .int (nI n)])), (aY, .inl ((D.1 100), cap, .inl fY))]) [0, 1] (by decide) rfl
      have hFc := va_free (wc := [(hB, .inr (1, [.ref aY, .int 0, .int ml, .int (nI n)])), (aY, .inl ((D.1 100), cap, .inl fY))]) hD hS hA [0, 1] rfl
      refine va_calli (va_runU (C := "java/lang/StringBuilder") (owner := "java/lang/AbstractStringBuilder") (As := [.int (nI (cap + 1))]) (rest := [.ref aY, .ref hB]) ⟨hx, hb, hml, hown, hts⟩ (c_J5_newCapacity_0f7a4 l D hB aY ml n cap fY (nI (cap + 1)) H.size (show cap ≤ 1000 from (by omega)) (show (nI (cap + 1)) = nI (cap + 1) from rfl)) (va_cwU 1 hts (gi_U q_341 q_1660 q_1697 q_343 q_85 q_344) rfl rfl rfl rfl (by decide +kernel) ⟨Nat.le_of_ble_eq_true rfl, Nat.le_of_ble_eq_true rfl⟩) ⟨cPre_blind, va_recv hK hP (ci := 1) (q0 := 0) rfl rfl, cPre_mk hPc hK hDc hN (lwZ_for hZ hS hFc)⟩ rfl rfl hl.1 rfl (lv_room (Nat.le_of_ble_eq_true rfl)) dJ5_ensureCapacityInternal_d00df_24 ⟨(show 0 + 0 ≤ 1 from (by omega)), (show 0 + 0 ≤ (2 * cap + 2) from (by omega))⟩) hS (fun q h1 h2 => absurd h2 (Nat.not_le.mpr h1)) (fun q h => hA q (Nat.le_trans hS.1 h)) (fun r_24 u t H1 locs ht hvm hw hBk hz1 hk1 hS => ?_)
      have hP := va_P_ro hP hk1
      subst hw
      clear hBk hvm ht u hz1 hk1
      clear hPc hDc hFc; clear t
      generalize H1 = H at hP hS ⊢
      refine lv_aload_n hx hb dJ5_ensureCapacityInternal_d00df_27 rfl (lv_at hl 1 rfl) ?_
      refine va_get (D := D) (ci := 1) (v := .int 0) (C := RJ4) (T := TJ4) (N := 4) hx hb hts in_J4 hown hK hP 0 rfl rfl 1 (by decide) (hts _ q_240) (fun _ h9 => h9) rfl dJ5_ensureCapacityInternal_d00df_28 ?_
      refine lv_ishl hx hb dJ5_ensureCapacityInternal_d00df_31 ?_
      rw [show ((F_J5_newCapacity_0f7a4 cap) <<< ((0 : Int32) &&& 31) : Int32) = nI (2 * cap + 2) from (sb_shl0 _)]
      have hPc := hP.sub (ws' := [(aY, .inl ((D.1 100), cap, .inl fY))]) [1] rfl
      have hDc := hD.sub (ws' := [(aY, .inl ((D.1 100), cap, .inl fY))]) [1] (by decide) rfl
      have hFc := va_free (wc := [(aY, .inl ((D.1 100), cap, .inl fY))]) hD hS hA [1] rfl
      refine va_callr (va_runS (As := [.ref aY, .int (nI (2 * cap + 2))]) (rest := [.ref hB]) ⟨hx, hb, hml, hown, hts⟩ (c_J7_copyOf_9075b l D aY cap fY (2 * cap + 2) (nI (2 * cap + 2)) H.size (show cap < (2 * cap + 2) from (by omega)) (show (2 * cap + 2) ≤ 100000 from (by omega)) (show ∀ j, fits .byte (.int (fY j)) = true from (by assumption)) (show (nI (2 * cap + 2)) = nI (2 * cap + 2) from rfl)) ⟨callB_of 2 hts (gi_sub q_358) rfl rfl rfl (hts _ q_96) (hts _ q_356) (by decide +kernel) ⟨Nat.le_of_ble_eq_true rfl, Nat.le_of_ble_eq_true rfl⟩, (hts _ q_357)⟩ ⟨cPre_blind, cPre_mk hPc hK hDc hN (lwZ_for hZ hS hFc)⟩ rfl rfl hl.1 rfl (lv_room (Nat.le_of_ble_eq_true rfl)) dJ5_ensureCapacityInternal_d00df_32 ⟨(show 0 + 1 ≤ 1 from (by omega)), (show 0 + (2 * cap + 2) ≤ (2 * cap + 2) from (by omega))⟩) hS (fun q _ h => hFc q h) hFc (fun u ra_32 t H1 locs ht hvm hw hBk hz1 hk1 hS => ?_)
      obtain ⟨hP1, hD1⟩ := hBk
      rw [ht] at hP1
      obtain ⟨hP, hD⟩ := va_join (wr := [(hB, .inr (1, [.ref aY, .int 0, .int ml, .int (nI n)]))]) (w1 := [(aY, .inl ((D.1 100), cap, .inl fY)), (ra_32, .inl ((D.1 100), (2 * cap + 2), .inl (va_cpy fY (fun _ => 0) 0 0 cap)))]) hP hD [1] [0] rfl rfl (by decide) (by decide) hk1 hFc hP1 hD1
      clear hPc hDc hFc hP1 hD1 hk1 hz1
      clear hvm ht u; clear t
      generalize H1 = H at hP hS ⊢
      have hP : va_P D vwCl [(hB, .inr (1, [.ref aY, .int 0, .int ml, .int (nI n)])), (aY, .inl ((D.1 100), cap, .inl fY)), (ra_32, .inl ((D.1 100), (2 * cap + 2), .inl (va_cpy fY (fun _ => 0) 0 0 cap)))] H := hP
      have hD : va_D A [(hB, .inr (1, [.ref aY, .int 0, .int ml, .int (nI n)])), (aY, .inl ((D.1 100), cap, .inl fY)), (ra_32, .inl ((D.1 100), (2 * cap + 2), .inl (va_cpy fY (fun _ => 0) 0 0 cap)))] := hD
      refine va_put (D := D) (ci := 1) (v := .ref ra_32) (ty := (.array .byte)) (C := RJ4) (T := TJ4) (N := 4) hx hb hts in_J4 tyJ4 tyJ4_ok nmJ4 hown hK hP hD hS 0 rfl rfl 0 (by decide) (hts _ q_239) (fun _ h9 => h9) rfl (by decide +kernel) rfl rfl (Nat.le_of_ble_eq_true rfl) dJ5_ensureCapacityInternal_d00df_35 (fun H locs hP hD hS => ?_)
      have hP : va_P D vwCl [(hB, .inr (1, [.ref ra_32, .int 0, .int ml, .int (nI n)])), (aY, .inl ((D.1 100), cap, .inl fY)), (ra_32, .inl ((D.1 100), (2 * cap + 2), .inl (va_cpy fY (fun _ => 0) 0 0 cap)))] H := hP
      have hD : va_D A [(hB, .inr (1, [.ref ra_32, .int 0, .int ml, .int (nI n)])), (aY, .inl ((D.1 100), cap, .inl fY)), (ra_32, .inl ((D.1 100), (2 * cap + 2), .inl (va_cpy fY (fun _ => 0) 0 0 cap)))] := hD
      subst hQe
      subst hAe
      have hE : (F_J5_ensureCapacityInternal_d00dfB cap fY) = ((2 * cap + 2), va_cpy fY (fun _ => 0) 0 0 cap) := (by rfl)
      refine W.widen (k := 1) (n := 2 * cap + 2) (by omega) (by omega) ?_
      have hP9 := hP.sub (ws' := [(hB, .inr (1, [.ref ra_32, .int 0, .int ml, .int (nI n)])), (ra_32, .inl ((D.1 100), (2 * cap + 2), .inl (va_cpy fY (fun _ => 0) 0 0 cap)))]) [0, 2] rfl
      have hD9 := hD.sub (ws' := [(hB, .inr (1, [.ref ra_32, .int 0, .int ml, .int (nI n)])), (ra_32, .inl ((D.1 100), (2 * cap + 2), .inl (va_cpy fY (fun _ => 0) 0 0 cap)))]) [0, 2] (by decide) rfl
      exact W.vret hx hb hr (fun t ht hW => ⟨⟨ra_32, rfl, trivial, (by (try rw [hE]); rw [ht]; exact hP9), (by (try rw [hE]); exact hD9)⟩, hS.F ht⟩) hS.2.2 dJ5_ensureCapacityInternal_d00df_38
  rw [hHe, hLe] at hgoal
  exact hgoal

def F_J5_append_3fe6fA (n : Nat) (fY : Nat → Int32) (x1 : Int32) : Nat × (Nat → Int32) := ((n + 1), upd fY n (vp_nar .byte x1.toInt8.toInt32))
set_option maxHeartbeats 4000000 in
set_option maxRecDepth 100000 in
theorem c_J5_append_3fe6fA (l : Launch) (D : va_G) (hB : Nat) (aY : Nat) (ml : Int32) (n : Nat) (cap : Nat) (fY : Nat → Int32) (x1 : Int32) (sz : Nat) (hn : n < cap) (hcap : cap ≤ 1000) (hch : ¬ 255 < x1) : Met l yJ5_append_3fe6f (Cond.code yJ5_append_3fe6f cJ5_append_3fe6f 2 (some (.object "java/lang/AbstractStringBuilder")) :: lwAll) ({ frames := 1, cells := 0, slots := 0, locals := 22 } : Room) (va_Pc [.ref hB, .int x1] (cPre D (lwTY D) [(hB, .inr (1, [.ref aY, .int 0, .int ml, .int (nI n)])), (aY, .inl ((D.1 100), cap, .inl fY))] sz)) (va_Qr (fun (_ : Unit) => True) (fun (_ : Unit) (ra : Nat) t => ra = hB ∧ va_P D vwCl [(hB, .inr (1, [.ref aY, .int 0, .int ml, .int (nI ((F_J5_append_3fe6fA n fY x1).1))])), (aY, .inl ((D.1 100), cap, .inl ((F_J5_append_3fe6fA n fY x1).2)))] t.heap ∧ va_D (va_A [(hB, .inr (1, [.ref aY, .int 0, .int ml, .int (nI n)])), (aY, .inl ((D.1 100), cap, .inl fY))] sz) [(hB, .inr (1, [.ref aY, .int 0, .int ml, .int (nI ((F_J5_append_3fe6fA n fY x1).1))])), (aY, .inl ((D.1 100), cap, .inl ((F_J5_append_3fe6fA n fY x1).2)))]) (va_A [(hB, .inr (1, [.ref aY, .int 0, .int ml, .int (nI n)])), (aY, .inl ((D.1 100), cap, .inl fY))] sz)) 0 0 (va_A [(hB, .inr (1, [.ref aY, .int 0, .int ml, .int (nI n)])), (aY, .inl ((D.1 100), cap, .inl fY))] sz) := by
  refine Met.ofW (cc := cJ5_append_3fe6f) (maxL := 2) (ret := (some (.object "java/lang/AbstractStringBuilder"))) (by decide) rfl ?_
  intro p e s m args below meth c s₁ B hml hv
  obtain ⟨rfl, hsz, hP, hK, hD0, hN, hZ⟩ := hv
  have hx := B.exec
  have hb := B.bytes
  have hr := B.returns
  have hts : ∀ wd ∈ lwAll, wd.before ([.ref hB, .int x1] : List Value).toArray s = true := fun wd h => atoms_spec (ws := (Cond.code yJ5_append_3fe6f cJ5_append_3fe6f 2 (some (.object "java/lang/AbstractStringBuilder")) :: lwAll)) B.pre wd (List.mem_cons_of_mem _ h)
  have hown : s.vm.findClass RJ5 = some m.cls := findClass_of_methodNamed B.named
  have hlocks := B.notSynchronized
  subst hsz
  have hD := hD0.self (sz := s.heap.size)
  have hl := lv_entry ([.ref hB, .int x1]) (n := 2) (Nat.le_of_ble_eq_true rfl)
  rw [lg_entry_eq]
  generalize (lg_sl ([.ref hB, .int x1]) ++ List.replicate (2 - (lg_sl ([.ref hB, .int x1])).length) Slot.unset).toArray = ls at hl ⊢
  have hl : lv_has ls 2 [(0, .ref hB), (1, .int x1)] := hl
  have hS : va_S (va_A [(hB, .inr (1, [.ref aY, .int 0, .int ml, .int (nI n)])), (aY, .inl ((D.1 100), cap, .inl fY))] s.heap.size) s.heap s.heap [] := va_S.rf
  generalize hQe : MQ below (va_Qr (fun (_ : Unit) => True) (fun (_ : Unit) (ra : Nat) t => ra = hB ∧ va_P D vwCl [(hB, .inr (1, [.ref aY, .int 0, .int ml, .int (nI ((F_J5_append_3fe6fA n fY x1).1))])), (aY, .inl ((D.1 100), cap, .inl ((F_J5_append_3fe6fA n fY x1).2)))] t.heap ∧ va_D (va_A [(hB, .inr (1, [.ref aY, .int 0, .int ml, .int (nI n)])), (aY, .inl ((D.1 100), cap, .inl fY))] s.heap.size) [(hB, .inr (1, [.ref aY, .int 0, .int ml, .int (nI ((F_J5_append_3fe6fA n fY x1).1))])), (aY, .inl ((D.1 100), cap, .inl ((F_J5_append_3fe6fA n fY x1).2)))]) (va_A [(hB, .inr (1, [.ref aY, .int 0, .int ml, .int (nI n)])), (aY, .inl ((D.1 100), cap, .inl fY))] s.heap.size)) ([.ref hB, .int x1] : List Value).toArray s 0 0 (va_A [(hB, .inr (1, [.ref aY, .int 0, .int ml, .int (nI n)])), (aY, .inl ((D.1 100), cap, .inl fY))] s.heap.size) = Q
  have hP : va_P D vwCl [(hB, .inr (1, [.ref aY, .int 0, .int ml, .int (nI n)])), (aY, .inl ((D.1 100), cap, .inl fY))] s.heap := hP
  obtain ⟨A, hAe⟩ : ∃ A, A = va_A [(hB, .inr (1, [.ref aY, .int 0, .int ml, .int (nI n)])), (aY, .inl ((D.1 100), cap, .inl fY))] s.heap.size := ⟨_, rfl⟩
  rw [← hAe] at hD hZ hS
  have hA : ∀ q : Nat, s.heap.size ≤ q → A q := fun q h => by rw [hAe]; exact Or.inr h
  obtain ⟨H, hHe⟩ : ∃ H, H = s.heap := ⟨_, rfl⟩
  obtain ⟨locs, hLe⟩ : ∃ L : List Loc, L = [] := ⟨_, rfl⟩
  have hP : va_P D vwCl [(hB, .inr (1, [.ref aY, .int 0, .int ml, .int (nI n)])), (aY, .inl ((D.1 100), cap, .inl fY))] H := by rw [hHe]; exact hP
  have hS : va_S A s.heap H locs := by rw [hHe, hLe]; exact hS
  have hgoal : W p l e ({ frames := 1, cells := 0, slots := 0, locals := 22 } : Room) s m ([.ref hB, .int x1] : List Value).toArray below meth c H locs 0 0 Q (F0 m 0 ls []) := by
    clear hHe hLe
    refine lv_aload_n hx hb dJ5_append_3fe6f_0 rfl (lv_at hl 0 rfl) ?_
    refine lv_aload_n hx hb dJ5_append_3fe6f_1 rfl (lv_at hl 0 rfl) ?_
    refine va_get (D := D) (ci := 1) (v := .int (nI n)) (C := RJ4) (T := TJ4) (N := 4) hx hb hts in_J4 hown hK hP 0 rfl rfl 3 (by decide) (hts _ q_243) (fun _ h9 => h9) rfl dJ5_append_3fe6f_2 ?_
    refine lv_iconst (v := 1) hx hb dJ5_append_3fe6f_5 (by decide) ?_
    refine lv_iadd hx hb dJ5_append_3fe6f_6 ?_
    rw [nI_1 n]
    have hPc := hP.sub (ws' := [(hB, .inr (1, [.ref aY, .int 0, .int ml, .int (nI n)])), (aY, .inl ((D.1 100), cap, .inl fY))]) [0, 1] rfl
    have hDc := hD.sub (ws' := [(hB, .inr (1, [.ref aY, .int 0, .int ml, .int (nI n)])), (aY, .inl ((D.1 100), cap, .inl fY))]) [0, 1] (by decide) rfl
    have hFc := va_free (wc := [(hB, .inr (1, [.ref aY, .int 0, .int ml, .int (nI n)])), (aY, .inl ((D.1 100), cap, .inl fY))]) hD hS hA [0, 1] rfl
    refine va_callv (va_runU (C := "java/lang/StringBuilder") (owner := "java/lang/AbstractStringBuilder") (As := [.int (nI (n + 1))]) (rest := []) ⟨hx, hb, hml, hown, hts⟩ (c_J5_ensureCapacityInternal_d00dfA l D hB aY ml n cap fY (n + 1) (nI (n + 1)) H.size (show (n + 1) ≤ cap from (by omega)) (show cap ≤ 1000 from (by omega)) (show (nI (n + 1)) = nI (n + 1) from rfl)) (va_cwU 1 hts (gi_U q_337 q_1659 q_1696 q_339 q_85 q_340) rfl rfl rfl rfl (by decide +kernel) ⟨Nat.le_of_ble_eq_true rfl, Nat.le_of_ble_eq_true rfl⟩) ⟨cPre_blind, va_recv hK hP (ci := 1) (q0 := 0) rfl rfl, cPre_mk hPc hK hDc hN (lwZ_for hZ hS hFc)⟩ rfl rfl hl.1 rfl (lv_room (Nat.le_of_ble_eq_true rfl)) dJ5_append_3fe6f_7 ⟨(Nat.le_of_ble_eq_true rfl), (Nat.le_of_ble_eq_true rfl)⟩) hS (fun q h1 h2 => absurd h2 (Nat.not_le.mpr h1)) (fun q h => hA q (Nat.le_trans hS.1 h)) (fun u t H1 locs ht hvm hw hBk hz1 hk1 hS => ?_)
    have hP := va_P_ro hP hk1
    clear hBk hvm ht u hz1 hk1
    clear hPc hDc hFc; clear t
    generalize H1 = H at hP hS ⊢
    refine lv_aload_n hx hb dJ5_append_3fe6f_10 rfl (lv_at hl 0 rfl) ?_
    have hPc := hP.sub (ws' := [(hB, .inr (1, [.ref aY, .int 0, .int ml, .int (nI n)]))]) [0] rfl
    have hDc := hD.sub (ws' := [(hB, .inr (1, [.ref aY, .int 0, .int ml, .int (nI n)]))]) [0] (by decide) rfl
    have hFc := va_free (wc := [(hB, .inr (1, [.ref aY, .int 0, .int ml, .int (nI n)]))]) hD hS hA [0] rfl
    refine va_calli (va_runU (C := "java/lang/StringBuilder") (owner := "java/lang/AbstractStringBuilder") (As := []) (rest := []) ⟨hx, hb, hml, hown, hts⟩ (c_J5_isLatin1_aae02 l D hB aY ml n H.size ) (va_cwU 0 hts (gi_U q_372 q_374 q_375 q_373 q_85 q_376) rfl rfl rfl rfl (by decide +kernel) ⟨Nat.le_of_ble_eq_true rfl, Nat.le_of_ble_eq_true rfl⟩) ⟨cPre_blind, va_recv hK hP (ci := 1) (q0 := 0) rfl rfl, cPre_mk hPc hK hDc hN (lwZ_for hZ hS hFc)⟩ rfl rfl hl.1 rfl (lv_room (Nat.le_of_ble_eq_true rfl)) dJ5_append_3fe6f_11 ⟨(Nat.le_of_ble_eq_true rfl), (Nat.le_of_ble_eq_true rfl)⟩) hS (fun q h1 h2 => absurd h2 (Nat.not_le.mpr h1)) (fun q h => hA q (Nat.le_trans hS.1 h)) (fun r_11 u t H1 locs ht hvm hw hBk hz1 hk1 hS => ?_)
    have hP := va_P_ro hP hk1
    obtain ⟨hw, z_1⟩ := hw
    rw [hw] at z_1
    subst hw
    clear hBk hvm ht u hz1 hk1
    clear hPc hDc hFc; clear t
    generalize H1 = H at hP hS ⊢
    refine lv_if_eq (tgt := 45) hx hb dJ5_append_3fe6f_14 (by decide) (fun c_2 => ?_) (fun c_2 => ?_)
    · exact absurd c_2 (by decide)
    · refine lv_iload_n hx hb dJ5_append_3fe6f_17 rfl (lv_at hl 1 rfl) ?_
      have hPc := hP.sub (ws' := []) [] rfl
      have hDc := hD.sub (ws' := []) [] (by decide) rfl
      have hFc := va_free (wc := []) hD hS hA [] rfl
      refine va_calli (va_runS (As := [.int x1]) (rest := []) ⟨hx, hb, hml, hown, hts⟩ (c_J1_canEncode_fc78d l D x1 H.size ) ⟨callB_of 1 hts (gi_sub q_1029) rfl rfl rfl (hts _ q_99) (hts _ q_1027) (by decide +kernel) ⟨Nat.le_of_ble_eq_true rfl, Nat.le_of_ble_eq_true rfl⟩, (hts _ q_1028)⟩ ⟨cPre_blind, cPre_mk hPc hK hDc hN (lwZ_for hZ hS hFc)⟩ rfl rfl hl.1 rfl (lv_room (Nat.le_of_ble_eq_true rfl)) dJ5_append_3fe6f_18 ⟨(Nat.le_of_ble_eq_true rfl), (Nat.le_of_ble_eq_true rfl)⟩) hS (fun q h1 h2 => absurd h2 (Nat.not_le.mpr h1)) (fun q h => hA q (Nat.le_trans hS.1 h)) (fun r_18 u t H1 locs ht hvm hw hBk hz1 hk1 hS => ?_)
      have hP := va_P_ro hP hk1
      obtain ⟨hw, z_3⟩ := hw
      rw [hw] at z_3
      subst hw
      clear hBk hvm ht u hz1 hk1
      clear hPc hDc hFc; clear t
      generalize H1 = H at hP hS ⊢
      refine lv_if_eq (tgt := 45) hx hb dJ5_append_3fe6f_21 (by decide) (fun c_4 => ?_) (fun c_4 => ?_)
      · exact absurd c_4 (by unfold F_J1_canEncode_fc78d; rw [if_neg hch]; decide)
      · refine lv_aload_n hx hb dJ5_append_3fe6f_24 rfl (lv_at hl 0 rfl) ?_
        refine va_get (D := D) (ci := 1) (v := .ref aY) (C := RJ4) (T := TJ4) (N := 4) hx hb hts in_J4 hown hK hP 0 rfl rfl 0 (by decide) (hts _ q_239) (fun _ h9 => h9) rfl dJ5_append_3fe6f_25 ?_
        refine lv_aload_n hx hb dJ5_append_3fe6f_28 rfl (lv_at hl 0 rfl) ?_
        refine lv_dup hx hb dJ5_append_3fe6f_29 rfl ?_
        refine va_get (D := D) (ci := 1) (v := .int (nI n)) (C := RJ4) (T := TJ4) (N := 4) hx hb hts in_J4 hown hK hP 0 rfl rfl 3 (by decide) (hts _ q_243) (fun _ h9 => h9) rfl dJ5_append_3fe6f_30 ?_
        refine lv_dup_x1 hx hb dJ5_append_3fe6f_33 rfl rfl ?_
        refine lv_iconst (v := 1) hx hb dJ5_append_3fe6f_34 (by decide) ?_
        refine lv_iadd hx hb dJ5_append_3fe6f_35 ?_
        rw [nI_1 n]
        refine va_put (D := D) (ci := 1) (v := .int (nI (n + 1))) (ty := .int) (C := RJ4) (T := TJ4) (N := 4) hx hb hts in_J4 tyJ4 tyJ4_ok nmJ4 hown hK hP hD hS 0 rfl rfl 3 (by decide) (hts _ q_243) (fun _ h9 => h9) rfl (by decide +kernel) rfl rfl (Nat.le_of_ble_eq_true rfl) dJ5_append_3fe6f_36 (fun H locs hP hD hS => ?_)
        have hP : va_P D vwCl [(hB, .inr (1, [.ref aY, .int 0, .int ml, .int (nI (n + 1))])), (aY, .inl ((D.1 100), cap, .inl fY))] H := hP
        have hD : va_D A [(hB, .inr (1, [.ref aY, .int 0, .int ml, .int (nI (n + 1))])), (aY, .inl ((D.1 100), cap, .inl fY))] := hD
        refine lv_iload_n hx hb dJ5_append_3fe6f_39 rfl (lv_at hl 1 rfl) ?_
        refine lv_i2b (v := x1.toInt8.toInt32) hx hb dJ5_append_3fe6f_40 rfl ?_
        refine va_bast hx hb hK hP hD hS 1 0 rfl rfl (vp_in_nI (by omega) (by omega)) dJ5_append_3fe6f_41 (fun H locs hP hD hS => ?_)
        rw [nI_clamp (by omega)] at hP hD
        have hP : va_P D vwCl [(hB, .inr (1, [.ref aY, .int 0, .int ml, .int (nI (n + 1))])), (aY, .inl ((D.1 100), cap, .inl (upd fY n (vp_nar .byte x1.toInt8.toInt32))))] H := hP
        have hD : va_D A [(hB, .inr (1, [.ref aY, .int 0, .int ml, .int (nI (n + 1))])), (aY, .inl ((D.1 100), cap, .inl (upd fY n (vp_nar .byte x1.toInt8.toInt32))))] := hD
        refine lv_goto (tgt := 75) hx hb dJ5_append_3fe6f_42 (by decide) ?_
        refine lv_aload_n hx hb dJ5_append_3fe6f_75 rfl (lv_at hl 0 rfl) ?_
        subst hQe
        subst hAe
        have hE : (F_J5_append_3fe6fA n fY x1) = ((n + 1), upd fY n (vp_nar .byte x1.toInt8.toInt32)) := (by rfl)
        have hP9 := hP.sub (ws' := [(hB, .inr (1, [.ref aY, .int 0, .int ml, .int (nI (n + 1))])), (aY, .inl ((D.1 100), cap, .inl (upd fY n (vp_nar .byte x1.toInt8.toInt32))))]) [0, 1] rfl
        have hD9 := hD.sub (ws' := [(hB, .inr (1, [.ref aY, .int 0, .int ml, .int (nI (n + 1))])), (aY, .inl ((D.1 100), cap, .inl (upd fY n (vp_nar .byte x1.toInt8.toInt32))))]) [0, 1] (by decide) rfl
        exact W.aret (v := .ref hB) hx hb hr (by first | exact Or.inl ⟨_, rfl⟩ | exact Or.inr ⟨_, rfl⟩) (Or.inr ⟨_, rfl⟩) (fun t ht hW => ⟨⟨(), hB, rfl, trivial, rfl, (by (try rw [hE]); rw [ht]; exact hP9), (by (try rw [hE]); exact hD9)⟩, hS.F ht⟩) hS.2.2 dJ5_append_3fe6f_76
  rw [hHe, hLe] at hgoal
  exact hgoal

def F_J5_append_3fe6fB (n : Nat) (fY : Nat → Int32) (x1 : Int32) : Nat × Nat × (Nat → Int32) := ((n + 1), ((F_J5_ensureCapacityInternal_d00dfB n fY).1), upd ((F_J5_ensureCapacityInternal_d00dfB n fY).2) n (vp_nar .byte x1.toInt8.toInt32))
set_option maxHeartbeats 4000000 in
set_option maxRecDepth 100000 in
theorem c_J5_append_3fe6fB (l : Launch) (D : va_G) (hB : Nat) (aY : Nat) (ml : Int32) (n : Nat) (cap : Nat) (fY : Nat → Int32) (x1 : Int32) (sz : Nat) (hnc : n = cap) (hcap : cap ≤ 1000) (hfit : ∀ j, fits .byte (.int (fY j)) = true) (hch : ¬ 255 < x1) : Met l yJ5_append_3fe6f (Cond.code yJ5_append_3fe6f cJ5_append_3fe6f 2 (some (.object "java/lang/AbstractStringBuilder")) :: lwAll) ({ frames := 4, cells := 1, slots := 2 * cap + 2, locals := 104 } : Room) (va_Pc [.ref hB, .int x1] (cPre D (lwTY D) [(hB, .inr (1, [.ref aY, .int 0, .int ml, .int (nI n)])), (aY, .inl ((D.1 100), cap, .inl fY))] sz)) (va_Qr (fun (_ : Nat) => True) (fun (aY2 : Nat) (ra : Nat) t => ra = hB ∧ va_P D vwCl [(hB, .inr (1, [.ref aY2, .int 0, .int ml, .int (nI ((F_J5_append_3fe6fB n fY x1).1))])), (aY2, .inl ((D.1 100), ((F_J5_append_3fe6fB n fY x1).2.1), .inl ((F_J5_append_3fe6fB n fY x1).2.2)))] t.heap ∧ va_D (va_A [(hB, .inr (1, [.ref aY, .int 0, .int ml, .int (nI n)])), (aY, .inl ((D.1 100), cap, .inl fY))] sz) [(hB, .inr (1, [.ref aY2, .int 0, .int ml, .int (nI ((F_J5_append_3fe6fB n fY x1).1))])), (aY2, .inl ((D.1 100), ((F_J5_append_3fe6fB n fY x1).2.1), .inl ((F_J5_append_3fe6fB n fY x1).2.2)))]) (va_A [(hB, .inr (1, [.ref aY, .int 0, .int ml, .int (nI n)])), (aY, .inl ((D.1 100), cap, .inl fY))] sz)) 1 (2 * cap + 2) (va_A [(hB, .inr (1, [.ref aY, .int 0, .int ml, .int (nI n)])), (aY, .inl ((D.1 100), cap, .inl fY))] sz) := by
  subst hnc
  refine Met.ofW (cc := cJ5_append_3fe6f) (maxL := 2) (ret := (some (.object "java/lang/AbstractStringBuilder"))) (by decide) rfl ?_
  intro p e s m args below meth c s₁ B hml hv
  obtain ⟨rfl, hsz, hP, hK, hD0, hN, hZ⟩ := hv
  have hx := B.exec
  have hb := B.bytes
  have hr := B.returns
  have hts : ∀ wd ∈ lwAll, wd.before ([.ref hB, .int x1] : List Value).toArray s = true := fun wd h => atoms_spec (ws := (Cond.code yJ5_append_3fe6f cJ5_append_3fe6f 2 (some (.object "java/lang/AbstractStringBuilder")) :: lwAll)) B.pre wd (List.mem_cons_of_mem _ h)
  have hown : s.vm.findClass RJ5 = some m.cls := findClass_of_methodNamed B.named
  have hlocks := B.notSynchronized
  subst hsz
  have hD := hD0.self (sz := s.heap.size)
  have hl := lv_entry ([.ref hB, .int x1]) (n := 2) (Nat.le_of_ble_eq_true rfl)
  rw [lg_entry_eq]
  generalize (lg_sl ([.ref hB, .int x1]) ++ List.replicate (2 - (lg_sl ([.ref hB, .int x1])).length) Slot.unset).toArray = ls at hl ⊢
  have hl : lv_has ls 2 [(0, .ref hB), (1, .int x1)] := hl
  have hS : va_S (va_A [(hB, .inr (1, [.ref aY, .int 0, .int ml, .int (nI n)])), (aY, .inl ((D.1 100), n, .inl fY))] s.heap.size) s.heap s.heap [] := va_S.rf
  generalize hQe : MQ below (va_Qr (fun (_ : Nat) => True) (fun (aY2 : Nat) (ra : Nat) t => ra = hB ∧ va_P D vwCl [(hB, .inr (1, [.ref aY2, .int 0, .int ml, .int (nI ((F_J5_append_3fe6fB n fY x1).1))])), (aY2, .inl ((D.1 100), ((F_J5_append_3fe6fB n fY x1).2.1), .inl ((F_J5_append_3fe6fB n fY x1).2.2)))] t.heap ∧ va_D (va_A [(hB, .inr (1, [.ref aY, .int 0, .int ml, .int (nI n)])), (aY, .inl ((D.1 100), n, .inl fY))] s.heap.size) [(hB, .inr (1, [.ref aY2, .int 0, .int ml, .int (nI ((F_J5_append_3fe6fB n fY x1).1))])), (aY2, .inl ((D.1 100), ((F_J5_append_3fe6fB n fY x1).2.1), .inl ((F_J5_append_3fe6fB n fY x1).2.2)))]) (va_A [(hB, .inr (1, [.ref aY, .int 0, .int ml, .int (nI n)])), (aY, .inl ((D.1 100), n, .inl fY))] s.heap.size)) ([.ref hB, .int x1] : List Value).toArray s 1 (2 * n + 2) (va_A [(hB, .inr (1, [.ref aY, .int 0, .int ml, .int (nI n)])), (aY, .inl ((D.1 100), n, .inl fY))] s.heap.size) = Q
  have hP : va_P D vwCl [(hB, .inr (1, [.ref aY, .int 0, .int ml, .int (nI n)])), (aY, .inl ((D.1 100), n, .inl fY))] s.heap := hP
  obtain ⟨A, hAe⟩ : ∃ A, A = va_A [(hB, .inr (1, [.ref aY, .int 0, .int ml, .int (nI n)])), (aY, .inl ((D.1 100), n, .inl fY))] s.heap.size := ⟨_, rfl⟩
  rw [← hAe] at hD hZ hS
  have hA : ∀ q : Nat, s.heap.size ≤ q → A q := fun q h => by rw [hAe]; exact Or.inr h
  obtain ⟨H, hHe⟩ : ∃ H, H = s.heap := ⟨_, rfl⟩
  obtain ⟨locs, hLe⟩ : ∃ L : List Loc, L = [] := ⟨_, rfl⟩
  have hP : va_P D vwCl [(hB, .inr (1, [.ref aY, .int 0, .int ml, .int (nI n)])), (aY, .inl ((D.1 100), n, .inl fY))] H := by rw [hHe]; exact hP
  have hS : va_S A s.heap H locs := by rw [hHe, hLe]; exact hS
  have hgoal : W p l e ({ frames := 4, cells := 1, slots := 2 * n + 2, locals := 104 } : Room) s m ([.ref hB, .int x1] : List Value).toArray below meth c H locs 0 0 Q (F0 m 0 ls []) := by
    clear hHe hLe
    refine lv_aload_n hx hb dJ5_append_3fe6f_0 rfl (lv_at hl 0 rfl) ?_
    refine lv_aload_n hx hb dJ5_append_3fe6f_1 rfl (lv_at hl 0 rfl) ?_
    refine va_get (D := D) (ci := 1) (v := .int (nI n)) (C := RJ4) (T := TJ4) (N := 4) hx hb hts in_J4 hown hK hP 0 rfl rfl 3 (by decide) (hts _ q_243) (fun _ h9 => h9) rfl dJ5_append_3fe6f_2 ?_
    refine lv_iconst (v := 1) hx hb dJ5_append_3fe6f_5 (by decide) ?_
    refine lv_iadd hx hb dJ5_append_3fe6f_6 ?_
    rw [nI_1 n]
    have hPc := hP.sub (ws' := [(hB, .inr (1, [.ref aY, .int 0, .int ml, .int (nI n)])), (aY, .inl ((D.1 100), n, .inl fY))]) [0, 1] rfl
    have hDc := hD.sub (ws' := [(hB, .inr (1, [.ref aY, .int 0, .int ml, .int (nI n)])), (aY, .inl ((D.1 100), n, .inl fY))]) [0, 1] (by decide) rfl
    have hFc := va_free (wc := [(hB, .inr (1, [.ref aY, .int 0, .int ml, .int (nI n)])), (aY, .inl ((D.1 100), n, .inl fY))]) hD hS hA [0, 1] rfl
    refine va_callv (va_runU (C := "java/lang/StringBuilder") (owner := "java/lang/AbstractStringBuilder") (As := [.int (nI (n + 1))]) (rest := []) ⟨hx, hb, hml, hown, hts⟩ (c_J5_ensureCapacityInternal_d00dfB l D hB aY ml n n fY (nI (n + 1)) H.size (show n ≤ 1000 from (by omega)) (show ∀ j, fits .byte (.int (fY j)) = true from (by assumption)) (show (nI (n + 1)) = nI (n + 1) from rfl)) (va_cwU 1 hts (gi_U q_337 q_1659 q_1696 q_339 q_85 q_340) rfl rfl rfl rfl (by decide +kernel) ⟨Nat.le_of_ble_eq_true rfl, Nat.le_of_ble_eq_true rfl⟩) ⟨cPre_blind, va_recv hK hP (ci := 1) (q0 := 0) rfl rfl, cPre_mk hPc hK hDc hN (lwZ_for hZ hS hFc)⟩ rfl rfl hl.1 rfl (lv_room (Nat.le_of_ble_eq_true rfl)) dJ5_append_3fe6f_7 ⟨(show 0 + 1 ≤ 1 from (by omega)), (show 0 + (2 * n + 2) ≤ (2 * n + 2) from (by omega))⟩) hS (fun q _ h => hFc q h) hFc (fun u t H1 locs ht hvm hw hBk hz1 hk1 hS => ?_)
    obtain ⟨aY_7, rfl⟩ : ∃ z, z = u := ⟨_, rfl⟩
    obtain ⟨hP1, hD1⟩ := hBk
    rw [ht] at hP1
    obtain ⟨hP, hD⟩ := va_join (wr := []) (w1 := [(hB, .inr (1, [.ref aY_7, .int 0, .int ml, .int (nI n)])), (aY_7, .inl ((D.1 100), ((F_J5_ensureCapacityInternal_d00dfB n fY).1), .inl ((F_J5_ensureCapacityInternal_d00dfB n fY).2)))]) hP hD [0, 1] [] rfl rfl (by decide) (by decide) hk1 hFc hP1 hD1
    clear hPc hDc hFc hP1 hD1 hk1 hz1
    clear hvm ht; clear t
    generalize H1 = H at hP hS ⊢
    have hP : va_P D vwCl [(hB, .inr (1, [.ref aY_7, .int 0, .int ml, .int (nI n)])), (aY_7, .inl ((D.1 100), ((F_J5_ensureCapacityInternal_d00dfB n fY).1), .inl ((F_J5_ensureCapacityInternal_d00dfB n fY).2)))] H := hP
    have hD : va_D A [(hB, .inr (1, [.ref aY_7, .int 0, .int ml, .int (nI n)])), (aY_7, .inl ((D.1 100), ((F_J5_ensureCapacityInternal_d00dfB n fY).1), .inl ((F_J5_ensureCapacityInternal_d00dfB n fY).2)))] := hD
    refine lv_aload_n hx hb dJ5_append_3fe6f_10 rfl (lv_at hl 0 rfl) ?_
    have hPc := hP.sub (ws' := [(hB, .inr (1, [.ref aY_7, .int 0, .int ml, .int (nI n)]))]) [0] rfl
    have hDc := hD.sub (ws' := [(hB, .inr (1, [.ref aY_7, .int 0, .int ml, .int (nI n)]))]) [0] (by decide) rfl
    have hFc := va_free (wc := [(hB, .inr (1, [.ref aY_7, .int 0, .int ml, .int (nI n)]))]) hD hS hA [0] rfl
    refine va_calli (va_runU (C := "java/lang/StringBuilder") (owner := "java/lang/AbstractStringBuilder") (As := []) (rest := []) ⟨hx, hb, hml, hown, hts⟩ (c_J5_isLatin1_aae02 l D hB aY_7 ml n H.size ) (va_cwU 0 hts (gi_U q_372 q_374 q_375 q_373 q_85 q_376) rfl rfl rfl rfl (by decide +kernel) ⟨Nat.le_of_ble_eq_true rfl, Nat.le_of_ble_eq_true rfl⟩) ⟨cPre_blind, va_recv hK hP (ci := 1) (q0 := 0) rfl rfl, cPre_mk hPc hK hDc hN (lwZ_for hZ hS hFc)⟩ rfl rfl hl.1 rfl (lv_room (Nat.le_of_ble_eq_true rfl)) dJ5_append_3fe6f_11 ⟨(show (0 + 1) + 0 ≤ 1 from (by omega)), (show (0 + (2 * n + 2)) + 0 ≤ (2 * n + 2) from (by omega))⟩) hS (fun q h1 h2 => absurd h2 (Nat.not_le.mpr h1)) (fun q h => hA q (Nat.le_trans hS.1 h)) (fun r_11 u t H1 locs ht hvm hw hBk hz1 hk1 hS => ?_)
    have hP := va_P_ro hP hk1
    obtain ⟨hw, z_1⟩ := hw
    rw [hw] at z_1
    subst hw
    clear hBk hvm ht u hz1 hk1
    clear hPc hDc hFc; clear t
    generalize H1 = H at hP hS ⊢
    refine lv_if_eq (tgt := 45) hx hb dJ5_append_3fe6f_14 (by decide) (fun c_2 => ?_) (fun c_2 => ?_)
    · exact absurd c_2 (by decide)
    · refine lv_iload_n hx hb dJ5_append_3fe6f_17 rfl (lv_at hl 1 rfl) ?_
      have hPc := hP.sub (ws' := []) [] rfl
      have hDc := hD.sub (ws' := []) [] (by decide) rfl
      have hFc := va_free (wc := []) hD hS hA [] rfl
      refine va_calli (va_runS (As := [.int x1]) (rest := []) ⟨hx, hb, hml, hown, hts⟩ (c_J1_canEncode_fc78d l D x1 H.size ) ⟨callB_of 1 hts (gi_sub q_1029) rfl rfl rfl (hts _ q_99) (hts _ q_1027) (by decide +kernel) ⟨Nat.le_of_ble_eq_true rfl, Nat.le_of_ble_eq_true rfl⟩, (hts _ q_1028)⟩ ⟨cPre_blind, cPre_mk hPc hK hDc hN (lwZ_for hZ hS hFc)⟩ rfl rfl hl.1 rfl (lv_room (Nat.le_of_ble_eq_true rfl)) dJ5_append_3fe6f_18 ⟨(show (0 + 1) + 0 ≤ 1 from (by omega)), (show (0 + (2 * n + 2)) + 0 ≤ (2 * n + 2) from (by omega))⟩) hS (fun q h1 h2 => absurd h2 (Nat.not_le.mpr h1)) (fun q h => hA q (Nat.le_trans hS.1 h)) (fun r_18 u t H1 locs ht hvm hw hBk hz1 hk1 hS => ?_)
      have hP := va_P_ro hP hk1
      obtain ⟨hw, z_3⟩ := hw
      rw [hw] at z_3
      subst hw
      clear hBk hvm ht u hz1 hk1
      clear hPc hDc hFc; clear t
      generalize H1 = H at hP hS ⊢
      refine lv_if_eq (tgt := 45) hx hb dJ5_append_3fe6f_21 (by decide) (fun c_4 => ?_) (fun c_4 => ?_)
      · exact absurd c_4 (by unfold F_J1_canEncode_fc78d; rw [if_neg hch]; decide)
      · refine lv_aload_n hx hb dJ5_append_3fe6f_24 rfl (lv_at hl 0 rfl) ?_
        refine va_get (D := D) (ci := 1) (v := .ref aY_7) (C := RJ4) (T := TJ4) (N := 4) hx hb hts in_J4 hown hK hP 0 rfl rfl 0 (by decide) (hts _ q_239) (fun _ h9 => h9) rfl dJ5_append_3fe6f_25 ?_
        refine lv_aload_n hx hb dJ5_append_3fe6f_28 rfl (lv_at hl 0 rfl) ?_
        refine lv_dup hx hb dJ5_append_3fe6f_29 rfl ?_
        refine va_get (D := D) (ci := 1) (v := .int (nI n)) (C := RJ4) (T := TJ4) (N := 4) hx hb hts in_J4 hown hK hP 0 rfl rfl 3 (by decide) (hts _ q_243) (fun _ h9 => h9) rfl dJ5_append_3fe6f_30 ?_
        refine lv_dup_x1 hx hb dJ5_append_3fe6f_33 rfl rfl ?_
        refine lv_iconst (v := 1) hx hb dJ5_append_3fe6f_34 (by decide) ?_
        refine lv_iadd hx hb dJ5_append_3fe6f_35 ?_
        rw [nI_1 n]
        refine va_put (D := D) (ci := 1) (v := .int (nI (n + 1))) (ty := .int) (C := RJ4) (T := TJ4) (N := 4) hx hb hts in_J4 tyJ4 tyJ4_ok nmJ4 hown hK hP hD hS 0 rfl rfl 3 (by decide) (hts _ q_243) (fun _ h9 => h9) rfl (by decide +kernel) rfl rfl (Nat.le_of_ble_eq_true rfl) dJ5_append_3fe6f_36 (fun H locs hP hD hS => ?_)
        have hP : va_P D vwCl [(hB, .inr (1, [.ref aY_7, .int 0, .int ml, .int (nI (n + 1))])), (aY_7, .inl ((D.1 100), ((F_J5_ensureCapacityInternal_d00dfB n fY).1), .inl ((F_J5_ensureCapacityInternal_d00dfB n fY).2)))] H := hP
        have hD : va_D A [(hB, .inr (1, [.ref aY_7, .int 0, .int ml, .int (nI (n + 1))])), (aY_7, .inl ((D.1 100), ((F_J5_ensureCapacityInternal_d00dfB n fY).1), .inl ((F_J5_ensureCapacityInternal_d00dfB n fY).2)))] := hD
        refine lv_iload_n hx hb dJ5_append_3fe6f_39 rfl (lv_at hl 1 rfl) ?_
        refine lv_i2b (v := x1.toInt8.toInt32) hx hb dJ5_append_3fe6f_40 rfl ?_
        refine va_bast hx hb hK hP hD hS 1 0 rfl rfl (show vp_in (nI n) (2 * n + 2) from vp_in_nI (by omega) (by omega)) dJ5_append_3fe6f_41 (fun H locs hP hD hS => ?_)
        rw [nI_clamp (by omega)] at hP hD
        have hP : va_P D vwCl [(hB, .inr (1, [.ref aY_7, .int 0, .int ml, .int (nI (n + 1))])), (aY_7, .inl ((D.1 100), ((F_J5_ensureCapacityInternal_d00dfB n fY).1), .inl (upd ((F_J5_ensureCapacityInternal_d00dfB n fY).2) n (vp_nar .byte x1.toInt8.toInt32))))] H := hP
        have hD : va_D A [(hB, .inr (1, [.ref aY_7, .int 0, .int ml, .int (nI (n + 1))])), (aY_7, .inl ((D.1 100), ((F_J5_ensureCapacityInternal_d00dfB n fY).1), .inl (upd ((F_J5_ensureCapacityInternal_d00dfB n fY).2) n (vp_nar .byte x1.toInt8.toInt32))))] := hD
        refine lv_goto (tgt := 75) hx hb dJ5_append_3fe6f_42 (by decide) ?_
        refine lv_aload_n hx hb dJ5_append_3fe6f_75 rfl (lv_at hl 0 rfl) ?_
        subst hQe
        subst hAe
        have hE : (F_J5_append_3fe6fB n fY x1) = ((n + 1), ((F_J5_ensureCapacityInternal_d00dfB n fY).1), upd ((F_J5_ensureCapacityInternal_d00dfB n fY).2) n (vp_nar .byte x1.toInt8.toInt32)) := (by rfl)
        refine W.widen (k := 1) (n := 2 * n + 2) (by omega) (by omega) ?_
        have hP9 := hP.sub (ws' := [(hB, .inr (1, [.ref aY_7, .int 0, .int ml, .int (nI (n + 1))])), (aY_7, .inl ((D.1 100), ((F_J5_ensureCapacityInternal_d00dfB n fY).1), .inl (upd ((F_J5_ensureCapacityInternal_d00dfB n fY).2) n (vp_nar .byte x1.toInt8.toInt32))))]) [0, 1] rfl
        have hD9 := hD.sub (ws' := [(hB, .inr (1, [.ref aY_7, .int 0, .int ml, .int (nI (n + 1))])), (aY_7, .inl ((D.1 100), ((F_J5_ensureCapacityInternal_d00dfB n fY).1), .inl (upd ((F_J5_ensureCapacityInternal_d00dfB n fY).2) n (vp_nar .byte x1.toInt8.toInt32))))]) [0, 1] (by decide) rfl
        exact W.aret (v := .ref hB) hx hb hr (by first | exact Or.inl ⟨_, rfl⟩ | exact Or.inr ⟨_, rfl⟩) (Or.inr ⟨_, rfl⟩) (fun t ht hW => ⟨⟨aY_7, hB, rfl, trivial, rfl, (by (try rw [hE]); rw [ht]; exact hP9), (by (try rw [hE]); exact hD9)⟩, hS.F ht⟩) hS.2.2 dJ5_append_3fe6f_76
  rw [hHe, hLe] at hgoal
  exact hgoal

def F_J4_append_cf468A (n : Nat) (fY : Nat → Int32) (x1 : Int32) : Nat × (Nat → Int32) := (((F_J5_append_3fe6fA n fY x1).1), (F_J5_append_3fe6fA n fY x1).2)
set_option maxHeartbeats 4000000 in
set_option maxRecDepth 100000 in
theorem c_J4_append_cf468A (l : Launch) (D : va_G) (hB : Nat) (aY : Nat) (ml : Int32) (n : Nat) (cap : Nat) (fY : Nat → Int32) (x1 : Int32) (sz : Nat) (hn : n < cap) (hcap : cap ≤ 1000) (hch : ¬ 255 < x1) : Met l yJ4_append_cf468 (Cond.code yJ4_append_cf468 cJ4_append_cf468 2 (some (.object "java/lang/StringBuilder")) :: lwAll) ({ frames := 2, cells := 0, slots := 0, locals := 43 } : Room) (va_Pc [.ref hB, .int x1] (cPre D (lwTY D) [(hB, .inr (1, [.ref aY, .int 0, .int ml, .int (nI n)])), (aY, .inl ((D.1 100), cap, .inl fY))] sz)) (va_Qr (fun (_ : Unit) => True) (fun (_ : Unit) (ra : Nat) t => ra = hB ∧ va_P D vwCl [(hB, .inr (1, [.ref aY, .int 0, .int ml, .int (nI ((F_J4_append_cf468A n fY x1).1))])), (aY, .inl ((D.1 100), cap, .inl ((F_J4_append_cf468A n fY x1).2)))] t.heap ∧ va_D (va_A [(hB, .inr (1, [.ref aY, .int 0, .int ml, .int (nI n)])), (aY, .inl ((D.1 100), cap, .inl fY))] sz) [(hB, .inr (1, [.ref aY, .int 0, .int ml, .int (nI ((F_J4_append_cf468A n fY x1).1))])), (aY, .inl ((D.1 100), cap, .inl ((F_J4_append_cf468A n fY x1).2)))]) (va_A [(hB, .inr (1, [.ref aY, .int 0, .int ml, .int (nI n)])), (aY, .inl ((D.1 100), cap, .inl fY))] sz)) 0 0 (va_A [(hB, .inr (1, [.ref aY, .int 0, .int ml, .int (nI n)])), (aY, .inl ((D.1 100), cap, .inl fY))] sz) := by
  refine Met.ofW (cc := cJ4_append_cf468) (maxL := 2) (ret := (some (.object "java/lang/StringBuilder"))) (by decide) rfl ?_
  intro p e s m args below meth c s₁ B hml hv
  obtain ⟨rfl, hsz, hP, hK, hD0, hN, hZ⟩ := hv
  have hx := B.exec
  have hb := B.bytes
  have hr := B.returns
  have hts : ∀ wd ∈ lwAll, wd.before ([.ref hB, .int x1] : List Value).toArray s = true := fun wd h => atoms_spec (ws := (Cond.code yJ4_append_cf468 cJ4_append_cf468 2 (some (.object "java/lang/StringBuilder")) :: lwAll)) B.pre wd (List.mem_cons_of_mem _ h)
  have hown : s.vm.findClass RJ4 = some m.cls := findClass_of_methodNamed B.named
  have hlocks := B.notSynchronized
  subst hsz
  have hD := hD0.self (sz := s.heap.size)
  have hl := lv_entry ([.ref hB, .int x1]) (n := 2) (Nat.le_of_ble_eq_true rfl)
  rw [lg_entry_eq]
  generalize (lg_sl ([.ref hB, .int x1]) ++ List.replicate (2 - (lg_sl ([.ref hB, .int x1])).length) Slot.unset).toArray = ls at hl ⊢
  have hl : lv_has ls 2 [(0, .ref hB), (1, .int x1)] := hl
  have hS : va_S (va_A [(hB, .inr (1, [.ref aY, .int 0, .int ml, .int (nI n)])), (aY, .inl ((D.1 100), cap, .inl fY))] s.heap.size) s.heap s.heap [] := va_S.rf
  generalize hQe : MQ below (va_Qr (fun (_ : Unit) => True) (fun (_ : Unit) (ra : Nat) t => ra = hB ∧ va_P D vwCl [(hB, .inr (1, [.ref aY, .int 0, .int ml, .int (nI ((F_J4_append_cf468A n fY x1).1))])), (aY, .inl ((D.1 100), cap, .inl ((F_J4_append_cf468A n fY x1).2)))] t.heap ∧ va_D (va_A [(hB, .inr (1, [.ref aY, .int 0, .int ml, .int (nI n)])), (aY, .inl ((D.1 100), cap, .inl fY))] s.heap.size) [(hB, .inr (1, [.ref aY, .int 0, .int ml, .int (nI ((F_J4_append_cf468A n fY x1).1))])), (aY, .inl ((D.1 100), cap, .inl ((F_J4_append_cf468A n fY x1).2)))]) (va_A [(hB, .inr (1, [.ref aY, .int 0, .int ml, .int (nI n)])), (aY, .inl ((D.1 100), cap, .inl fY))] s.heap.size)) ([.ref hB, .int x1] : List Value).toArray s 0 0 (va_A [(hB, .inr (1, [.ref aY, .int 0, .int ml, .int (nI n)])), (aY, .inl ((D.1 100), cap, .inl fY))] s.heap.size) = Q
  have hP : va_P D vwCl [(hB, .inr (1, [.ref aY, .int 0, .int ml, .int (nI n)])), (aY, .inl ((D.1 100), cap, .inl fY))] s.heap := hP
  obtain ⟨A, hAe⟩ : ∃ A, A = va_A [(hB, .inr (1, [.ref aY, .int 0, .int ml, .int (nI n)])), (aY, .inl ((D.1 100), cap, .inl fY))] s.heap.size := ⟨_, rfl⟩
  rw [← hAe] at hD hZ hS
  have hA : ∀ q : Nat, s.heap.size ≤ q → A q := fun q h => by rw [hAe]; exact Or.inr h
  obtain ⟨H, hHe⟩ : ∃ H, H = s.heap := ⟨_, rfl⟩
  obtain ⟨locs, hLe⟩ : ∃ L : List Loc, L = [] := ⟨_, rfl⟩
  have hP : va_P D vwCl [(hB, .inr (1, [.ref aY, .int 0, .int ml, .int (nI n)])), (aY, .inl ((D.1 100), cap, .inl fY))] H := by rw [hHe]; exact hP
  have hS : va_S A s.heap H locs := by rw [hHe, hLe]; exact hS
  have hgoal : W p l e ({ frames := 2, cells := 0, slots := 0, locals := 43 } : Room) s m ([.ref hB, .int x1] : List Value).toArray below meth c H locs 0 0 Q (F0 m 0 ls []) := by
    clear hHe hLe
    refine lv_aload_n hx hb dJ4_append_cf468_0 rfl (lv_at hl 0 rfl) ?_
    refine lv_iload_n hx hb dJ4_append_cf468_1 rfl (lv_at hl 1 rfl) ?_
    have hPc := hP.sub (ws' := [(hB, .inr (1, [.ref aY, .int 0, .int ml, .int (nI n)])), (aY, .inl ((D.1 100), cap, .inl fY))]) [0, 1] rfl
    have hDc := hD.sub (ws' := [(hB, .inr (1, [.ref aY, .int 0, .int ml, .int (nI n)])), (aY, .inl ((D.1 100), cap, .inl fY))]) [0, 1] (by decide) rfl
    have hFc := va_free (wc := [(hB, .inr (1, [.ref aY, .int 0, .int ml, .int (nI n)])), (aY, .inl ((D.1 100), cap, .inl fY))]) hD hS hA [0, 1] rfl
    refine va_callr (va_runSU (hK.1 1 _ rfl).2 (As := [.int x1]) (rest := []) ⟨hx, hb, hml, hown, hts⟩ (c_J5_append_3fe6fA l D hB aY ml n cap fY x1 H.size (show n < cap from (by omega)) (show cap ≤ 1000 from (by omega)) (show ¬ 255 < x1 from (by assumption))) (va_cwSU 1 hts (gi_SU q_1024 q_1668 q_252 q_1025 q_85 q_1026) rfl rfl rfl (by decide +kernel) ⟨Nat.le_of_ble_eq_true rfl, Nat.le_of_ble_eq_true rfl⟩) ⟨cPre_blind, va_recv hK hP (ci := 1) (q0 := 0) rfl rfl, cPre_mk hPc hK hDc hN (lwZ_for hZ hS hFc)⟩ rfl rfl hl.1 rfl (lv_room (Nat.le_of_ble_eq_true rfl)) dJ4_append_cf468_2 ⟨(Nat.le_of_ble_eq_true rfl), (Nat.le_of_ble_eq_true rfl)⟩) hS (fun q _ h => hFc q h) hFc (fun u ra_2 t H1 locs ht hvm hw hBk hz1 hk1 hS => ?_)
    obtain ⟨hra, hP1, hD1⟩ := hBk
    have hra2 := hra.symm
    subst hra2
    rw [ht] at hP1
    obtain ⟨hP, hD⟩ := va_join (wr := []) (w1 := [(hB, .inr (1, [.ref aY, .int 0, .int ml, .int (nI ((F_J5_append_3fe6fA n fY x1).1))])), (aY, .inl ((D.1 100), cap, .inl ((F_J5_append_3fe6fA n fY x1).2)))]) hP hD [0, 1] [] rfl rfl (by decide) (by decide) hk1 hFc hP1 hD1
    clear hPc hDc hFc hP1 hD1 hk1 hz1
    clear hvm ht u; clear t
    generalize H1 = H at hP hS ⊢
    have hP : va_P D vwCl [(hB, .inr (1, [.ref aY, .int 0, .int ml, .int (nI ((F_J5_append_3fe6fA n fY x1).1))])), (aY, .inl ((D.1 100), cap, .inl ((F_J5_append_3fe6fA n fY x1).2)))] H := hP
    have hD : va_D A [(hB, .inr (1, [.ref aY, .int 0, .int ml, .int (nI ((F_J5_append_3fe6fA n fY x1).1))])), (aY, .inl ((D.1 100), cap, .inl ((F_J5_append_3fe6fA n fY x1).2)))] := hD
    refine lv_pop hx hb dJ4_append_cf468_5 rfl ?_
    refine lv_aload_n hx hb dJ4_append_cf468_6 rfl (lv_at hl 0 rfl) ?_
    subst hQe
    subst hAe
    have hE : (F_J4_append_cf468A n fY x1) = (((F_J5_append_3fe6fA n fY x1).1), (F_J5_append_3fe6fA n fY x1).2) := (by rfl)
    have hP9 := hP.sub (ws' := [(hB, .inr (1, [.ref aY, .int 0, .int ml, .int (nI ((F_J5_append_3fe6fA n fY x1).1))])), (aY, .inl ((D.1 100), cap, .inl ((F_J5_append_3fe6fA n fY x1).2)))]) [0, 1] rfl
    have hD9 := hD.sub (ws' := [(hB, .inr (1, [.ref aY, .int 0, .int ml, .int (nI ((F_J5_append_3fe6fA n fY x1).1))])), (aY, .inl ((D.1 100), cap, .inl ((F_J5_append_3fe6fA n fY x1).2)))]) [0, 1] (by decide) rfl
    exact W.aret (v := .ref hB) hx hb hr (by first | exact Or.inl ⟨_, rfl⟩ | exact Or.inr ⟨_, rfl⟩) (Or.inr ⟨_, rfl⟩) (fun t ht hW => ⟨⟨(), hB, rfl, trivial, rfl, (by (try rw [hE]); rw [ht]; exact hP9), (by (try rw [hE]); exact hD9)⟩, hS.F ht⟩) hS.2.2 dJ4_append_cf468_7
  rw [hHe, hLe] at hgoal
  exact hgoal

def F_J4_append_cf468B (n : Nat) (fY : Nat → Int32) (x1 : Int32) : Nat × Nat × (Nat → Int32) := (((F_J5_append_3fe6fB n fY x1).1), ((F_J5_append_3fe6fB n fY x1).2.1), (F_J5_append_3fe6fB n fY x1).2.2)
set_option maxHeartbeats 4000000 in
set_option maxRecDepth 100000 in
theorem c_J4_append_cf468B (l : Launch) (D : va_G) (hB : Nat) (aY : Nat) (ml : Int32) (n : Nat) (cap : Nat) (fY : Nat → Int32) (x1 : Int32) (sz : Nat) (hnc : n = cap) (hcap : cap ≤ 1000) (hfit : ∀ j, fits .byte (.int (fY j)) = true) (hch : ¬ 255 < x1) : Met l yJ4_append_cf468 (Cond.code yJ4_append_cf468 cJ4_append_cf468 2 (some (.object "java/lang/StringBuilder")) :: lwAll) ({ frames := 5, cells := 1, slots := 2 * cap + 2, locals := 125 } : Room) (va_Pc [.ref hB, .int x1] (cPre D (lwTY D) [(hB, .inr (1, [.ref aY, .int 0, .int ml, .int (nI n)])), (aY, .inl ((D.1 100), cap, .inl fY))] sz)) (va_Qr (fun (_ : Nat) => True) (fun (aY2 : Nat) (ra : Nat) t => ra = hB ∧ va_P D vwCl [(hB, .inr (1, [.ref aY2, .int 0, .int ml, .int (nI ((F_J4_append_cf468B n fY x1).1))])), (aY2, .inl ((D.1 100), ((F_J4_append_cf468B n fY x1).2.1), .inl ((F_J4_append_cf468B n fY x1).2.2)))] t.heap ∧ va_D (va_A [(hB, .inr (1, [.ref aY, .int 0, .int ml, .int (nI n)])), (aY, .inl ((D.1 100), cap, .inl fY))] sz) [(hB, .inr (1, [.ref aY2, .int 0, .int ml, .int (nI ((F_J4_append_cf468B n fY x1).1))])), (aY2, .inl ((D.1 100), ((F_J4_append_cf468B n fY x1).2.1), .inl ((F_J4_append_cf468B n fY x1).2.2)))]) (va_A [(hB, .inr (1, [.ref aY, .int 0, .int ml, .int (nI n)])), (aY, .inl ((D.1 100), cap, .inl fY))] sz)) 1 (2 * cap + 2) (va_A [(hB, .inr (1, [.ref aY, .int 0, .int ml, .int (nI n)])), (aY, .inl ((D.1 100), cap, .inl fY))] sz) := by
  subst hnc
  refine Met.ofW (cc := cJ4_append_cf468) (maxL := 2) (ret := (some (.object "java/lang/StringBuilder"))) (by decide) rfl ?_
  intro p e s m args below meth c s₁ B hml hv
  obtain ⟨rfl, hsz, hP, hK, hD0, hN, hZ⟩ := hv
  have hx := B.exec
  have hb := B.bytes
  have hr := B.returns
  have hts : ∀ wd ∈ lwAll, wd.before ([.ref hB, .int x1] : List Value).toArray s = true := fun wd h => atoms_spec (ws := (Cond.code yJ4_append_cf468 cJ4_append_cf468 2 (some (.object "java/lang/StringBuilder")) :: lwAll)) B.pre wd (List.mem_cons_of_mem _ h)
  have hown : s.vm.findClass RJ4 = some m.cls := findClass_of_methodNamed B.named
  have hlocks := B.notSynchronized
  subst hsz
  have hD := hD0.self (sz := s.heap.size)
  have hl := lv_entry ([.ref hB, .int x1]) (n := 2) (Nat.le_of_ble_eq_true rfl)
  rw [lg_entry_eq]
  generalize (lg_sl ([.ref hB, .int x1]) ++ List.replicate (2 - (lg_sl ([.ref hB, .int x1])).length) Slot.unset).toArray = ls at hl ⊢
  have hl : lv_has ls 2 [(0, .ref hB), (1, .int x1)] := hl
  have hS : va_S (va_A [(hB, .inr (1, [.ref aY, .int 0, .int ml, .int (nI n)])), (aY, .inl ((D.1 100), n, .inl fY))] s.heap.size) s.heap s.heap [] := va_S.rf
  generalize hQe : MQ below (va_Qr (fun (_ : Nat) => True) (fun (aY2 : Nat) (ra : Nat) t => ra = hB ∧ va_P D vwCl [(hB, .inr (1, [.ref aY2, .int 0, .int ml, .int (nI ((F_J4_append_cf468B n fY x1).1))])), (aY2, .inl ((D.1 100), ((F_J4_append_cf468B n fY x1).2.1), .inl ((F_J4_append_cf468B n fY x1).2.2)))] t.heap ∧ va_D (va_A [(hB, .inr (1, [.ref aY, .int 0, .int ml, .int (nI n)])), (aY, .inl ((D.1 100), n, .inl fY))] s.heap.size) [(hB, .inr (1, [.ref aY2, .int 0, .int ml, .int (nI ((F_J4_append_cf468B n fY x1).1))])), (aY2, .inl ((D.1 100), ((F_J4_append_cf468B n fY x1).2.1), .inl ((F_J4_append_cf468B n fY x1).2.2)))]) (va_A [(hB, .inr (1, [.ref aY, .int 0, .int ml, .int (nI n)])), (aY, .inl ((D.1 100), n, .inl fY))] s.heap.size)) ([.ref hB, .int x1] : List Value).toArray s 1 (2 * n + 2) (va_A [(hB, .inr (1, [.ref aY, .int 0, .int ml, .int (nI n)])), (aY, .inl ((D.1 100), n, .inl fY))] s.heap.size) = Q
  have hP : va_P D vwCl [(hB, .inr (1, [.ref aY, .int 0, .int ml, .int (nI n)])), (aY, .inl ((D.1 100), n, .inl fY))] s.heap := hP
  obtain ⟨A, hAe⟩ : ∃ A, A = va_A [(hB, .inr (1, [.ref aY, .int 0, .int ml, .int (nI n)])), (aY, .inl ((D.1 100), n, .inl fY))] s.heap.size := ⟨_, rfl⟩
  rw [← hAe] at hD hZ hS
  have hA : ∀ q : Nat, s.heap.size ≤ q → A q := fun q h => by rw [hAe]; exact Or.inr h
  obtain ⟨H, hHe⟩ : ∃ H, H = s.heap := ⟨_, rfl⟩
  obtain ⟨locs, hLe⟩ : ∃ L : List Loc, L = [] := ⟨_, rfl⟩
  have hP : va_P D vwCl [(hB, .inr (1, [.ref aY, .int 0, .int ml, .int (nI n)])), (aY, .inl ((D.1 100), n, .inl fY))] H := by rw [hHe]; exact hP
  have hS : va_S A s.heap H locs := by rw [hHe, hLe]; exact hS
  have hgoal : W p l e ({ frames := 5, cells := 1, slots := 2 * n + 2, locals := 125 } : Room) s m ([.ref hB, .int x1] : List Value).toArray below meth c H locs 0 0 Q (F0 m 0 ls []) := by
    clear hHe hLe
    refine lv_aload_n hx hb dJ4_append_cf468_0 rfl (lv_at hl 0 rfl) ?_
    refine lv_iload_n hx hb dJ4_append_cf468_1 rfl (lv_at hl 1 rfl) ?_
    have hPc := hP.sub (ws' := [(hB, .inr (1, [.ref aY, .int 0, .int ml, .int (nI n)])), (aY, .inl ((D.1 100), n, .inl fY))]) [0, 1] rfl
    have hDc := hD.sub (ws' := [(hB, .inr (1, [.ref aY, .int 0, .int ml, .int (nI n)])), (aY, .inl ((D.1 100), n, .inl fY))]) [0, 1] (by decide) rfl
    have hFc := va_free (wc := [(hB, .inr (1, [.ref aY, .int 0, .int ml, .int (nI n)])), (aY, .inl ((D.1 100), n, .inl fY))]) hD hS hA [0, 1] rfl
    refine va_callr (va_runSU (hK.1 1 _ rfl).2 (As := [.int x1]) (rest := []) ⟨hx, hb, hml, hown, hts⟩ (c_J5_append_3fe6fB l D hB aY ml n n fY x1 H.size (show n = n from (by omega)) (show n ≤ 1000 from (by omega)) (show ∀ j, fits .byte (.int (fY j)) = true from (by assumption)) (show ¬ 255 < x1 from (by assumption))) (va_cwSU 1 hts (gi_SU q_1024 q_1668 q_252 q_1025 q_85 q_1026) rfl rfl rfl (by decide +kernel) ⟨Nat.le_of_ble_eq_true rfl, Nat.le_of_ble_eq_true rfl⟩) ⟨cPre_blind, va_recv hK hP (ci := 1) (q0 := 0) rfl rfl, cPre_mk hPc hK hDc hN (lwZ_for hZ hS hFc)⟩ rfl rfl hl.1 rfl (lv_room (Nat.le_of_ble_eq_true rfl)) dJ4_append_cf468_2 ⟨(show 0 + 1 ≤ 1 from (by omega)), (show 0 + (2 * n + 2) ≤ (2 * n + 2) from (by omega))⟩) hS (fun q _ h => hFc q h) hFc (fun u ra_2 t H1 locs ht hvm hw hBk hz1 hk1 hS => ?_)
    obtain ⟨aY_2, rfl⟩ : ∃ z, z = u := ⟨_, rfl⟩
    obtain ⟨hra, hP1, hD1⟩ := hBk
    have hra2 := hra.symm
    subst hra2
    rw [ht] at hP1
    obtain ⟨hP, hD⟩ := va_join (wr := []) (w1 := [(hB, .inr (1, [.ref aY_2, .int 0, .int ml, .int (nI ((F_J5_append_3fe6fB n fY x1).1))])), (aY_2, .inl ((D.1 100), ((F_J5_append_3fe6fB n fY x1).2.1), .inl ((F_J5_append_3fe6fB n fY x1).2.2)))]) hP hD [0, 1] [] rfl rfl (by decide) (by decide) hk1 hFc hP1 hD1
    clear hPc hDc hFc hP1 hD1 hk1 hz1
    clear hvm ht; clear t
    generalize H1 = H at hP hS ⊢
    have hP : va_P D vwCl [(hB, .inr (1, [.ref aY_2, .int 0, .int ml, .int (nI ((F_J5_append_3fe6fB n fY x1).1))])), (aY_2, .inl ((D.1 100), ((F_J5_append_3fe6fB n fY x1).2.1), .inl ((F_J5_append_3fe6fB n fY x1).2.2)))] H := hP
    have hD : va_D A [(hB, .inr (1, [.ref aY_2, .int 0, .int ml, .int (nI ((F_J5_append_3fe6fB n fY x1).1))])), (aY_2, .inl ((D.1 100), ((F_J5_append_3fe6fB n fY x1).2.1), .inl ((F_J5_append_3fe6fB n fY x1).2.2)))] := hD
    refine lv_pop hx hb dJ4_append_cf468_5 rfl ?_
    refine lv_aload_n hx hb dJ4_append_cf468_6 rfl (lv_at hl 0 rfl) ?_
    subst hQe
    subst hAe
    have hE : (F_J4_append_cf468B n fY x1) = (((F_J5_append_3fe6fB n fY x1).1), ((F_J5_append_3fe6fB n fY x1).2.1), (F_J5_append_3fe6fB n fY x1).2.2) := (by rfl)
    refine W.widen (k := 1) (n := 2 * n + 2) (by omega) (by omega) ?_
    have hP9 := hP.sub (ws' := [(hB, .inr (1, [.ref aY_2, .int 0, .int ml, .int (nI ((F_J5_append_3fe6fB n fY x1).1))])), (aY_2, .inl ((D.1 100), ((F_J5_append_3fe6fB n fY x1).2.1), .inl ((F_J5_append_3fe6fB n fY x1).2.2)))]) [0, 1] rfl
    have hD9 := hD.sub (ws' := [(hB, .inr (1, [.ref aY_2, .int 0, .int ml, .int (nI ((F_J5_append_3fe6fB n fY x1).1))])), (aY_2, .inl ((D.1 100), ((F_J5_append_3fe6fB n fY x1).2.1), .inl ((F_J5_append_3fe6fB n fY x1).2.2)))]) [0, 1] (by decide) rfl
    exact W.aret (v := .ref hB) hx hb hr (by first | exact Or.inl ⟨_, rfl⟩ | exact Or.inr ⟨_, rfl⟩) (Or.inr ⟨_, rfl⟩) (fun t ht hW => ⟨⟨aY_2, hB, rfl, trivial, rfl, (by (try rw [hE]); rw [ht]; exact hP9), (by (try rw [hE]); exact hD9)⟩, hS.F ht⟩) hS.2.2 dJ4_append_cf468_7
  rw [hHe, hLe] at hgoal
  exact hgoal

def F_J5_setLength_d00df (ml : Int32) (n : Nat) (q : Nat) : Int32 × Nat := (if (nI n) ≤ (nI q) then (ml, q) else (1, q))
set_option maxHeartbeats 4000000 in
set_option maxRecDepth 100000 in
theorem c_J5_setLength_d00df (l : Launch) (D : va_G) (hB : Nat) (aY : Nat) (ml : Int32) (n : Nat) (cap : Nat) (fY : Nat → Int32) (q : Nat) (x1 : Int32) (sz : Nat) (hq : q ≤ n) (hn : n ≤ cap) (hcap : cap ≤ 1000) (hx1 : x1 = nI q) : Met l yJ5_setLength_d00df (Cond.code yJ5_setLength_d00df cJ5_setLength_d00df 2 none :: lwAll) ({ frames := 1, cells := 0, slots := 0, locals := 22 } : Room) (va_Pc [.ref hB, .int x1] (cPre D (lwTY D) [(hB, .inr (1, [.ref aY, .int 0, .int ml, .int (nI n)])), (aY, .inl ((D.1 100), cap, .inl fY))] sz)) (va_Qv (fun (_ : Unit) => True) (fun (_ : Unit) t => va_P D vwCl [(hB, .inr (1, [.ref aY, .int 0, .int ((F_J5_setLength_d00df ml n q).1), .int (nI ((F_J5_setLength_d00df ml n q).2))])), (aY, .inl ((D.1 100), cap, .inl fY))] t.heap ∧ va_D (va_A [(hB, .inr (1, [.ref aY, .int 0, .int ml, .int (nI n)])), (aY, .inl ((D.1 100), cap, .inl fY))] sz) [(hB, .inr (1, [.ref aY, .int 0, .int ((F_J5_setLength_d00df ml n q).1), .int (nI ((F_J5_setLength_d00df ml n q).2))])), (aY, .inl ((D.1 100), cap, .inl fY))]) (va_A [(hB, .inr (1, [.ref aY, .int 0, .int ml, .int (nI n)])), (aY, .inl ((D.1 100), cap, .inl fY))] sz)) 0 0 (va_A [(hB, .inr (1, [.ref aY, .int 0, .int ml, .int (nI n)])), (aY, .inl ((D.1 100), cap, .inl fY))] sz) := by
  subst hx1
  refine Met.ofW (cc := cJ5_setLength_d00df) (maxL := 2) (ret := none) (by decide) rfl ?_
  intro p e s m args below meth c s₁ B hml hv
  obtain ⟨rfl, hsz, hP, hK, hD0, hN, hZ⟩ := hv
  have hx := B.exec
  have hb := B.bytes
  have hr := B.returns
  have hts : ∀ wd ∈ lwAll, wd.before ([.ref hB, .int (nI q)] : List Value).toArray s = true := fun wd h => atoms_spec (ws := (Cond.code yJ5_setLength_d00df cJ5_setLength_d00df 2 none :: lwAll)) B.pre wd (List.mem_cons_of_mem _ h)
  have hown : s.vm.findClass RJ5 = some m.cls := findClass_of_methodNamed B.named
  have hlocks := B.notSynchronized
  subst hsz
  have hD := hD0.self (sz := s.heap.size)
  have hl := lv_entry ([.ref hB, .int (nI q)]) (n := 2) (Nat.le_of_ble_eq_true rfl)
  rw [lg_entry_eq]
  generalize (lg_sl ([.ref hB, .int (nI q)]) ++ List.replicate (2 - (lg_sl ([.ref hB, .int (nI q)])).length) Slot.unset).toArray = ls at hl ⊢
  have hl : lv_has ls 2 [(0, .ref hB), (1, .int (nI q))] := hl
  have hS : va_S (va_A [(hB, .inr (1, [.ref aY, .int 0, .int ml, .int (nI n)])), (aY, .inl ((D.1 100), cap, .inl fY))] s.heap.size) s.heap s.heap [] := va_S.rf
  generalize hQe : MQ below (va_Qv (fun (_ : Unit) => True) (fun (_ : Unit) t => va_P D vwCl [(hB, .inr (1, [.ref aY, .int 0, .int ((F_J5_setLength_d00df ml n q).1), .int (nI ((F_J5_setLength_d00df ml n q).2))])), (aY, .inl ((D.1 100), cap, .inl fY))] t.heap ∧ va_D (va_A [(hB, .inr (1, [.ref aY, .int 0, .int ml, .int (nI n)])), (aY, .inl ((D.1 100), cap, .inl fY))] s.heap.size) [(hB, .inr (1, [.ref aY, .int 0, .int ((F_J5_setLength_d00df ml n q).1), .int (nI ((F_J5_setLength_d00df ml n q).2))])), (aY, .inl ((D.1 100), cap, .inl fY))]) (va_A [(hB, .inr (1, [.ref aY, .int 0, .int ml, .int (nI n)])), (aY, .inl ((D.1 100), cap, .inl fY))] s.heap.size)) ([.ref hB, .int (nI q)] : List Value).toArray s 0 0 (va_A [(hB, .inr (1, [.ref aY, .int 0, .int ml, .int (nI n)])), (aY, .inl ((D.1 100), cap, .inl fY))] s.heap.size) = Q
  have hP : va_P D vwCl [(hB, .inr (1, [.ref aY, .int 0, .int ml, .int (nI n)])), (aY, .inl ((D.1 100), cap, .inl fY))] s.heap := hP
  obtain ⟨A, hAe⟩ : ∃ A, A = va_A [(hB, .inr (1, [.ref aY, .int 0, .int ml, .int (nI n)])), (aY, .inl ((D.1 100), cap, .inl fY))] s.heap.size := ⟨_, rfl⟩
  rw [← hAe] at hD hZ hS
  have hA : ∀ q : Nat, s.heap.size ≤ q → A q := fun q h => by rw [hAe]; exact Or.inr h
  obtain ⟨H, hHe⟩ : ∃ H, H = s.heap := ⟨_, rfl⟩
  obtain ⟨locs, hLe⟩ : ∃ L : List Loc, L = [] := ⟨_, rfl⟩
  have hP : va_P D vwCl [(hB, .inr (1, [.ref aY, .int 0, .int ml, .int (nI n)])), (aY, .inl ((D.1 100), cap, .inl fY))] H := by rw [hHe]; exact hP
  have hS : va_S A s.heap H locs := by rw [hHe, hLe]; exact hS
  have hgoal : W p l e ({ frames := 1, cells := 0, slots := 0, locals := 22 } : Room) s m ([.ref hB, .int (nI q)] : List Value).toArray below meth c H locs 0 0 Q (F0 m 0 ls []) := by
    clear hHe hLe
    refine lv_iload_n hx hb dJ5_setLength_d00df_0 rfl (lv_at hl 1 rfl) ?_
    refine lv_if_ge (tgt := 13) hx hb dJ5_setLength_d00df_1 (by decide) (fun c_1 => ?_) (fun c_1 => ?_)
    · refine lv_aload_n hx hb dJ5_setLength_d00df_13 rfl (lv_at hl 0 rfl) ?_
      refine lv_iload_n hx hb dJ5_setLength_d00df_14 rfl (lv_at hl 1 rfl) ?_
      have hPc := hP.sub (ws' := [(hB, .inr (1, [.ref aY, .int 0, .int ml, .int (nI n)])), (aY, .inl ((D.1 100), cap, .inl fY))]) [0, 1] rfl
      have hDc := hD.sub (ws' := [(hB, .inr (1, [.ref aY, .int 0, .int ml, .int (nI n)])), (aY, .inl ((D.1 100), cap, .inl fY))]) [0, 1] (by decide) rfl
      have hFc := va_free (wc := [(hB, .inr (1, [.ref aY, .int 0, .int ml, .int (nI n)])), (aY, .inl ((D.1 100), cap, .inl fY))]) hD hS hA [0, 1] rfl
      refine va_callv (va_runU (C := "java/lang/StringBuilder") (owner := "java/lang/AbstractStringBuilder") (As := [.int (nI q)]) (rest := []) ⟨hx, hb, hml, hown, hts⟩ (c_J5_ensureCapacityInternal_d00dfA l D hB aY ml n cap fY q (nI q) H.size (show q ≤ cap from (by omega)) (show cap ≤ 1000 from (by omega)) (show (nI q) = nI q from rfl)) (va_cwU 1 hts (gi_U q_337 q_1659 q_1696 q_339 q_85 q_340) rfl rfl rfl rfl (by decide +kernel) ⟨Nat.le_of_ble_eq_true rfl, Nat.le_of_ble_eq_true rfl⟩) ⟨cPre_blind, va_recv hK hP (ci := 1) (q0 := 0) rfl rfl, cPre_mk hPc hK hDc hN (lwZ_for hZ hS hFc)⟩ rfl rfl hl.1 rfl (lv_room (Nat.le_of_ble_eq_true rfl)) dJ5_setLength_d00df_15 ⟨(Nat.le_of_ble_eq_true rfl), (Nat.le_of_ble_eq_true rfl)⟩) hS (fun q h1 h2 => absurd h2 (Nat.not_le.mpr h1)) (fun q h => hA q (Nat.le_trans hS.1 h)) (fun u t H1 locs ht hvm hw hBk hz1 hk1 hS => ?_)
      have hP := va_P_ro hP hk1
      clear hBk hvm ht u hz1 hk1
      clear hPc hDc hFc; clear t
      generalize H1 = H at hP hS ⊢
      refine lv_aload_n hx hb dJ5_setLength_d00df_18 rfl (lv_at hl 0 rfl) ?_
      refine va_get (D := D) (ci := 1) (v := .int (nI n)) (C := RJ4) (T := TJ4) (N := 4) hx hb hts in_J4 hown hK hP 0 rfl rfl 3 (by decide) (hts _ q_243) (fun _ h9 => h9) rfl dJ5_setLength_d00df_19 ?_
      refine lv_iload_n hx hb dJ5_setLength_d00df_22 rfl (lv_at hl 1 rfl) ?_
      refine lv_icmp_ge (tgt := 63) hx hb dJ5_setLength_d00df_23 (by decide) (fun c_2 => ?_) (fun c_2 => ?_)
      · refine lv_aload_n hx hb dJ5_setLength_d00df_63 rfl (lv_at hl 0 rfl) ?_
        refine va_get (D := D) (ci := 1) (v := .int (nI n)) (C := RJ4) (T := TJ4) (N := 4) hx hb hts in_J4 hown hK hP 0 rfl rfl 3 (by decide) (hts _ q_243) (fun _ h9 => h9) rfl dJ5_setLength_d00df_64 ?_
        refine lv_iload_n hx hb dJ5_setLength_d00df_67 rfl (lv_at hl 1 rfl) ?_
        refine lv_icmp_le (tgt := 76) hx hb dJ5_setLength_d00df_68 (by decide) (fun c_3 => ?_) (fun c_3 => ?_)
        · refine lv_aload_n hx hb dJ5_setLength_d00df_76 rfl (lv_at hl 0 rfl) ?_
          refine lv_iload_n hx hb dJ5_setLength_d00df_77 rfl (lv_at hl 1 rfl) ?_
          refine va_put (D := D) (ci := 1) (v := .int (nI q)) (ty := .int) (C := RJ4) (T := TJ4) (N := 4) hx hb hts in_J4 tyJ4 tyJ4_ok nmJ4 hown hK hP hD hS 0 rfl rfl 3 (by decide) (hts _ q_243) (fun _ h9 => h9) rfl (by decide +kernel) rfl rfl (Nat.le_of_ble_eq_true rfl) dJ5_setLength_d00df_78 (fun H locs hP hD hS => ?_)
          have hP : va_P D vwCl [(hB, .inr (1, [.ref aY, .int 0, .int ml, .int (nI q)])), (aY, .inl ((D.1 100), cap, .inl fY))] H := hP
          have hD : va_D A [(hB, .inr (1, [.ref aY, .int 0, .int ml, .int (nI q)])), (aY, .inl ((D.1 100), cap, .inl fY))] := hD
          subst hQe
          subst hAe
          have hE : (F_J5_setLength_d00df ml n q) = (ml, q) := (by unfold F_J5_setLength_d00df; rw [if_pos c_3])
          have hP9 := hP.sub (ws' := [(hB, .inr (1, [.ref aY, .int 0, .int ml, .int (nI q)])), (aY, .inl ((D.1 100), cap, .inl fY))]) [0, 1] rfl
          have hD9 := hD.sub (ws' := [(hB, .inr (1, [.ref aY, .int 0, .int ml, .int (nI q)])), (aY, .inl ((D.1 100), cap, .inl fY))]) [0, 1] (by decide) rfl
          exact W.vret hx hb hr (fun t ht hW => ⟨⟨(), rfl, trivial, (by (try rw [hE]); rw [ht]; exact hP9), (by (try rw [hE]); exact hD9)⟩, hS.F ht⟩) hS.2.2 dJ5_setLength_d00df_81
        · refine lv_aload_n hx hb dJ5_setLength_d00df_71 rfl (lv_at hl 0 rfl) ?_
          refine lv_iconst (v := 1) hx hb dJ5_setLength_d00df_72 (by decide) ?_
          refine va_put (D := D) (ci := 1) (v := .int 1) (ty := .boolean) (C := RJ4) (T := TJ4) (N := 4) hx hb hts in_J4 tyJ4 tyJ4_ok nmJ4 hown hK hP hD hS 0 rfl rfl 2 (by decide) (hts _ q_241) (fun _ h9 => h9) rfl (by decide +kernel) rfl rfl (Nat.le_of_ble_eq_true rfl) dJ5_setLength_d00df_73 (fun H locs hP hD hS => ?_)
          have hP : va_P D vwCl [(hB, .inr (1, [.ref aY, .int 0, .int 1, .int (nI n)])), (aY, .inl ((D.1 100), cap, .inl fY))] H := hP
          have hD : va_D A [(hB, .inr (1, [.ref aY, .int 0, .int 1, .int (nI n)])), (aY, .inl ((D.1 100), cap, .inl fY))] := hD
          refine lv_aload_n hx hb dJ5_setLength_d00df_76 rfl (lv_at hl 0 rfl) ?_
          refine lv_iload_n hx hb dJ5_setLength_d00df_77 rfl (lv_at hl 1 rfl) ?_
          refine va_put (D := D) (ci := 1) (v := .int (nI q)) (ty := .int) (C := RJ4) (T := TJ4) (N := 4) hx hb hts in_J4 tyJ4 tyJ4_ok nmJ4 hown hK hP hD hS 0 rfl rfl 3 (by decide) (hts _ q_243) (fun _ h9 => h9) rfl (by decide +kernel) rfl rfl (Nat.le_of_ble_eq_true rfl) dJ5_setLength_d00df_78 (fun H locs hP hD hS => ?_)
          have hP : va_P D vwCl [(hB, .inr (1, [.ref aY, .int 0, .int 1, .int (nI q)])), (aY, .inl ((D.1 100), cap, .inl fY))] H := hP
          have hD : va_D A [(hB, .inr (1, [.ref aY, .int 0, .int 1, .int (nI q)])), (aY, .inl ((D.1 100), cap, .inl fY))] := hD
          subst hQe
          subst hAe
          have hE : (F_J5_setLength_d00df ml n q) = (1, q) := (by unfold F_J5_setLength_d00df; rw [if_neg c_3])
          have hP9 := hP.sub (ws' := [(hB, .inr (1, [.ref aY, .int 0, .int 1, .int (nI q)])), (aY, .inl ((D.1 100), cap, .inl fY))]) [0, 1] rfl
          have hD9 := hD.sub (ws' := [(hB, .inr (1, [.ref aY, .int 0, .int 1, .int (nI q)])), (aY, .inl ((D.1 100), cap, .inl fY))]) [0, 1] (by decide) rfl
          exact W.vret hx hb hr (fun t ht hW => ⟨⟨(), rfl, trivial, (by (try rw [hE]); rw [ht]; exact hP9), (by (try rw [hE]); exact hD9)⟩, hS.F ht⟩) hS.2.2 dJ5_setLength_d00df_81
      · exact absurd (nI_le (by omega) (by omega)) c_2
    · exact absurd (nI_pos' (by omega)) c_1
  rw [hHe, hLe] at hgoal
  exact hgoal

def F_J4_setLength_d00df (ml : Int32) (n : Nat) (q : Nat) : Int32 × Nat := ((F_J5_setLength_d00df ml n q).1, ((F_J5_setLength_d00df ml n q).2))
set_option maxHeartbeats 4000000 in
set_option maxRecDepth 100000 in
theorem c_J4_setLength_d00df (l : Launch) (D : va_G) (hB : Nat) (aY : Nat) (ml : Int32) (n : Nat) (cap : Nat) (fY : Nat → Int32) (q : Nat) (x1 : Int32) (sz : Nat) (hq : q ≤ n) (hn : n ≤ cap) (hcap : cap ≤ 1000) (hx1 : x1 = nI q) : Met l yJ4_setLength_d00df (Cond.code yJ4_setLength_d00df cJ4_setLength_d00df 2 none :: lwAll) ({ frames := 2, cells := 0, slots := 0, locals := 43 } : Room) (va_Pc [.ref hB, .int x1] (cPre D (lwTY D) [(hB, .inr (1, [.ref aY, .int 0, .int ml, .int (nI n)])), (aY, .inl ((D.1 100), cap, .inl fY))] sz)) (va_Qv (fun (_ : Unit) => True) (fun (_ : Unit) t => va_P D vwCl [(hB, .inr (1, [.ref aY, .int 0, .int ((F_J4_setLength_d00df ml n q).1), .int (nI ((F_J4_setLength_d00df ml n q).2))])), (aY, .inl ((D.1 100), cap, .inl fY))] t.heap ∧ va_D (va_A [(hB, .inr (1, [.ref aY, .int 0, .int ml, .int (nI n)])), (aY, .inl ((D.1 100), cap, .inl fY))] sz) [(hB, .inr (1, [.ref aY, .int 0, .int ((F_J4_setLength_d00df ml n q).1), .int (nI ((F_J4_setLength_d00df ml n q).2))])), (aY, .inl ((D.1 100), cap, .inl fY))]) (va_A [(hB, .inr (1, [.ref aY, .int 0, .int ml, .int (nI n)])), (aY, .inl ((D.1 100), cap, .inl fY))] sz)) 0 0 (va_A [(hB, .inr (1, [.ref aY, .int 0, .int ml, .int (nI n)])), (aY, .inl ((D.1 100), cap, .inl fY))] sz) := by
  subst hx1
  refine Met.ofW (cc := cJ4_setLength_d00df) (maxL := 2) (ret := none) (by decide) rfl ?_
  intro p e s m args below meth c s₁ B hml hv
  obtain ⟨rfl, hsz, hP, hK, hD0, hN, hZ⟩ := hv
  have hx := B.exec
  have hb := B.bytes
  have hr := B.returns
  have hts : ∀ wd ∈ lwAll, wd.before ([.ref hB, .int (nI q)] : List Value).toArray s = true := fun wd h => atoms_spec (ws := (Cond.code yJ4_setLength_d00df cJ4_setLength_d00df 2 none :: lwAll)) B.pre wd (List.mem_cons_of_mem _ h)
  have hown : s.vm.findClass RJ4 = some m.cls := findClass_of_methodNamed B.named
  have hlocks := B.notSynchronized
  subst hsz
  have hD := hD0.self (sz := s.heap.size)
  have hl := lv_entry ([.ref hB, .int (nI q)]) (n := 2) (Nat.le_of_ble_eq_true rfl)
  rw [lg_entry_eq]
  generalize (lg_sl ([.ref hB, .int (nI q)]) ++ List.replicate (2 - (lg_sl ([.ref hB, .int (nI q)])).length) Slot.unset).toArray = ls at hl ⊢
  have hl : lv_has ls 2 [(0, .ref hB), (1, .int (nI q))] := hl
  have hS : va_S (va_A [(hB, .inr (1, [.ref aY, .int 0, .int ml, .int (nI n)])), (aY, .inl ((D.1 100), cap, .inl fY))] s.heap.size) s.heap s.heap [] := va_S.rf
  generalize hQe : MQ below (va_Qv (fun (_ : Unit) => True) (fun (_ : Unit) t => va_P D vwCl [(hB, .inr (1, [.ref aY, .int 0, .int ((F_J4_setLength_d00df ml n q).1), .int (nI ((F_J4_setLength_d00df ml n q).2))])), (aY, .inl ((D.1 100), cap, .inl fY))] t.heap ∧ va_D (va_A [(hB, .inr (1, [.ref aY, .int 0, .int ml, .int (nI n)])), (aY, .inl ((D.1 100), cap, .inl fY))] s.heap.size) [(hB, .inr (1, [.ref aY, .int 0, .int ((F_J4_setLength_d00df ml n q).1), .int (nI ((F_J4_setLength_d00df ml n q).2))])), (aY, .inl ((D.1 100), cap, .inl fY))]) (va_A [(hB, .inr (1, [.ref aY, .int 0, .int ml, .int (nI n)])), (aY, .inl ((D.1 100), cap, .inl fY))] s.heap.size)) ([.ref hB, .int (nI q)] : List Value).toArray s 0 0 (va_A [(hB, .inr (1, [.ref aY, .int 0, .int ml, .int (nI n)])), (aY, .inl ((D.1 100), cap, .inl fY))] s.heap.size) = Q
  have hP : va_P D vwCl [(hB, .inr (1, [.ref aY, .int 0, .int ml, .int (nI n)])), (aY, .inl ((D.1 100), cap, .inl fY))] s.heap := hP
  obtain ⟨A, hAe⟩ : ∃ A, A = va_A [(hB, .inr (1, [.ref aY, .int 0, .int ml, .int (nI n)])), (aY, .inl ((D.1 100), cap, .inl fY))] s.heap.size := ⟨_, rfl⟩
  rw [← hAe] at hD hZ hS
  have hA : ∀ q : Nat, s.heap.size ≤ q → A q := fun q h => by rw [hAe]; exact Or.inr h
  obtain ⟨H, hHe⟩ : ∃ H, H = s.heap := ⟨_, rfl⟩
  obtain ⟨locs, hLe⟩ : ∃ L : List Loc, L = [] := ⟨_, rfl⟩
  have hP : va_P D vwCl [(hB, .inr (1, [.ref aY, .int 0, .int ml, .int (nI n)])), (aY, .inl ((D.1 100), cap, .inl fY))] H := by rw [hHe]; exact hP
  have hS : va_S A s.heap H locs := by rw [hHe, hLe]; exact hS
  have hgoal : W p l e ({ frames := 2, cells := 0, slots := 0, locals := 43 } : Room) s m ([.ref hB, .int (nI q)] : List Value).toArray below meth c H locs 0 0 Q (F0 m 0 ls []) := by
    clear hHe hLe
    refine lv_aload_n hx hb dJ4_setLength_d00df_0 rfl (lv_at hl 0 rfl) ?_
    refine lv_iload_n hx hb dJ4_setLength_d00df_1 rfl (lv_at hl 1 rfl) ?_
    have hPc := hP.sub (ws' := [(hB, .inr (1, [.ref aY, .int 0, .int ml, .int (nI n)])), (aY, .inl ((D.1 100), cap, .inl fY))]) [0, 1] rfl
    have hDc := hD.sub (ws' := [(hB, .inr (1, [.ref aY, .int 0, .int ml, .int (nI n)])), (aY, .inl ((D.1 100), cap, .inl fY))]) [0, 1] (by decide) rfl
    have hFc := va_free (wc := [(hB, .inr (1, [.ref aY, .int 0, .int ml, .int (nI n)])), (aY, .inl ((D.1 100), cap, .inl fY))]) hD hS hA [0, 1] rfl
    refine va_callv (va_runSU (hK.1 1 _ rfl).2 (As := [.int (nI q)]) (rest := []) ⟨hx, hb, hml, hown, hts⟩ (c_J5_setLength_d00df l D hB aY ml n cap fY q (nI q) H.size (show q ≤ n from (by omega)) (show n ≤ cap from (by omega)) (show cap ≤ 1000 from (by omega)) (show (nI q) = nI q from rfl)) (va_cwSU 1 hts (gi_SU q_315 q_1656 q_252 q_316 q_85 q_317) rfl rfl rfl (by decide +kernel) ⟨Nat.le_of_ble_eq_true rfl, Nat.le_of_ble_eq_true rfl⟩) ⟨cPre_blind, va_recv hK hP (ci := 1) (q0 := 0) rfl rfl, cPre_mk hPc hK hDc hN (lwZ_for hZ hS hFc)⟩ rfl rfl hl.1 rfl (lv_room (Nat.le_of_ble_eq_true rfl)) dJ4_setLength_d00df_2 ⟨(Nat.le_of_ble_eq_true rfl), (Nat.le_of_ble_eq_true rfl)⟩) hS (fun q _ h => hFc q h) hFc (fun u t H1 locs ht hvm hw hBk hz1 hk1 hS => ?_)
    obtain ⟨hP1, hD1⟩ := hBk
    rw [ht] at hP1
    obtain ⟨hP, hD⟩ := va_join (wr := []) (w1 := [(hB, .inr (1, [.ref aY, .int 0, .int ((F_J5_setLength_d00df ml n q).1), .int (nI ((F_J5_setLength_d00df ml n q).2))])), (aY, .inl ((D.1 100), cap, .inl fY))]) hP hD [0, 1] [] rfl rfl (by decide) (by decide) hk1 hFc hP1 hD1
    clear hPc hDc hFc hP1 hD1 hk1 hz1
    clear hvm ht u; clear t
    generalize H1 = H at hP hS ⊢
    have hP : va_P D vwCl [(hB, .inr (1, [.ref aY, .int 0, .int ((F_J5_setLength_d00df ml n q).1), .int (nI ((F_J5_setLength_d00df ml n q).2))])), (aY, .inl ((D.1 100), cap, .inl fY))] H := hP
    have hD : va_D A [(hB, .inr (1, [.ref aY, .int 0, .int ((F_J5_setLength_d00df ml n q).1), .int (nI ((F_J5_setLength_d00df ml n q).2))])), (aY, .inl ((D.1 100), cap, .inl fY))] := hD
    subst hQe
    subst hAe
    have hE : (F_J4_setLength_d00df ml n q) = ((F_J5_setLength_d00df ml n q).1, ((F_J5_setLength_d00df ml n q).2)) := (by rfl)
    have hP9 := hP.sub (ws' := [(hB, .inr (1, [.ref aY, .int 0, .int ((F_J5_setLength_d00df ml n q).1), .int (nI ((F_J5_setLength_d00df ml n q).2))])), (aY, .inl ((D.1 100), cap, .inl fY))]) [0, 1] rfl
    have hD9 := hD.sub (ws' := [(hB, .inr (1, [.ref aY, .int 0, .int ((F_J5_setLength_d00df ml n q).1), .int (nI ((F_J5_setLength_d00df ml n q).2))])), (aY, .inl ((D.1 100), cap, .inl fY))]) [0, 1] (by decide) rfl
    exact W.vret hx hb hr (fun t ht hW => ⟨⟨(), rfl, trivial, (by (try rw [hE]); rw [ht]; exact hP9), (by (try rw [hE]); exact hD9)⟩, hS.F ht⟩) hS.2.2 dJ4_setLength_d00df_5
  rw [hHe, hLe] at hgoal
  exact hgoal
