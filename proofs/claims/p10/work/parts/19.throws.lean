/-- the exceptions that the class throws, by number -/
def xname : Nat → String
  | 1 => "java/lang/IllegalArgumentException"
  | 2 => "java/lang/IndexOutOfBoundsException"
  | _ => "java/lang/IllegalStateException"
set_option maxRecDepth 20000 in
theorem at_1_in : ∀ w ∈ (vx_atS "Rowscan" 74 "java/lang/IllegalArgumentException" ["java/lang/RuntimeException", "java/lang/Exception"]).filter goodWord, w ∈ lw_tbl := by decide +kernel
set_option maxRecDepth 20000 in
theorem at_1_bad : ∀ w ∈ (vx_atS "Rowscan" 74 "java/lang/IllegalArgumentException" ["java/lang/RuntimeException", "java/lang/Exception"]).filter (fun w => !goodWord w), w ∈ [Cond.castable "java/lang/IllegalArgumentException" "java/lang/IllegalArgumentException"] := by decide +kernel
theorem at_1_hat {args : Array Value} {s : State} (hts : ∀ w ∈ lwAll, w.before args s = true) (hN : ∀ w ∈ lwNest, va_Nw w s) : ∀ w ∈ (vx_atS "Rowscan" 74 "java/lang/IllegalArgumentException" ["java/lang/RuntimeException", "java/lang/Exception"]), w.before args s = true :=
  vx_hat (B := [Cond.castable "java/lang/IllegalArgumentException" "java/lang/IllegalArgumentException"]) (fun w h => hts w (lwAll_in (List.mem_append_left _ (at_1_in w h)) (List.mem_filter.mp h).2)) at_1_bad (vx_c (va_Nw.use rfl (hN _ n_509)) vx_n)
set_option maxRecDepth 20000 in
theorem at_1_ot : ∀ w ∈ Cond.classLink "Rowscan" 70 "java/lang/IllegalArgumentException" :: Cond.initialized "java/lang/IllegalArgumentException" :: (vx_atS "Rowscan" 74 "java/lang/IllegalArgumentException" ["java/lang/RuntimeException", "java/lang/Exception"]), vx_ot w = true := by decide +kernel
set_option maxRecDepth 20000 in
theorem at_2_in : ∀ w ∈ (vx_atS "Rowscan" 87 "java/lang/IndexOutOfBoundsException" ["java/lang/RuntimeException", "java/lang/Exception"]).filter goodWord, w ∈ lw_tbl := by decide +kernel
set_option maxRecDepth 20000 in
theorem at_2_bad : ∀ w ∈ (vx_atS "Rowscan" 87 "java/lang/IndexOutOfBoundsException" ["java/lang/RuntimeException", "java/lang/Exception"]).filter (fun w => !goodWord w), w ∈ [Cond.castable "java/lang/IndexOutOfBoundsException" "java/lang/IndexOutOfBoundsException"] := by decide +kernel
theorem at_2_hat {args : Array Value} {s : State} (hts : ∀ w ∈ lwAll, w.before args s = true) (hN : ∀ w ∈ lwNest, va_Nw w s) : ∀ w ∈ (vx_atS "Rowscan" 87 "java/lang/IndexOutOfBoundsException" ["java/lang/RuntimeException", "java/lang/Exception"]), w.before args s = true :=
  vx_hat (B := [Cond.castable "java/lang/IndexOutOfBoundsException" "java/lang/IndexOutOfBoundsException"]) (fun w h => hts w (lwAll_in (List.mem_append_left _ (at_2_in w h)) (List.mem_filter.mp h).2)) at_2_bad (vx_c (va_Nw.use rfl (hN _ n_880)) vx_n)
set_option maxRecDepth 20000 in
theorem at_2_ot : ∀ w ∈ Cond.classLink "Rowscan" 83 "java/lang/IndexOutOfBoundsException" :: Cond.initialized "java/lang/IndexOutOfBoundsException" :: (vx_atS "Rowscan" 87 "java/lang/IndexOutOfBoundsException" ["java/lang/RuntimeException", "java/lang/Exception"]), vx_ot w = true := by decide +kernel
set_option maxRecDepth 20000 in
theorem at_3_in : ∀ w ∈ (vx_atS "Rowscan" 148 "java/lang/IllegalStateException" ["java/lang/RuntimeException", "java/lang/Exception"]).filter goodWord, w ∈ lw_tbl := by decide +kernel
set_option maxRecDepth 20000 in
theorem at_3_bad : ∀ w ∈ (vx_atS "Rowscan" 148 "java/lang/IllegalStateException" ["java/lang/RuntimeException", "java/lang/Exception"]).filter (fun w => !goodWord w), w ∈ [Cond.castable "java/lang/IllegalStateException" "java/lang/IllegalStateException"] := by decide +kernel
theorem at_3_hat {args : Array Value} {s : State} (hts : ∀ w ∈ lwAll, w.before args s = true) (hN : ∀ w ∈ lwNest, va_Nw w s) : ∀ w ∈ (vx_atS "Rowscan" 148 "java/lang/IllegalStateException" ["java/lang/RuntimeException", "java/lang/Exception"]), w.before args s = true :=
  vx_hat (B := [Cond.castable "java/lang/IllegalStateException" "java/lang/IllegalStateException"]) (fun w h => hts w (lwAll_in (List.mem_append_left _ (at_3_in w h)) (List.mem_filter.mp h).2)) at_3_bad (vx_c (va_Nw.use rfl (hN _ n_945)) vx_n)
set_option maxRecDepth 20000 in
theorem at_3_ot : ∀ w ∈ Cond.classLink "Rowscan" 144 "java/lang/IllegalStateException" :: Cond.initialized "java/lang/IllegalStateException" :: (vx_atS "Rowscan" 148 "java/lang/IllegalStateException" ["java/lang/RuntimeException", "java/lang/Exception"]), vx_ot w = true := by decide +kernel
def E_X4_patience (x1 : Int32) : Nat := (if x1 < 1 then 1 else (if x1 ≤ 6 then 0 else 1))
def F_X4_patience (pa : Int32) (gu : Int32) (x1 : Int32) (x2 : Int32) : Int32 × Int32 × Int32 := (if x1 < 1 then (0, pa, gu) else (if x1 ≤ 6 then (pa, x1, x2) else (0, pa, gu)))
set_option maxHeartbeats 4000000 in
set_option maxRecDepth 100000 in
theorem c_X4_patience (l : Launch) (D : va_G) (hX : Nat) (hW : Nat) (hF : Nat) (hA_ : Nat) (hT : Nat) (sc : Nat) (pa : Int32) (gu : Int32) (cl : Int32) (se : Int32) (rf : Int32) (x1 : Int32) (x2 : Int32) (sz : Nat) (hst : l.stackTraces = false) (hx2 : x2 = 0 ∨ x2 = 1) : vx_Met l yX4_patience (Cond.code yX4_patience cX4_patience 4 (some .int) :: lwAll) ({ frames := 6, cells := 1, slots := 6, locals := 90 } : Room) (va_Pc [.ref hX, .int x1, .int x2] (cPre D (lwTY D) [(hX, .inr (11, [.ref hW, .ref hF, .ref hA_, .ref hT, .int (nI sc), .int pa, .int gu, .int cl, .int se, .int rf]))] sz)) (va_Qi (fun (r : Int32) (_ : Unit) => r = (F_X4_patience pa gu x1 x2).1 ∧ (E_X4_patience x1) = 0) (fun (_ : Unit) t => va_P D vwCl [(hX, .inr (11, [.ref hW, .ref hF, .ref hA_, .ref hT, .int (nI sc), .int ((F_X4_patience pa gu x1 x2).2.1), .int ((F_X4_patience pa gu x1 x2).2.2), .int cl, .int se, .int rf]))] t.heap ∧ va_D (va_A [(hX, .inr (11, [.ref hW, .ref hF, .ref hA_, .ref hT, .int (nI sc), .int pa, .int gu, .int cl, .int se, .int rf]))] sz) [(hX, .inr (11, [.ref hW, .ref hF, .ref hA_, .ref hT, .int (nI sc), .int ((F_X4_patience pa gu x1 x2).2.1), .int ((F_X4_patience pa gu x1 x2).2.2), .int cl, .int se, .int rf]))]) (va_A [(hX, .inr (11, [.ref hW, .ref hF, .ref hA_, .ref hT, .int (nI sc), .int pa, .int gu, .int cl, .int se, .int rf]))] sz)) (vx_X (fun _ : Unit => True) (fun (E : String) (_ : Unit) (_ : State) => (E_X4_patience x1) ≠ 0 ∧ E = xname (E_X4_patience x1)) (fun q : Nat => sz ≤ q)) 1 6 (va_A [(hX, .inr (11, [.ref hW, .ref hF, .ref hA_, .ref hT, .int (nI sc), .int pa, .int gu, .int cl, .int se, .int rf]))] sz) := by
  refine vx_ofW (cc := cX4_patience) (maxL := 4) (ret := (some .int)) (by decide) rfl ?_
  intro p e s m args below meth c s₁ B hml hno hv
  obtain ⟨rfl, hsz, hP, hK, hD0, hN, hZ⟩ := hv
  have hx := B.exec
  have hb := B.bytes
  have hr := B.returns
  have hts : ∀ wd ∈ lwAll, wd.before ([.ref hX, .int x1, .int x2] : List Value).toArray s = true := fun wd h => atoms_spec (ws := (Cond.code yX4_patience cX4_patience 4 (some .int) :: lwAll)) B.pre wd (List.mem_cons_of_mem _ h)
  have hown : s.vm.findClass RX4 = some m.cls := findClass_of_methodNamed B.named
  have hlocks := B.notSynchronized
  subst hsz
  have hD := hD0.self (sz := s.heap.size)
  have hl := lv_entry ([.ref hX, .int x1, .int x2]) (n := 4) (Nat.le_of_ble_eq_true rfl)
  rw [lg_entry_eq]
  generalize (lg_sl ([.ref hX, .int x1, .int x2]) ++ List.replicate (4 - (lg_sl ([.ref hX, .int x1, .int x2])).length) Slot.unset).toArray = ls at hl ⊢
  have hl : lv_has ls 4 [(0, .ref hX), (1, .int x1), (2, .int x2)] := hl
  have hS : va_S (fun q : Nat => s.heap.size ≤ q) s.heap s.heap [] := va_S.rf
  generalize hQe : vx_MQ below (va_Qi (fun (r : Int32) (_ : Unit) => r = (F_X4_patience pa gu x1 x2).1 ∧ (E_X4_patience x1) = 0) (fun (_ : Unit) t => va_P D vwCl [(hX, .inr (11, [.ref hW, .ref hF, .ref hA_, .ref hT, .int (nI sc), .int ((F_X4_patience pa gu x1 x2).2.1), .int ((F_X4_patience pa gu x1 x2).2.2), .int cl, .int se, .int rf]))] t.heap ∧ va_D (va_A [(hX, .inr (11, [.ref hW, .ref hF, .ref hA_, .ref hT, .int (nI sc), .int pa, .int gu, .int cl, .int se, .int rf]))] s.heap.size) [(hX, .inr (11, [.ref hW, .ref hF, .ref hA_, .ref hT, .int (nI sc), .int ((F_X4_patience pa gu x1 x2).2.1), .int ((F_X4_patience pa gu x1 x2).2.2), .int cl, .int se, .int rf]))]) (va_A [(hX, .inr (11, [.ref hW, .ref hF, .ref hA_, .ref hT, .int (nI sc), .int pa, .int gu, .int cl, .int se, .int rf]))] s.heap.size)) (vx_X (fun _ : Unit => True) (fun (E : String) (_ : Unit) (_ : State) => (E_X4_patience x1) ≠ 0 ∧ E = xname (E_X4_patience x1)) (fun q : Nat => s.heap.size ≤ q)) ([.ref hX, .int x1, .int x2] : List Value).toArray s 1 6 (va_A [(hX, .inr (11, [.ref hW, .ref hF, .ref hA_, .ref hT, .int (nI sc), .int pa, .int gu, .int cl, .int se, .int rf]))] s.heap.size) = Q
  have hP : va_P D vwCl [(hX, .inr (11, [.ref hW, .ref hF, .ref hA_, .ref hT, .int (nI sc), .int pa, .int gu, .int cl, .int se, .int rf]))] s.heap := hP
  obtain ⟨A, hAe⟩ : ∃ A, A = va_A [(hX, .inr (11, [.ref hW, .ref hF, .ref hA_, .ref hT, .int (nI sc), .int pa, .int gu, .int cl, .int se, .int rf]))] s.heap.size := ⟨_, rfl⟩
  rw [← hAe] at hD hZ
  have hA : ∀ q : Nat, s.heap.size ≤ q → A q := fun q h => by rw [hAe]; exact Or.inr h
  obtain ⟨H, hHe⟩ : ∃ H, H = s.heap := ⟨_, rfl⟩
  obtain ⟨locs, hLe⟩ : ∃ L : List Loc, L = [] := ⟨_, rfl⟩
  have hP : va_P D vwCl [(hX, .inr (11, [.ref hW, .ref hF, .ref hA_, .ref hT, .int (nI sc), .int pa, .int gu, .int cl, .int se, .int rf]))] H := by rw [hHe]; exact hP
  have hS : va_S (fun q : Nat => s.heap.size ≤ q) s.heap H locs := by rw [hHe, hLe]; exact hS
  have hgoal : W p l e ({ frames := 6, cells := 1, slots := 6, locals := 90 } : Room) s m ([.ref hX, .int x1, .int x2] : List Value).toArray below meth c H locs 0 0 Q (F0 m 0 ls []) := by
    clear hHe hLe
    refine lv_iload_n hx hb dX4_patience_0 rfl (lv_at hl 1 rfl) ?_
    refine lv_iconst (v := 1) hx hb dX4_patience_1 (by decide) ?_
    refine lv_icmp_lt (tgt := 11) hx hb dX4_patience_2 (by decide) (fun c_1 => ?_) (fun c_1 => ?_)
    · subst hQe
      subst hAe
      obtain ⟨sa, hstr⟩ := hN.2 _ (List.mem_of_getElem? (i := 4) rfl)
      have hE9 : (E_X4_patience x1) = 1 := (by unfold E_X4_patience; rw [if_pos c_1])
      exact vx_throwS (own := RX4) (cls := "java/lang/IllegalArgumentException") (text := "patience is 1 to 6") (names := ["java/lang/RuntimeException", "java/lang/Exception"]) hx hb hst hown (by decide +kernel) (by decide +kernel) (hts _ q_863) (hts _ q_102) hstr (at_1_hat hts hN.1) at_1_ot hZ.2.2.1 hZ.2.2.2 (va_S_up hS hA) (hl.1.trans hml.symm) dX4_patience_11 dX4_patience_14 dX4_patience_15 dX4_patience_17 dX4_patience_20 (fun x h => (hno x h).elim) (Nat.le_of_ble_eq_true rfl) (Nat.le_of_ble_eq_true rfl) (show 0 + 1 ≤ 1 from by omega) (show 0 + 6 ≤ 6 from by omega) hlocks (fun t hv hz hk => ⟨(), trivial, ⟨by rw [hE9]; decide, by rw [hE9]; rfl⟩, Nat.le_trans hS.1 hz, fun q h1 h2 => (hk q (Nat.lt_of_lt_of_le h1 hS.1)).trans (hS.2.1 q h1 h2)⟩) (fun z hz => Or.inr (hS.2.2 z hz)) (show 0 + 1 ≤ 1 from by omega) (show 0 + 6 ≤ 6 from by omega)
    · refine lv_iload_n hx hb dX4_patience_5 rfl (lv_at hl 1 rfl) ?_
      refine lv_bipush (v := 6) hx hb dX4_patience_6 (by decide) ?_
      refine lv_icmp_le (tgt := 21) hx hb dX4_patience_8 (by decide) (fun c_2 => ?_) (fun c_2 => ?_)
      · refine lv_aload_n hx hb dX4_patience_21 rfl (lv_at hl 0 rfl) ?_
        refine va_get (D := D) (ci := 11) (v := .int pa) (C := RX4) (T := TX4) (N := 10) hx hb hts in_X4 hown hK hP 0 rfl rfl 5 (by decide) (hts _ q_660) (fun _ h9 => h9) rfl dX4_patience_22 ?_
        refine lv_istore_n (lv' := [(3, .int pa), (0, .ref hX), (1, .int x1), (2, .int x2)]) hx hb dX4_patience_25 rfl hl (by decide) rfl (fun ls hl => ?_)
        refine lv_aload_n hx hb dX4_patience_26 rfl (lv_at hl 1 rfl) ?_
        refine lv_iload_n hx hb dX4_patience_27 rfl (lv_at hl 2 rfl) ?_
        have hS := va_S_up hS hA
        refine va_put (D := D) (ci := 11) (v := .int x1) (ty := .int) (C := RX4) (T := TX4) (N := 10) hx hb hts in_X4 tyX4 tyX4_ok nmX4 hown hK hP hD hS 0 rfl rfl 5 (by decide) (hts _ q_660) (fun _ h9 => h9) rfl (by decide +kernel) rfl rfl (Nat.le_of_ble_eq_true rfl) dX4_patience_28 (fun H locs hP hD hS => ?_)
        have hP : va_P D vwCl [(hX, .inr (11, [.ref hW, .ref hF, .ref hA_, .ref hT, .int (nI sc), .int x1, .int gu, .int cl, .int se, .int rf]))] H := hP
        have hD : va_D A [(hX, .inr (11, [.ref hW, .ref hF, .ref hA_, .ref hT, .int (nI sc), .int x1, .int gu, .int cl, .int se, .int rf]))] := hD
        refine lv_aload_n hx hb dX4_patience_31 rfl (lv_at hl 1 rfl) ?_
        refine lv_iload_n hx hb dX4_patience_32 rfl (lv_at hl 3 rfl) ?_
        refine va_put (D := D) (ci := 11) (v := .int x2) (ty := .boolean) (C := RX4) (T := TX4) (N := 10) hx hb hts in_X4 tyX4 tyX4_ok nmX4 hown hK hP hD hS 0 rfl rfl 6 (by decide) (hts _ q_661) (fun _ h9 => h9) rfl (by decide +kernel) (zb_narrow (by assumption)) (zb_fits (by assumption)) (Nat.le_of_ble_eq_true rfl) dX4_patience_33 (fun H locs hP hD hS => ?_)
        have hP : va_P D vwCl [(hX, .inr (11, [.ref hW, .ref hF, .ref hA_, .ref hT, .int (nI sc), .int x1, .int x2, .int cl, .int se, .int rf]))] H := hP
        have hD : va_D A [(hX, .inr (11, [.ref hW, .ref hF, .ref hA_, .ref hT, .int (nI sc), .int x1, .int x2, .int cl, .int se, .int rf]))] := hD
        refine lv_iload_n hx hb dX4_patience_36 rfl (lv_at hl 0 rfl) ?_
        subst hQe
        refine vx_ret ?_
        subst hAe
        have hE : (F_X4_patience pa gu x1 x2) = (pa, x1, x2) := (by unfold F_X4_patience; rw [if_neg c_1, if_pos c_2])
        have hE9 : (E_X4_patience x1) = 0 := (by unfold E_X4_patience; rw [if_neg c_1, if_pos c_2])
        refine W.widen (k := 1) (n := 6) (by omega) (by omega) ?_
        have hP9 := hP.sub (ws' := [(hX, .inr (11, [.ref hW, .ref hF, .ref hA_, .ref hT, .int (nI sc), .int x1, .int x2, .int cl, .int se, .int rf]))]) [0] rfl
        have hD9 := hD.sub (ws' := [(hX, .inr (11, [.ref hW, .ref hF, .ref hA_, .ref hT, .int (nI sc), .int x1, .int x2, .int cl, .int se, .int rf]))]) [0] (by decide) rfl
        exact W.iret (v := pa) hx hb hr (fun t ht hW => ⟨⟨pa, (), rfl, ⟨(by rw [hE]), hE9⟩, (by rw [hE]; rw [ht]; exact hP9), (by rw [hE]; exact hD9)⟩, hS.F ht⟩) hS.2.2 dX4_patience_37
      · subst hQe
        subst hAe
        obtain ⟨sa, hstr⟩ := hN.2 _ (List.mem_of_getElem? (i := 4) rfl)
        have hE9 : (E_X4_patience x1) = 1 := (by unfold E_X4_patience; rw [if_neg c_1, if_neg c_2])
        exact vx_throwS (own := RX4) (cls := "java/lang/IllegalArgumentException") (text := "patience is 1 to 6") (names := ["java/lang/RuntimeException", "java/lang/Exception"]) hx hb hst hown (by decide +kernel) (by decide +kernel) (hts _ q_863) (hts _ q_102) hstr (at_1_hat hts hN.1) at_1_ot hZ.2.2.1 hZ.2.2.2 (va_S_up hS hA) (hl.1.trans hml.symm) dX4_patience_11 dX4_patience_14 dX4_patience_15 dX4_patience_17 dX4_patience_20 (fun x h => (hno x h).elim) (Nat.le_of_ble_eq_true rfl) (Nat.le_of_ble_eq_true rfl) (show 0 + 1 ≤ 1 from by omega) (show 0 + 6 ≤ 6 from by omega) hlocks (fun t hv hz hk => ⟨(), trivial, ⟨by rw [hE9]; decide, by rw [hE9]; rfl⟩, Nat.le_trans hS.1 hz, fun q h1 h2 => (hk q (Nat.lt_of_lt_of_le h1 hS.1)).trans (hS.2.1 q h1 h2)⟩) (fun z hz => Or.inr (hS.2.2 z hz)) (show 0 + 1 ≤ 1 from by omega) (show 0 + 6 ≤ 6 from by omega)
  rw [hHe, hLe] at hgoal
  exact hgoal

def E_X4_line (R : Nat) (C : Nat) (x1 : Int32) : Nat := (if x1 < 0 then 2 else (if x1 < ((nI R) + (nI C)) then 0 else 2))
def F_X4_line (R : Nat) (C : Nat) (fi : Int32) (br : Int32) (li : Int32) (x1 : Int32) (x2 : Int32) : Int32 × Int32 × Int32 := (if x1 < 0 then (0, br, li) else (if x1 < ((nI R) + (nI C)) then (F_J6_bitCount_0f7a4 ((F_X3_breakLine R C fi br x1 x2).1), (F_X3_breakLine R C fi br x1 x2).1, (F_X3_breakLine R C fi br x1 x2).2) else (0, br, li)))
set_option maxHeartbeats 4000000 in
set_option maxRecDepth 100000 in
theorem c_X4_line (l : Launch) (D : va_G) (hX : Nat) (hW : Nat) (hF : Nat) (hA_ : Nat) (hT : Nat) (sc : Nat) (pa : Int32) (gu : Int32) (cl : Int32) (se : Int32) (rf : Int32) (R : Nat) (C : Nat) (K : Nat) (fi : Int32) (di : Int32) (br : Int32) (li : Int32) (x1 : Int32) (x2 : Int32) (sz : Nat) (hst : l.stackTraces = false) (hR : R ≤ 5) (hC : C ≤ 5) : vx_Met l yX4_line (Cond.code yX4_line cX4_line 3 (some .int) :: lwAll) ({ frames := 6, cells := 1, slots := 6, locals := 90 } : Room) (va_Pc [.ref hX, .int x1, .int x2] (cPre D (lwTY D) [(hX, .inr (11, [.ref hW, .ref hF, .ref hA_, .ref hT, .int (nI sc), .int pa, .int gu, .int cl, .int se, .int rf])), (hW, .inr (10, [.int (nI R), .int (nI C), .int (nI K), .int fi, .int di, .int br, .int li]))] sz)) (va_Qi (fun (r : Int32) (_ : Unit) => r = (F_X4_line R C fi br li x1 x2).1 ∧ (E_X4_line R C x1) = 0) (fun (_ : Unit) t => va_P D vwCl [(hX, .inr (11, [.ref hW, .ref hF, .ref hA_, .ref hT, .int (nI sc), .int pa, .int gu, .int cl, .int se, .int rf])), (hW, .inr (10, [.int (nI R), .int (nI C), .int (nI K), .int fi, .int di, .int ((F_X4_line R C fi br li x1 x2).2.1), .int ((F_X4_line R C fi br li x1 x2).2.2)]))] t.heap ∧ va_D (va_A [(hX, .inr (11, [.ref hW, .ref hF, .ref hA_, .ref hT, .int (nI sc), .int pa, .int gu, .int cl, .int se, .int rf])), (hW, .inr (10, [.int (nI R), .int (nI C), .int (nI K), .int fi, .int di, .int br, .int li]))] sz) [(hX, .inr (11, [.ref hW, .ref hF, .ref hA_, .ref hT, .int (nI sc), .int pa, .int gu, .int cl, .int se, .int rf])), (hW, .inr (10, [.int (nI R), .int (nI C), .int (nI K), .int fi, .int di, .int ((F_X4_line R C fi br li x1 x2).2.1), .int ((F_X4_line R C fi br li x1 x2).2.2)]))]) (va_A [(hX, .inr (11, [.ref hW, .ref hF, .ref hA_, .ref hT, .int (nI sc), .int pa, .int gu, .int cl, .int se, .int rf])), (hW, .inr (10, [.int (nI R), .int (nI C), .int (nI K), .int fi, .int di, .int br, .int li]))] sz)) (vx_X (fun _ : Unit => True) (fun (E : String) (_ : Unit) (_ : State) => (E_X4_line R C x1) ≠ 0 ∧ E = xname (E_X4_line R C x1)) (fun q : Nat => sz ≤ q)) 1 6 (va_A [(hX, .inr (11, [.ref hW, .ref hF, .ref hA_, .ref hT, .int (nI sc), .int pa, .int gu, .int cl, .int se, .int rf])), (hW, .inr (10, [.int (nI R), .int (nI C), .int (nI K), .int fi, .int di, .int br, .int li]))] sz) := by
  refine vx_ofW (cc := cX4_line) (maxL := 3) (ret := (some .int)) (by decide) rfl ?_
  intro p e s m args below meth c s₁ B hml hno hv
  obtain ⟨rfl, hsz, hP, hK, hD0, hN, hZ⟩ := hv
  have hx := B.exec
  have hb := B.bytes
  have hr := B.returns
  have hts : ∀ wd ∈ lwAll, wd.before ([.ref hX, .int x1, .int x2] : List Value).toArray s = true := fun wd h => atoms_spec (ws := (Cond.code yX4_line cX4_line 3 (some .int) :: lwAll)) B.pre wd (List.mem_cons_of_mem _ h)
  have hown : s.vm.findClass RX4 = some m.cls := findClass_of_methodNamed B.named
  have hlocks := B.notSynchronized
  subst hsz
  have hD := hD0.self (sz := s.heap.size)
  have hl := lv_entry ([.ref hX, .int x1, .int x2]) (n := 3) (Nat.le_of_ble_eq_true rfl)
  rw [lg_entry_eq]
  generalize (lg_sl ([.ref hX, .int x1, .int x2]) ++ List.replicate (3 - (lg_sl ([.ref hX, .int x1, .int x2])).length) Slot.unset).toArray = ls at hl ⊢
  have hl : lv_has ls 3 [(0, .ref hX), (1, .int x1), (2, .int x2)] := hl
  have hS : va_S (fun q : Nat => s.heap.size ≤ q) s.heap s.heap [] := va_S.rf
  generalize hQe : vx_MQ below (va_Qi (fun (r : Int32) (_ : Unit) => r = (F_X4_line R C fi br li x1 x2).1 ∧ (E_X4_line R C x1) = 0) (fun (_ : Unit) t => va_P D vwCl [(hX, .inr (11, [.ref hW, .ref hF, .ref hA_, .ref hT, .int (nI sc), .int pa, .int gu, .int cl, .int se, .int rf])), (hW, .inr (10, [.int (nI R), .int (nI C), .int (nI K), .int fi, .int di, .int ((F_X4_line R C fi br li x1 x2).2.1), .int ((F_X4_line R C fi br li x1 x2).2.2)]))] t.heap ∧ va_D (va_A [(hX, .inr (11, [.ref hW, .ref hF, .ref hA_, .ref hT, .int (nI sc), .int pa, .int gu, .int cl, .int se, .int rf])), (hW, .inr (10, [.int (nI R), .int (nI C), .int (nI K), .int fi, .int di, .int br, .int li]))] s.heap.size) [(hX, .inr (11, [.ref hW, .ref hF, .ref hA_, .ref hT, .int (nI sc), .int pa, .int gu, .int cl, .int se, .int rf])), (hW, .inr (10, [.int (nI R), .int (nI C), .int (nI K), .int fi, .int di, .int ((F_X4_line R C fi br li x1 x2).2.1), .int ((F_X4_line R C fi br li x1 x2).2.2)]))]) (va_A [(hX, .inr (11, [.ref hW, .ref hF, .ref hA_, .ref hT, .int (nI sc), .int pa, .int gu, .int cl, .int se, .int rf])), (hW, .inr (10, [.int (nI R), .int (nI C), .int (nI K), .int fi, .int di, .int br, .int li]))] s.heap.size)) (vx_X (fun _ : Unit => True) (fun (E : String) (_ : Unit) (_ : State) => (E_X4_line R C x1) ≠ 0 ∧ E = xname (E_X4_line R C x1)) (fun q : Nat => s.heap.size ≤ q)) ([.ref hX, .int x1, .int x2] : List Value).toArray s 1 6 (va_A [(hX, .inr (11, [.ref hW, .ref hF, .ref hA_, .ref hT, .int (nI sc), .int pa, .int gu, .int cl, .int se, .int rf])), (hW, .inr (10, [.int (nI R), .int (nI C), .int (nI K), .int fi, .int di, .int br, .int li]))] s.heap.size) = Q
  have hP : va_P D vwCl [(hX, .inr (11, [.ref hW, .ref hF, .ref hA_, .ref hT, .int (nI sc), .int pa, .int gu, .int cl, .int se, .int rf])), (hW, .inr (10, [.int (nI R), .int (nI C), .int (nI K), .int fi, .int di, .int br, .int li]))] s.heap := hP
  obtain ⟨A, hAe⟩ : ∃ A, A = va_A [(hX, .inr (11, [.ref hW, .ref hF, .ref hA_, .ref hT, .int (nI sc), .int pa, .int gu, .int cl, .int se, .int rf])), (hW, .inr (10, [.int (nI R), .int (nI C), .int (nI K), .int fi, .int di, .int br, .int li]))] s.heap.size := ⟨_, rfl⟩
  rw [← hAe] at hD hZ
  have hA : ∀ q : Nat, s.heap.size ≤ q → A q := fun q h => by rw [hAe]; exact Or.inr h
  obtain ⟨H, hHe⟩ : ∃ H, H = s.heap := ⟨_, rfl⟩
  obtain ⟨locs, hLe⟩ : ∃ L : List Loc, L = [] := ⟨_, rfl⟩
  have hP : va_P D vwCl [(hX, .inr (11, [.ref hW, .ref hF, .ref hA_, .ref hT, .int (nI sc), .int pa, .int gu, .int cl, .int se, .int rf])), (hW, .inr (10, [.int (nI R), .int (nI C), .int (nI K), .int fi, .int di, .int br, .int li]))] H := by rw [hHe]; exact hP
  have hS : va_S (fun q : Nat => s.heap.size ≤ q) s.heap H locs := by rw [hHe, hLe]; exact hS
  have hgoal : W p l e ({ frames := 6, cells := 1, slots := 6, locals := 90 } : Room) s m ([.ref hX, .int x1, .int x2] : List Value).toArray below meth c H locs 0 0 Q (F0 m 0 ls []) := by
    clear hHe hLe
    refine lv_iload_n hx hb dX4_line_0 rfl (lv_at hl 1 rfl) ?_
    refine lv_if_lt (tgt := 23) hx hb dX4_line_1 (by decide) (fun c_1 => ?_) (fun c_1 => ?_)
    · subst hQe
      subst hAe
      obtain ⟨sa, hstr⟩ := hN.2 _ (List.mem_of_getElem? (i := 3) rfl)
      have hE9 : (E_X4_line R C x1) = 2 := (by unfold E_X4_line; rw [if_pos c_1])
      exact vx_throwS (own := RX4) (cls := "java/lang/IndexOutOfBoundsException") (text := "no such line") (names := ["java/lang/RuntimeException", "java/lang/Exception"]) hx hb hst hown (by decide +kernel) (by decide +kernel) (hts _ q_878) (hts _ q_92) hstr (at_2_hat hts hN.1) at_2_ot hZ.2.2.1 hZ.2.2.2 (va_S_up hS hA) (hl.1.trans hml.symm) dX4_line_23 dX4_line_26 dX4_line_27 dX4_line_29 dX4_line_32 (fun x h => (hno x h).elim) (Nat.le_of_ble_eq_true rfl) (Nat.le_of_ble_eq_true rfl) (show 0 + 1 ≤ 1 from by omega) (show 0 + 6 ≤ 6 from by omega) hlocks (fun t hv hz hk => ⟨(), trivial, ⟨by rw [hE9]; decide, by rw [hE9]; rfl⟩, Nat.le_trans hS.1 hz, fun q h1 h2 => (hk q (Nat.lt_of_lt_of_le h1 hS.1)).trans (hS.2.1 q h1 h2)⟩) (fun z hz => Or.inr (hS.2.2 z hz)) (show 0 + 1 ≤ 1 from by omega) (show 0 + 6 ≤ 6 from by omega)
    · refine lv_iload_n hx hb dX4_line_4 rfl (lv_at hl 1 rfl) ?_
      refine lv_aload_n hx hb dX4_line_5 rfl (lv_at hl 0 rfl) ?_
      refine va_get (D := D) (ci := 11) (v := .ref hW) (C := RX4) (T := TX4) (N := 10) hx hb hts in_X4 hown hK hP 0 rfl rfl 0 (by decide) (hts _ q_655) (fun _ h9 => h9) rfl dX4_line_6 ?_
      refine va_getN (D := D) (ci := 10) (v := .int (nI R)) (C := RX3) (T := TX3) (N := 7) hx hb hts in_X3 hown hK hP 1 rfl rfl 0 (by decide) (va_Nw.use rfl (hN.1 _ n_129)) (fun _ h9 => h9) rfl dX4_line_9 ?_
      refine lv_aload_n hx hb dX4_line_12 rfl (lv_at hl 0 rfl) ?_
      refine va_get (D := D) (ci := 11) (v := .ref hW) (C := RX4) (T := TX4) (N := 10) hx hb hts in_X4 hown hK hP 0 rfl rfl 0 (by decide) (hts _ q_655) (fun _ h9 => h9) rfl dX4_line_13 ?_
      refine va_getN (D := D) (ci := 10) (v := .int (nI C)) (C := RX3) (T := TX3) (N := 7) hx hb hts in_X3 hown hK hP 1 rfl rfl 1 (by decide) (va_Nw.use rfl (hN.1 _ n_131)) (fun _ h9 => h9) rfl dX4_line_16 ?_
      refine lv_iadd hx hb dX4_line_19 ?_
      refine lv_icmp_lt (tgt := 33) hx hb dX4_line_20 (by decide) (fun c_2 => ?_) (fun c_2 => ?_)
      · refine lv_aload_n hx hb dX4_line_33 rfl (lv_at hl 0 rfl) ?_
        refine va_get (D := D) (ci := 11) (v := .ref hW) (C := RX4) (T := TX4) (N := 10) hx hb hts in_X4 hown hK hP 0 rfl rfl 0 (by decide) (hts _ q_655) (fun _ h9 => h9) rfl dX4_line_34 ?_
        refine lv_iload_n hx hb dX4_line_37 rfl (lv_at hl 1 rfl) ?_
        refine lv_iload_n hx hb dX4_line_38 rfl (lv_at hl 2 rfl) ?_
        have hPc := hP.sub (ws' := [(hW, .inr (10, [.int (nI R), .int (nI C), .int (nI K), .int fi, .int di, .int br, .int li]))]) [1] rfl
        have hDc := hD.sub (ws' := [(hW, .inr (10, [.int (nI R), .int (nI C), .int (nI K), .int fi, .int di, .int br, .int li]))]) [1] (by decide) rfl
        have hS := va_S_up hS hA
        have hFc := va_free (wc := [(hW, .inr (10, [.int (nI R), .int (nI C), .int (nI K), .int fi, .int di, .int br, .int li]))]) hD hS hA [1] rfl
        refine va_callv (va_runVN (As := [.int x1, .int x2]) (rest := []) ⟨hx, hb, hml, hown, hts⟩ (c_X3_breakLine l D hW R C K fi di br li x1 x2 H.size (show R ≤ 5 from hR) (show C ≤ 5 from hC)) ⟨va_cnB 2 hts (gi_sub q_916) rfl rfl rfl (hN.1 _ n_913) (hts _ q_81) (by decide +kernel) ⟨Nat.le_of_ble_eq_true rfl, Nat.le_of_ble_eq_true rfl⟩, (hts _ q_915), (hts _ q_32)⟩ ⟨cPre_blind, va_recv hK hP (ci := 10) (q0 := 1) rfl rfl, cPre_mk hPc hK hDc hN (lwZ_for hZ hS hFc)⟩ rfl rfl hl.1 rfl (lv_room (Nat.le_of_ble_eq_true rfl)) dX4_line_39 ⟨(show 0 + 0 ≤ 1 from (by omega)), (show 0 + 0 ≤ 6 from (by omega))⟩) hS (fun q _ h => hFc q h) hFc (fun u t H1 locs ht hvm hw hBk hz1 hk1 hS => ?_)
        obtain ⟨hP1, hD1⟩ := hBk
        rw [ht] at hP1
        obtain ⟨hP, hD⟩ := va_join (wr := [(hX, .inr (11, [.ref hW, .ref hF, .ref hA_, .ref hT, .int (nI sc), .int pa, .int gu, .int cl, .int se, .int rf]))]) (w1 := [(hW, .inr (10, [.int (nI R), .int (nI C), .int (nI K), .int fi, .int di, .int ((F_X3_breakLine R C fi br x1 x2).1), .int ((F_X3_breakLine R C fi br x1 x2).2)]))]) hP hD [1] [0] rfl rfl (by decide) (by decide) hk1 hFc hP1 hD1
        clear hPc hDc hFc hP1 hD1 hk1 hz1
        clear hvm ht u; clear t
        generalize H1 = H at hP hS ⊢
        have hP : va_P D vwCl [(hX, .inr (11, [.ref hW, .ref hF, .ref hA_, .ref hT, .int (nI sc), .int pa, .int gu, .int cl, .int se, .int rf])), (hW, .inr (10, [.int (nI R), .int (nI C), .int (nI K), .int fi, .int di, .int ((F_X3_breakLine R C fi br x1 x2).1), .int ((F_X3_breakLine R C fi br x1 x2).2)]))] H := hP
        have hD : va_D A [(hX, .inr (11, [.ref hW, .ref hF, .ref hA_, .ref hT, .int (nI sc), .int pa, .int gu, .int cl, .int se, .int rf])), (hW, .inr (10, [.int (nI R), .int (nI C), .int (nI K), .int fi, .int di, .int ((F_X3_breakLine R C fi br x1 x2).1), .int ((F_X3_breakLine R C fi br x1 x2).2)]))] := hD
        refine lv_aload_n hx hb dX4_line_42 rfl (lv_at hl 0 rfl) ?_
        refine va_get (D := D) (ci := 11) (v := .ref hW) (C := RX4) (T := TX4) (N := 10) hx hb hts in_X4 hown hK hP 0 rfl rfl 0 (by decide) (hts _ q_655) (fun _ h9 => h9) rfl dX4_line_43 ?_
        refine va_getN (D := D) (ci := 10) (v := .int ((F_X3_breakLine R C fi br x1 x2).1)) (C := RX3) (T := TX3) (N := 7) hx hb hts in_X3 hown hK hP 1 rfl rfl 5 (by decide) (va_Nw.use rfl (hN.1 _ n_139)) (fun _ h9 => h9) rfl dX4_line_46 ?_
        have hPc := hP.sub (ws' := []) [] rfl
        have hDc := hD.sub (ws' := []) [] (by decide) rfl
        have hFc := va_free (wc := []) hD hS hA [] rfl
        refine va_calli (va_runS (As := [.int ((F_X3_breakLine R C fi br x1 x2).1)]) (rest := []) ⟨hx, hb, hml, hown, hts⟩ (c_J6_bitCount_0f7a4 l D ((F_X3_breakLine R C fi br x1 x2).1) H.size ) ⟨callB_of 1 hts (gi_sub q_728) rfl rfl rfl (hts _ q_101) (hts _ q_792) (by decide +kernel) ⟨Nat.le_of_ble_eq_true rfl, Nat.le_of_ble_eq_true rfl⟩, (hts _ q_727)⟩ ⟨cPre_blind, cPre_mk hPc hK hDc hN (lwZ_for hZ hS hFc)⟩ rfl rfl hl.1 rfl (lv_room (Nat.le_of_ble_eq_true rfl)) dX4_line_49 ⟨(show 0 + 0 ≤ 1 from (by omega)), (show 0 + 0 ≤ 6 from (by omega))⟩) hS (fun q h1 h2 => absurd h2 (Nat.not_le.mpr h1)) (fun q h => hA q (Nat.le_trans hS.1 h)) (fun r_49 u t H1 locs ht hvm hw hBk hz1 hk1 hS => ?_)
        have hP := va_P_ro hP hk1
        subst hw
        clear hBk hvm ht u hz1 hk1
        clear hPc hDc hFc; clear t
        generalize H1 = H at hP hS ⊢
        have hP : va_P D vwCl [(hX, .inr (11, [.ref hW, .ref hF, .ref hA_, .ref hT, .int (nI sc), .int pa, .int gu, .int cl, .int se, .int rf])), (hW, .inr (10, [.int (nI R), .int (nI C), .int (nI K), .int fi, .int di, .int ((F_X3_breakLine R C fi br x1 x2).1), .int ((F_X3_breakLine R C fi br x1 x2).2)]))] H := hP
        have hD : va_D A [(hX, .inr (11, [.ref hW, .ref hF, .ref hA_, .ref hT, .int (nI sc), .int pa, .int gu, .int cl, .int se, .int rf])), (hW, .inr (10, [.int (nI R), .int (nI C), .int (nI K), .int fi, .int di, .int ((F_X3_breakLine R C fi br x1 x2).1), .int ((F_X3_breakLine R C fi br x1 x2).2)]))] := hD
        subst hQe
        refine vx_ret ?_
        subst hAe
        have hE : (F_X4_line R C fi br li x1 x2) = (F_J6_bitCount_0f7a4 ((F_X3_breakLine R C fi br x1 x2).1), (F_X3_breakLine R C fi br x1 x2).1, (F_X3_breakLine R C fi br x1 x2).2) := (by unfold F_X4_line; rw [if_neg c_1, if_pos c_2])
        have hE9 : (E_X4_line R C x1) = 0 := (by unfold E_X4_line; rw [if_neg c_1, if_pos c_2])
        refine W.widen (k := 1) (n := 6) (by omega) (by omega) ?_
        have hP9 := hP.sub (ws' := [(hX, .inr (11, [.ref hW, .ref hF, .ref hA_, .ref hT, .int (nI sc), .int pa, .int gu, .int cl, .int se, .int rf])), (hW, .inr (10, [.int (nI R), .int (nI C), .int (nI K), .int fi, .int di, .int ((F_X3_breakLine R C fi br x1 x2).1), .int ((F_X3_breakLine R C fi br x1 x2).2)]))]) [0, 1] rfl
        have hD9 := hD.sub (ws' := [(hX, .inr (11, [.ref hW, .ref hF, .ref hA_, .ref hT, .int (nI sc), .int pa, .int gu, .int cl, .int se, .int rf])), (hW, .inr (10, [.int (nI R), .int (nI C), .int (nI K), .int fi, .int di, .int ((F_X3_breakLine R C fi br x1 x2).1), .int ((F_X3_breakLine R C fi br x1 x2).2)]))]) [0, 1] (by decide) rfl
        exact W.iret (v := F_J6_bitCount_0f7a4 ((F_X3_breakLine R C fi br x1 x2).1)) hx hb hr (fun t ht hW => ⟨⟨F_J6_bitCount_0f7a4 ((F_X3_breakLine R C fi br x1 x2).1), (), rfl, ⟨(by rw [hE]), hE9⟩, (by rw [hE]; rw [ht]; exact hP9), (by rw [hE]; exact hD9)⟩, hS.F ht⟩) hS.2.2 dX4_line_52
      · subst hQe
        subst hAe
        obtain ⟨sa, hstr⟩ := hN.2 _ (List.mem_of_getElem? (i := 3) rfl)
        have hE9 : (E_X4_line R C x1) = 2 := (by unfold E_X4_line; rw [if_neg c_1, if_neg c_2])
        exact vx_throwS (own := RX4) (cls := "java/lang/IndexOutOfBoundsException") (text := "no such line") (names := ["java/lang/RuntimeException", "java/lang/Exception"]) hx hb hst hown (by decide +kernel) (by decide +kernel) (hts _ q_878) (hts _ q_92) hstr (at_2_hat hts hN.1) at_2_ot hZ.2.2.1 hZ.2.2.2 (va_S_up hS hA) (hl.1.trans hml.symm) dX4_line_23 dX4_line_26 dX4_line_27 dX4_line_29 dX4_line_32 (fun x h => (hno x h).elim) (Nat.le_of_ble_eq_true rfl) (Nat.le_of_ble_eq_true rfl) (show 0 + 1 ≤ 1 from by omega) (show 0 + 6 ≤ 6 from by omega) hlocks (fun t hv hz hk => ⟨(), trivial, ⟨by rw [hE9]; decide, by rw [hE9]; rfl⟩, Nat.le_trans hS.1 hz, fun q h1 h2 => (hk q (Nat.lt_of_lt_of_le h1 hS.1)).trans (hS.2.1 q h1 h2)⟩) (fun z hz => Or.inr (hS.2.2 z hz)) (show 0 + 1 ≤ 1 from by omega) (show 0 + 6 ≤ 6 from by omega)
  rw [hHe, hLe] at hgoal
  exact hgoal
