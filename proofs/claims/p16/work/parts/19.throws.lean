/-- the exceptions that the class throws, by number -/
def xname : Nat → String
  | 1 => "java/lang/IllegalArgumentException"
  | 2 => "java/lang/IndexOutOfBoundsException"
  | _ => "java/lang/IllegalStateException"
set_option maxRecDepth 20000 in
theorem at_1_in : ∀ w ∈ (vx_atS "Rowscan" 74 "java/lang/IllegalArgumentException" ["java/lang/RuntimeException", "java/lang/Exception"]).filter goodWord, w ∈ lw_tbl := by decide +kernel
set_option maxRecDepth 20000 in
theorem at_1_bad : ∀ w ∈ (vx_atS "Rowscan" 74 "java/lang/IllegalArgumentException" ["java/lang/RuntimeException", "java/lang/Exception"]).filter (fun w => !goodWord w), w ∈ lwNest := by decide +kernel
theorem at_1_hat {args : Array Value} {s : State} (hts : ∀ w ∈ lwAll, w.before args s = true) (hN : ∀ w ∈ lwNest, va_Nw w s) : ∀ w ∈ (vx_atS "Rowscan" 74 "java/lang/IllegalArgumentException" ["java/lang/RuntimeException", "java/lang/Exception"]), w.before args s = true :=
  vx_hat (B := lwNest) (fun w h => hts w (lwAll_in (List.mem_append_left _ (at_1_in w h)) (List.mem_filter.mp h).2)) at_1_bad (fun w h => va_Nw.use (lwNest_on w h) (hN w h))
set_option maxRecDepth 20000 in
theorem at_1_ot : ∀ w ∈ Cond.classLink "Rowscan" 70 "java/lang/IllegalArgumentException" :: Cond.initialized "java/lang/IllegalArgumentException" :: (vx_atS "Rowscan" 74 "java/lang/IllegalArgumentException" ["java/lang/RuntimeException", "java/lang/Exception"]), vx_ot w = true := by decide +kernel
set_option maxRecDepth 20000 in
theorem at_2_in : ∀ w ∈ (vx_atS "Rowscan" 87 "java/lang/IndexOutOfBoundsException" ["java/lang/RuntimeException", "java/lang/Exception"]).filter goodWord, w ∈ lw_tbl := by decide +kernel
set_option maxRecDepth 20000 in
theorem at_2_bad : ∀ w ∈ (vx_atS "Rowscan" 87 "java/lang/IndexOutOfBoundsException" ["java/lang/RuntimeException", "java/lang/Exception"]).filter (fun w => !goodWord w), w ∈ lwNest := by decide +kernel
theorem at_2_hat {args : Array Value} {s : State} (hts : ∀ w ∈ lwAll, w.before args s = true) (hN : ∀ w ∈ lwNest, va_Nw w s) : ∀ w ∈ (vx_atS "Rowscan" 87 "java/lang/IndexOutOfBoundsException" ["java/lang/RuntimeException", "java/lang/Exception"]), w.before args s = true :=
  vx_hat (B := lwNest) (fun w h => hts w (lwAll_in (List.mem_append_left _ (at_2_in w h)) (List.mem_filter.mp h).2)) at_2_bad (fun w h => va_Nw.use (lwNest_on w h) (hN w h))
set_option maxRecDepth 20000 in
theorem at_2_ot : ∀ w ∈ Cond.classLink "Rowscan" 83 "java/lang/IndexOutOfBoundsException" :: Cond.initialized "java/lang/IndexOutOfBoundsException" :: (vx_atS "Rowscan" 87 "java/lang/IndexOutOfBoundsException" ["java/lang/RuntimeException", "java/lang/Exception"]), vx_ot w = true := by decide +kernel
set_option maxRecDepth 20000 in
theorem at_3_in : ∀ w ∈ (vx_atS "Rowscan" 148 "java/lang/IllegalStateException" ["java/lang/RuntimeException", "java/lang/Exception"]).filter goodWord, w ∈ lw_tbl := by decide +kernel
set_option maxRecDepth 20000 in
theorem at_3_bad : ∀ w ∈ (vx_atS "Rowscan" 148 "java/lang/IllegalStateException" ["java/lang/RuntimeException", "java/lang/Exception"]).filter (fun w => !goodWord w), w ∈ lwNest := by decide +kernel
theorem at_3_hat {args : Array Value} {s : State} (hts : ∀ w ∈ lwAll, w.before args s = true) (hN : ∀ w ∈ lwNest, va_Nw w s) : ∀ w ∈ (vx_atS "Rowscan" 148 "java/lang/IllegalStateException" ["java/lang/RuntimeException", "java/lang/Exception"]), w.before args s = true :=
  vx_hat (B := lwNest) (fun w h => hts w (lwAll_in (List.mem_append_left _ (at_3_in w h)) (List.mem_filter.mp h).2)) at_3_bad (fun w h => va_Nw.use (lwNest_on w h) (hN w h))
set_option maxRecDepth 20000 in
theorem at_3_ot : ∀ w ∈ Cond.classLink "Rowscan" 144 "java/lang/IllegalStateException" :: Cond.initialized "java/lang/IllegalStateException" :: (vx_atS "Rowscan" 148 "java/lang/IllegalStateException" ["java/lang/RuntimeException", "java/lang/Exception"]), vx_ot w = true := by decide +kernel
theorem isSize_ok {x : Int32} (h : ¬ F_X4_isSize x = 0) : x = nI x.toNatClampNeg ∧ 2 ≤ x.toNatClampNeg ∧ x.toNatClampNeg ≤ 5 := by
  unfold F_X4_isSize at h
  split at h
  · exact absurd rfl h
  · rename_i h2
    split at h
    · exact absurd rfl h
    · rename_i h5
      have h0 : ¬ x < 0 := fun h6 => h2 (Int32.lt_trans h6 (by decide))
      obtain ⟨j, hj, rfl⟩ := nI_of h0
      rw [nI_clamp hj]
      refine ⟨rfl, ?_, ?_⟩
      · rcases Nat.lt_or_ge j 2 with q | q
        · exact absurd (nI_lt (b := 2) q (by decide)) h2
        · exact q
      · rcases Nat.lt_or_ge 5 j with q | q
        · exact absurd (nI_lt (a := 5) q hj) h5
        · exact q
theorem hasKey_ok {K : Nat} {x : Int32} (h : ¬ F_X3_hasKey K x = 0) (hK : K ≤ 25) : x = nI x.toNatClampNeg ∧ x.toNatClampNeg < K ∧ vp_in x 25 := by
  unfold F_X3_hasKey at h
  split at h
  · exact absurd rfl h
  · rename_i h0
    split at h
    · exact absurd rfl h
    · rename_i h5
      obtain ⟨j, hj, rfl⟩ := nI_of h0
      rw [nI_clamp hj]
      have h1 : j < K := by
        rcases Nat.lt_or_ge j K with q | q
        · exact q
        · exact absurd (nI_le q hj) h5
      exact ⟨rfl, h1, vp_in_nI (by omega) (by decide)⟩
theorem rng_ok {x y : Int32} {n : Nat} (hy : y = nI n) (hn : n < 2 ^ 31) (h0 : ¬ x < 0) (h1 : x ≤ y) : x = nI x.toNatClampNeg ∧ x.toNatClampNeg ≤ n := by
  obtain ⟨j, hj, rfl⟩ := nI_of h0
  rw [nI_clamp hj]
  refine ⟨rfl, ?_⟩
  rcases Nat.lt_or_ge n j with q | q
  · exact absurd (by rw [hy] at h1; exact h1) (nI_ge q hj)
  · exact q
theorem code_place {x y : Int32} {K : Nat} (h0 : ¬ x < 0) (h3 : ¬ 3 ≤ x) (hk : ¬ F_X3_hasKey K y = 0) (hK : K ≤ 25) : vp_in ((x * 25) + y) 75 := by
  obtain ⟨j, hj, rfl⟩ := nI_of h0
  have h1 : j < 3 := by
    rcases Nat.lt_or_ge j 3 with q | q
    · exact q
    · exact absurd (nI_le (a := 3) q hj) h3
  obtain ⟨e, h2, -⟩ := hasKey_ok hk hK
  rw [e, show (25 : Int32) = nI 25 from rfl, pk_mul, nI_add]
  exact vp_in_nI (by omega) (by decide)
theorem ch_lt {n : Nat} (hn : n ≤ 6) (h : nI n < 6) : n < 6 := by
  rcases Nat.lt_or_ge n 6 with q | q
  · exact q
  · exact absurd h (nI_nlt (b := 6) q (by omega))
theorem sc_le {x : Int32} {N i : Nat} (h : x = nI N) (h2 : N ≤ i) (hb : i < 2 ^ 31) : x ≤ nI i := by rw [h]; exact nI_le h2 hb
theorem sc_nle {x : Int32} {N i : Nat} (h : x = nI N) (h2 : i < N) (hb : N < 2 ^ 31) : ¬ x ≤ nI i := by rw [h]; exact nI_ge h2 hb
theorem sc_ok {x : Int32} (h1 : ¬ x < 1) (h2 : x ≤ 50) : x = nI x.toNatClampNeg ∧ x.toNatClampNeg ≤ 50 :=
  rng_ok (y := 50) (n := 50) rfl (by decide) (fun h => h1 (Int32.lt_trans h (by decide))) h2

def E_X4_patience (x1 : Int32) : Nat := (if x1 < 1 then 1 else (if x1 ≤ 6 then 0 else 1))
def F_X4_patience (pa : Int32) (gu : Int32) (x1 : Int32) (x2 : Int32) : Int32 × Int32 × Int32 := (if x1 < 1 then (0, pa, gu) else (if x1 ≤ 6 then (pa, x1, x2) else (0, pa, gu)))
set_option maxHeartbeats 4000000 in
set_option maxRecDepth 100000 in
theorem c_X4_patience (l : Launch) (D : va_G) (hX : Nat) (hW : Nat) (hF : Nat) (hA_ : Nat) (hT : Nat) (sc : Nat) (pa : Int32) (gu : Int32) (cl : Int32) (se : Int32) (rf : Int32) (x1 : Int32) (x2 : Int32) (sz : Nat) (hst : l.stackTraces = false) (hx2 : x2 = 0 ∨ x2 = 1) : vx_Met l yX4_patience (Cond.code yX4_patience cX4_patience 4 (some .int) :: lwAll) ({ frames := 6, cells := 1, slots := 6, locals := 90 } : Room) (va_Pc [.ref hX, .int x1, .int x2] (cPre D (lwTY D) [(hX, .inr (11, [.ref hW, .ref hF, .ref hA_, .ref hT, .int (nI sc), .int pa, .int gu, .int cl, .int se, .int rf]))] sz)) (va_Qi (fun (r : Int32) (_ : Unit) => r = (F_X4_patience pa gu x1 x2).1 ∧ (E_X4_patience x1) = 0) (fun (_ : Unit) t => va_P D vwCl [(hX, .inr (11, [.ref hW, .ref hF, .ref hA_, .ref hT, .int (nI sc), .int ((F_X4_patience pa gu x1 x2).2.1), .int ((F_X4_patience pa gu x1 x2).2.2), .int cl, .int se, .int rf]))] t.heap ∧ va_D (va_A [(hX, .inr (11, [.ref hW, .ref hF, .ref hA_, .ref hT, .int (nI sc), .int pa, .int gu, .int cl, .int se, .int rf]))] sz) [(hX, .inr (11, [.ref hW, .ref hF, .ref hA_, .ref hT, .int (nI sc), .int ((F_X4_patience pa gu x1 x2).2.1), .int ((F_X4_patience pa gu x1 x2).2.2), .int cl, .int se, .int rf]))]) (va_A [(hX, .inr (11, [.ref hW, .ref hF, .ref hA_, .ref hT, .int (nI sc), .int pa, .int gu, .int cl, .int se, .int rf]))] sz)) (vx_X (fun _ : Unit => True) (fun (E : String) (_ : Unit) (_ : State) => (E_X4_patience x1) ≠ 0 ∧ E = xname (E_X4_patience x1)) (fun q : Nat => sz ≤ q)) 1 6 (va_A [(hX, .inr (11, [.ref hW, .ref hF, .ref hA_, .ref hT, .int (nI sc), .int pa, .int gu, .int cl, .int se, .int rf]))] sz) := by
  refine vx_ofW (cc := cX4_patience) (maxL := 4) (ret := (some .int)) (by decide) rfl ?_
  intro p e s m args below meth c s₁ B hml hno hv
  obtain ⟨rfl, hsz, hP, hK, hD0, hN, hZ⟩ := hv
  have hx := B.exec
  have hb := B.bytes
  have hr := B.returns
  have hts : ∀ wd ∈ lwAll, wd.before ([.ref hX, .int x1, .int x2] : List Value).toArray s = true := fun wd h => atoms_spec (ws := (Cond.code yX4_patience cX4_patience 4 (some .int) :: lwAll)) B.pre wd (List.mem_cons_of_mem _ h)
  have hown : s.vm.findClass RX4 = some m.cls := findClass_of_methodNamed B.named
  have hlocks := B.notSynchronized
  subst hsz
  have hD := hD0.self (sz := s.heap.size)
  have hl := lv_entry ([.ref hX, .int x1, .int x2]) (n := 4) (Nat.le_of_ble_eq_true rfl)
  rw [lg_entry_eq]
  generalize (lg_sl ([.ref hX, .int x1, .int x2]) ++ List.replicate (4 - (lg_sl ([.ref hX, .int x1, .int x2])).length) Slot.unset).toArray = ls at hl ⊢
  have hl : lv_has ls 4 [(0, .ref hX), (1, .int x1), (2, .int x2)] := hl
  have hS : va_S (fun q : Nat => s.heap.size ≤ q) s.heap s.heap [] := va_S.rf
  generalize hQe : vx_MQ below (va_Qi (fun (r : Int32) (_ : Unit) => r = (F_X4_patience pa gu x1 x2).1 ∧ (E_X4_patience x1) = 0) (fun (_ : Unit) t => va_P D vwCl [(hX, .inr (11, [.ref hW, .ref hF, .ref hA_, .ref hT, .int (nI sc), .int ((F_X4_patience pa gu x1 x2).2.1), .int ((F_X4_patience pa gu x1 x2).2.2), .int cl, .int se, .int rf]))] t.heap ∧ va_D (va_A [(hX, .inr (11, [.ref hW, .ref hF, .ref hA_, .ref hT, .int (nI sc), .int pa, .int gu, .int cl, .int se, .int rf]))] s.heap.size) [(hX, .inr (11, [.ref hW, .ref hF, .ref hA_, .ref hT, .int (nI sc), .int ((F_X4_patience pa gu x1 x2).2.1), .int ((F_X4_patience pa gu x1 x2).2.2), .int cl, .int se, .int rf]))]) (va_A [(hX, .inr (11, [.ref hW, .ref hF, .ref hA_, .ref hT, .int (nI sc), .int pa, .int gu, .int cl, .int se, .int rf]))] s.heap.size)) (vx_X (fun _ : Unit => True) (fun (E : String) (_ : Unit) (_ : State) => (E_X4_patience x1) ≠ 0 ∧ E = xname (E_X4_patience x1)) (fun q : Nat => s.heap.size ≤ q)) ([.ref hX, .int x1, .int x2] : List Value).toArray s 1 6 (va_A [(hX, .inr (11, [.ref hW, .ref hF, .ref hA_, .ref hT, .int (nI sc), .int pa, .int gu, .int cl, .int se, .int rf]))] s.heap.size) = Q
  have hP : va_P D vwCl [(hX, .inr (11, [.ref hW, .ref hF, .ref hA_, .ref hT, .int (nI sc), .int pa, .int gu, .int cl, .int se, .int rf]))] s.heap := hP
  obtain ⟨A, hAe⟩ : ∃ A, A = va_A [(hX, .inr (11, [.ref hW, .ref hF, .ref hA_, .ref hT, .int (nI sc), .int pa, .int gu, .int cl, .int se, .int rf]))] s.heap.size := ⟨_, rfl⟩
  rw [← hAe] at hD hZ
  have hA : ∀ q : Nat, s.heap.size ≤ q → A q := fun q h => by rw [hAe]; exact Or.inr h
  obtain ⟨H, hHe⟩ : ∃ H, H = s.heap := ⟨_, rfl⟩
  obtain ⟨locs, hLe⟩ : ∃ L : List Loc, L = [] := ⟨_, rfl⟩
  have hP : va_P D vwCl [(hX, .inr (11, [.ref hW, .ref hF, .ref hA_, .ref hT, .int (nI sc), .int pa, .int gu, .int cl, .int se, .int rf]))] H := by rw [hHe]; exact hP
  have hS : va_S (fun q : Nat => s.heap.size ≤ q) s.heap H locs := by rw [hHe, hLe]; exact hS
  have hgoal : W p l e ({ frames := 6, cells := 1, slots := 6, locals := 90 } : Room) s m ([.ref hX, .int x1, .int x2] : List Value).toArray below meth c H locs 0 0 Q (F0 m 0 ls []) := by
    clear hHe hLe
    refine lv_iload_n hx hb dX4_patience_0 rfl (lv_at hl 1 rfl) ?_
    refine lv_iconst (v := 1) hx hb dX4_patience_1 (by decide) ?_
    refine lv_icmp_lt (tgt := 11) hx hb dX4_patience_2 (by decide) (fun c_1 => ?_) (fun c_1 => ?_)
    · subst hQe
      subst hAe
      obtain ⟨sa, hstr⟩ := hN.2 _ (List.mem_of_getElem? (i := 4) rfl)
      have hE9 : (E_X4_patience x1) = 1 := (by unfold E_X4_patience; rw [if_pos c_1])
      exact vx_throwS (own := RX4) (cls := "java/lang/IllegalArgumentException") (text := "patience is 1 to 6") (names := ["java/lang/RuntimeException", "java/lang/Exception"]) hx hb hst hown (by decide +kernel) (by decide +kernel) (hts _ q_863) (hts _ q_102) hstr (at_1_hat hts hN.1) at_1_ot hZ.2.2.1 hZ.2.2.2 (va_S_up hS hA) (hl.1.trans hml.symm) dX4_patience_11 dX4_patience_14 dX4_patience_15 dX4_patience_17 dX4_patience_20 (fun x h => (hno x h).elim) (Nat.le_of_ble_eq_true rfl) (Nat.le_of_ble_eq_true rfl) (show 0 + 1 ≤ 1 from by omega) (show 0 + 6 ≤ 6 from by omega) hlocks (fun t hv hz hk => ⟨(), trivial, ⟨by rw [hE9]; decide, by rw [hE9]; rfl⟩, Nat.le_trans hS.1 hz, fun q h1 h2 => (hk q (Nat.lt_of_lt_of_le h1 hS.1)).trans (hS.2.1 q h1 h2)⟩) (fun z hz => Or.inr (hS.2.2 z hz)) (show 0 + 1 ≤ 1 from by omega) (show 0 + 6 ≤ 6 from by omega)
    · refine lv_iload_n hx hb dX4_patience_5 rfl (lv_at hl 1 rfl) ?_
      refine lv_bipush (v := 6) hx hb dX4_patience_6 (by decide) ?_
      refine lv_icmp_le (tgt := 21) hx hb dX4_patience_8 (by decide) (fun c_2 => ?_) (fun c_2 => ?_)
      · refine lv_aload_n hx hb dX4_patience_21 rfl (lv_at hl 0 rfl) ?_
        refine va_get (D := D) (ci := 11) (v := .int pa) (C := RX4) (T := TX4) (N := 10) hx hb hts in_X4 hown hK hP 0 rfl rfl 5 (by decide) (hts _ q_660) (fun _ h9 => h9) rfl dX4_patience_22 ?_
        refine lv_istore_n (lv' := [(3, .int pa), (0, .ref hX), (1, .int x1), (2, .int x2)]) hx hb dX4_patience_25 rfl hl (by decide) rfl (fun ls hl => ?_)
        refine lv_aload_n hx hb dX4_patience_26 rfl (lv_at hl 1 rfl) ?_
        refine lv_iload_n hx hb dX4_patience_27 rfl (lv_at hl 2 rfl) ?_
        have hS := va_S_up hS hA
        refine va_put (D := D) (ci := 11) (v := .int x1) (ty := .int) (C := RX4) (T := TX4) (N := 10) hx hb hts in_X4 tyX4 tyX4_ok nmX4 hown hK hP hD hS 0 rfl rfl 5 (by decide) (hts _ q_660) (fun _ h9 => h9) rfl (by decide +kernel) rfl rfl (Nat.le_of_ble_eq_true rfl) dX4_patience_28 (fun H locs hP hD hS => ?_)
        have hP : va_P D vwCl [(hX, .inr (11, [.ref hW, .ref hF, .ref hA_, .ref hT, .int (nI sc), .int x1, .int gu, .int cl, .int se, .int rf]))] H := hP
        have hD : va_D A [(hX, .inr (11, [.ref hW, .ref hF, .ref hA_, .ref hT, .int (nI sc), .int x1, .int gu, .int cl, .int se, .int rf]))] := hD
        refine lv_aload_n hx hb dX4_patience_31 rfl (lv_at hl 1 rfl) ?_
        refine lv_iload_n hx hb dX4_patience_32 rfl (lv_at hl 3 rfl) ?_
        refine va_put (D := D) (ci := 11) (v := .int x2) (ty := .boolean) (C := RX4) (T := TX4) (N := 10) hx hb hts in_X4 tyX4 tyX4_ok nmX4 hown hK hP hD hS 0 rfl rfl 6 (by decide) (hts _ q_661) (fun _ h9 => h9) rfl (by decide +kernel) (zb_narrow (by assumption)) (zb_fits (by assumption)) (Nat.le_of_ble_eq_true rfl) dX4_patience_33 (fun H locs hP hD hS => ?_)
        have hP : va_P D vwCl [(hX, .inr (11, [.ref hW, .ref hF, .ref hA_, .ref hT, .int (nI sc), .int x1, .int x2, .int cl, .int se, .int rf]))] H := hP
        have hD : va_D A [(hX, .inr (11, [.ref hW, .ref hF, .ref hA_, .ref hT, .int (nI sc), .int x1, .int x2, .int cl, .int se, .int rf]))] := hD
        refine lv_iload_n hx hb dX4_patience_36 rfl (lv_at hl 0 rfl) ?_
        subst hQe
        refine vx_ret ?_
        subst hAe
        have hE : (F_X4_patience pa gu x1 x2) = (pa, x1, x2) := (by unfold F_X4_patience; rw [if_neg c_1, if_pos c_2])
        have hE9 : (E_X4_patience x1) = 0 := (by unfold E_X4_patience; rw [if_neg c_1, if_pos c_2])
        refine W.widen (k := 1) (n := 6) (by omega) (by omega) ?_
        have hP9 := hP.sub (ws' := [(hX, .inr (11, [.ref hW, .ref hF, .ref hA_, .ref hT, .int (nI sc), .int x1, .int x2, .int cl, .int se, .int rf]))]) [0] rfl
        have hD9 := hD.sub (ws' := [(hX, .inr (11, [.ref hW, .ref hF, .ref hA_, .ref hT, .int (nI sc), .int x1, .int x2, .int cl, .int se, .int rf]))]) [0] (by decide) rfl
        exact W.iret (v := pa) hx hb hr (fun t ht hW => ⟨⟨pa, (), rfl, ⟨(by rw [hE]), hE9⟩, (by (try rw [hE]); rw [ht]; exact hP9), (by (try rw [hE]); exact hD9)⟩, hS.F ht⟩) hS.2.2 dX4_patience_37
      · subst hQe
        subst hAe
        obtain ⟨sa, hstr⟩ := hN.2 _ (List.mem_of_getElem? (i := 4) rfl)
        have hE9 : (E_X4_patience x1) = 1 := (by unfold E_X4_patience; rw [if_neg c_1, if_neg c_2])
        exact vx_throwS (own := RX4) (cls := "java/lang/IllegalArgumentException") (text := "patience is 1 to 6") (names := ["java/lang/RuntimeException", "java/lang/Exception"]) hx hb hst hown (by decide +kernel) (by decide +kernel) (hts _ q_863) (hts _ q_102) hstr (at_1_hat hts hN.1) at_1_ot hZ.2.2.1 hZ.2.2.2 (va_S_up hS hA) (hl.1.trans hml.symm) dX4_patience_11 dX4_patience_14 dX4_patience_15 dX4_patience_17 dX4_patience_20 (fun x h => (hno x h).elim) (Nat.le_of_ble_eq_true rfl) (Nat.le_of_ble_eq_true rfl) (show 0 + 1 ≤ 1 from by omega) (show 0 + 6 ≤ 6 from by omega) hlocks (fun t hv hz hk => ⟨(), trivial, ⟨by rw [hE9]; decide, by rw [hE9]; rfl⟩, Nat.le_trans hS.1 hz, fun q h1 h2 => (hk q (Nat.lt_of_lt_of_le h1 hS.1)).trans (hS.2.1 q h1 h2)⟩) (fun z hz => Or.inr (hS.2.2 z hz)) (show 0 + 1 ≤ 1 from by omega) (show 0 + 6 ≤ 6 from by omega)
  rw [hHe, hLe] at hgoal
  exact hgoal

def E_X4_line (R : Nat) (C : Nat) (x1 : Int32) : Nat := (if x1 < 0 then 2 else (if x1 < ((nI R) + (nI C)) then 0 else 2))
def F_X4_line (R : Nat) (C : Nat) (fi : Int32) (br : Int32) (li : Int32) (x1 : Int32) (x2 : Int32) : Int32 × Int32 × Int32 := (if x1 < 0 then (0, br, li) else (if x1 < ((nI R) + (nI C)) then (F_J6_bitCount_0f7a4 ((F_X3_breakLine R C fi br x1 x2).1), (F_X3_breakLine R C fi br x1 x2).1, (F_X3_breakLine R C fi br x1 x2).2) else (0, br, li)))
set_option maxHeartbeats 4000000 in
set_option maxRecDepth 100000 in
theorem c_X4_line (l : Launch) (D : va_G) (hX : Nat) (hW : Nat) (hF : Nat) (hA_ : Nat) (hT : Nat) (sc : Nat) (pa : Int32) (gu : Int32) (cl : Int32) (se : Int32) (rf : Int32) (R : Nat) (C : Nat) (K : Nat) (fi : Int32) (di : Int32) (br : Int32) (li : Int32) (x1 : Int32) (x2 : Int32) (sz : Nat) (hst : l.stackTraces = false) (hR : R ≤ 5) (hC : C ≤ 5) : vx_Met l yX4_line (Cond.code yX4_line cX4_line 3 (some .int) :: lwAll) ({ frames := 6, cells := 1, slots := 6, locals := 90 } : Room) (va_Pc [.ref hX, .int x1, .int x2] (cPre D (lwTY D) [(hX, .inr (11, [.ref hW, .ref hF, .ref hA_, .ref hT, .int (nI sc), .int pa, .int gu, .int cl, .int se, .int rf])), (hW, .inr (10, [.int (nI R), .int (nI C), .int (nI K), .int fi, .int di, .int br, .int li]))] sz)) (va_Qi (fun (r : Int32) (_ : Unit) => r = (F_X4_line R C fi br li x1 x2).1 ∧ (E_X4_line R C x1) = 0) (fun (_ : Unit) t => va_P D vwCl [(hX, .inr (11, [.ref hW, .ref hF, .ref hA_, .ref hT, .int (nI sc), .int pa, .int gu, .int cl, .int se, .int rf])), (hW, .inr (10, [.int (nI R), .int (nI C), .int (nI K), .int fi, .int di, .int ((F_X4_line R C fi br li x1 x2).2.1), .int ((F_X4_line R C fi br li x1 x2).2.2)]))] t.heap ∧ va_D (va_A [(hX, .inr (11, [.ref hW, .ref hF, .ref hA_, .ref hT, .int (nI sc), .int pa, .int gu, .int cl, .int se, .int rf])), (hW, .inr (10, [.int (nI R), .int (nI C), .int (nI K), .int fi, .int di, .int br, .int li]))] sz) [(hX, .inr (11, [.ref hW, .ref hF, .ref hA_, .ref hT, .int (nI sc), .int pa, .int gu, .int cl, .int se, .int rf])), (hW, .inr (10, [.int (nI R), .int (nI C), .int (nI K), .int fi, .int di, .int ((F_X4_line R C fi br li x1 x2).2.1), .int ((F_X4_line R C fi br li x1 x2).2.2)]))]) (va_A [(hX, .inr (11, [.ref hW, .ref hF, .ref hA_, .ref hT, .int (nI sc), .int pa, .int gu, .int cl, .int se, .int rf])), (hW, .inr (10, [.int (nI R), .int (nI C), .int (nI K), .int fi, .int di, .int br, .int li]))] sz)) (vx_X (fun _ : Unit => True) (fun (E : String) (_ : Unit) (_ : State) => (E_X4_line R C x1) ≠ 0 ∧ E = xname (E_X4_line R C x1)) (fun q : Nat => sz ≤ q)) 1 6 (va_A [(hX, .inr (11, [.ref hW, .ref hF, .ref hA_, .ref hT, .int (nI sc), .int pa, .int gu, .int cl, .int se, .int rf])), (hW, .inr (10, [.int (nI R), .int (nI C), .int (nI K), .int fi, .int di, .int br, .int li]))] sz) := by
  refine vx_ofW (cc := cX4_line) (maxL := 3) (ret := (some .int)) (by decide) rfl ?_
  intro p e s m args below meth c s₁ B hml hno hv
  obtain ⟨rfl, hsz, hP, hK, hD0, hN, hZ⟩ := hv
  have hx := B.exec
  have hb := B.bytes
  have hr := B.returns
  have hts : ∀ wd ∈ lwAll, wd.before ([.ref hX, .int x1, .int x2] : List Value).toArray s = true := fun wd h => atoms_spec (ws := (Cond.code yX4_line cX4_line 3 (some .int) :: lwAll)) B.pre wd (List.mem_cons_of_mem _ h)
  have hown : s.vm.findClass RX4 = some m.cls := findClass_of_methodNamed B.named
  have hlocks := B.notSynchronized
  subst hsz
  have hD := hD0.self (sz := s.heap.size)
  have hl := lv_entry ([.ref hX, .int x1, .int x2]) (n := 3) (Nat.le_of_ble_eq_true rfl)
  rw [lg_entry_eq]
  generalize (lg_sl ([.ref hX, .int x1, .int x2]) ++ List.replicate (3 - (lg_sl ([.ref hX, .int x1, .int x2])).length) Slot.unset).toArray = ls at hl ⊢
  have hl : lv_has ls 3 [(0, .ref hX), (1, .int x1), (2, .int x2)] := hl
  have hS : va_S (fun q : Nat => s.heap.size ≤ q) s.heap s.heap [] := va_S.rf
  generalize hQe : vx_MQ below (va_Qi (fun (r : Int32) (_ : Unit) => r = (F_X4_line R C fi br li x1 x2).1 ∧ (E_X4_line R C x1) = 0) (fun (_ : Unit) t => va_P D vwCl [(hX, .inr (11, [.ref hW, .ref hF, .ref hA_, .ref hT, .int (nI sc), .int pa, .int gu, .int cl, .int se, .int rf])), (hW, .inr (10, [.int (nI R), .int (nI C), .int (nI K), .int fi, .int di, .int ((F_X4_line R C fi br li x1 x2).2.1), .int ((F_X4_line R C fi br li x1 x2).2.2)]))] t.heap ∧ va_D (va_A [(hX, .inr (11, [.ref hW, .ref hF, .ref hA_, .ref hT, .int (nI sc), .int pa, .int gu, .int cl, .int se, .int rf])), (hW, .inr (10, [.int (nI R), .int (nI C), .int (nI K), .int fi, .int di, .int br, .int li]))] s.heap.size) [(hX, .inr (11, [.ref hW, .ref hF, .ref hA_, .ref hT, .int (nI sc), .int pa, .int gu, .int cl, .int se, .int rf])), (hW, .inr (10, [.int (nI R), .int (nI C), .int (nI K), .int fi, .int di, .int ((F_X4_line R C fi br li x1 x2).2.1), .int ((F_X4_line R C fi br li x1 x2).2.2)]))]) (va_A [(hX, .inr (11, [.ref hW, .ref hF, .ref hA_, .ref hT, .int (nI sc), .int pa, .int gu, .int cl, .int se, .int rf])), (hW, .inr (10, [.int (nI R), .int (nI C), .int (nI K), .int fi, .int di, .int br, .int li]))] s.heap.size)) (vx_X (fun _ : Unit => True) (fun (E : String) (_ : Unit) (_ : State) => (E_X4_line R C x1) ≠ 0 ∧ E = xname (E_X4_line R C x1)) (fun q : Nat => s.heap.size ≤ q)) ([.ref hX, .int x1, .int x2] : List Value).toArray s 1 6 (va_A [(hX, .inr (11, [.ref hW, .ref hF, .ref hA_, .ref hT, .int (nI sc), .int pa, .int gu, .int cl, .int se, .int rf])), (hW, .inr (10, [.int (nI R), .int (nI C), .int (nI K), .int fi, .int di, .int br, .int li]))] s.heap.size) = Q
  have hP : va_P D vwCl [(hX, .inr (11, [.ref hW, .ref hF, .ref hA_, .ref hT, .int (nI sc), .int pa, .int gu, .int cl, .int se, .int rf])), (hW, .inr (10, [.int (nI R), .int (nI C), .int (nI K), .int fi, .int di, .int br, .int li]))] s.heap := hP
  obtain ⟨A, hAe⟩ : ∃ A, A = va_A [(hX, .inr (11, [.ref hW, .ref hF, .ref hA_, .ref hT, .int (nI sc), .int pa, .int gu, .int cl, .int se, .int rf])), (hW, .inr (10, [.int (nI R), .int (nI C), .int (nI K), .int fi, .int di, .int br, .int li]))] s.heap.size := ⟨_, rfl⟩
  rw [← hAe] at hD hZ
  have hA : ∀ q : Nat, s.heap.size ≤ q → A q := fun q h => by rw [hAe]; exact Or.inr h
  obtain ⟨H, hHe⟩ : ∃ H, H = s.heap := ⟨_, rfl⟩
  obtain ⟨locs, hLe⟩ : ∃ L : List Loc, L = [] := ⟨_, rfl⟩
  have hP : va_P D vwCl [(hX, .inr (11, [.ref hW, .ref hF, .ref hA_, .ref hT, .int (nI sc), .int pa, .int gu, .int cl, .int se, .int rf])), (hW, .inr (10, [.int (nI R), .int (nI C), .int (nI K), .int fi, .int di, .int br, .int li]))] H := by rw [hHe]; exact hP
  have hS : va_S (fun q : Nat => s.heap.size ≤ q) s.heap H locs := by rw [hHe, hLe]; exact hS
  have hgoal : W p l e ({ frames := 6, cells := 1, slots := 6, locals := 90 } : Room) s m ([.ref hX, .int x1, .int x2] : List Value).toArray below meth c H locs 0 0 Q (F0 m 0 ls []) := by
    clear hHe hLe
    refine lv_iload_n hx hb dX4_line_0 rfl (lv_at hl 1 rfl) ?_
    refine lv_if_lt (tgt := 23) hx hb dX4_line_1 (by decide) (fun c_1 => ?_) (fun c_1 => ?_)
    · subst hQe
      subst hAe
      obtain ⟨sa, hstr⟩ := hN.2 _ (List.mem_of_getElem? (i := 3) rfl)
      have hE9 : (E_X4_line R C x1) = 2 := (by unfold E_X4_line; rw [if_pos c_1])
      exact vx_throwS (own := RX4) (cls := "java/lang/IndexOutOfBoundsException") (text := "no such line") (names := ["java/lang/RuntimeException", "java/lang/Exception"]) hx hb hst hown (by decide +kernel) (by decide +kernel) (hts _ q_878) (hts _ q_92) hstr (at_2_hat hts hN.1) at_2_ot hZ.2.2.1 hZ.2.2.2 (va_S_up hS hA) (hl.1.trans hml.symm) dX4_line_23 dX4_line_26 dX4_line_27 dX4_line_29 dX4_line_32 (fun x h => (hno x h).elim) (Nat.le_of_ble_eq_true rfl) (Nat.le_of_ble_eq_true rfl) (show 0 + 1 ≤ 1 from by omega) (show 0 + 6 ≤ 6 from by omega) hlocks (fun t hv hz hk => ⟨(), trivial, ⟨by rw [hE9]; decide, by rw [hE9]; rfl⟩, Nat.le_trans hS.1 hz, fun q h1 h2 => (hk q (Nat.lt_of_lt_of_le h1 hS.1)).trans (hS.2.1 q h1 h2)⟩) (fun z hz => Or.inr (hS.2.2 z hz)) (show 0 + 1 ≤ 1 from by omega) (show 0 + 6 ≤ 6 from by omega)
    · refine lv_iload_n hx hb dX4_line_4 rfl (lv_at hl 1 rfl) ?_
      refine lv_aload_n hx hb dX4_line_5 rfl (lv_at hl 0 rfl) ?_
      refine va_get (D := D) (ci := 11) (v := .ref hW) (C := RX4) (T := TX4) (N := 10) hx hb hts in_X4 hown hK hP 0 rfl rfl 0 (by decide) (hts _ q_655) (fun _ h9 => h9) rfl dX4_line_6 ?_
      refine va_getN (D := D) (ci := 10) (v := .int (nI R)) (C := RX3) (T := TX3) (N := 7) hx hb hts in_X3 hown hK hP 1 rfl rfl 0 (by decide) (va_Nw.use rfl (hN.1 _ n_129)) (fun _ h9 => h9) rfl dX4_line_9 ?_
      refine lv_aload_n hx hb dX4_line_12 rfl (lv_at hl 0 rfl) ?_
      refine va_get (D := D) (ci := 11) (v := .ref hW) (C := RX4) (T := TX4) (N := 10) hx hb hts in_X4 hown hK hP 0 rfl rfl 0 (by decide) (hts _ q_655) (fun _ h9 => h9) rfl dX4_line_13 ?_
      refine va_getN (D := D) (ci := 10) (v := .int (nI C)) (C := RX3) (T := TX3) (N := 7) hx hb hts in_X3 hown hK hP 1 rfl rfl 1 (by decide) (va_Nw.use rfl (hN.1 _ n_131)) (fun _ h9 => h9) rfl dX4_line_16 ?_
      refine lv_iadd hx hb dX4_line_19 ?_
      refine lv_icmp_lt (tgt := 33) hx hb dX4_line_20 (by decide) (fun c_2 => ?_) (fun c_2 => ?_)
      · refine lv_aload_n hx hb dX4_line_33 rfl (lv_at hl 0 rfl) ?_
        refine va_get (D := D) (ci := 11) (v := .ref hW) (C := RX4) (T := TX4) (N := 10) hx hb hts in_X4 hown hK hP 0 rfl rfl 0 (by decide) (hts _ q_655) (fun _ h9 => h9) rfl dX4_line_34 ?_
        refine lv_iload_n hx hb dX4_line_37 rfl (lv_at hl 1 rfl) ?_
        refine lv_iload_n hx hb dX4_line_38 rfl (lv_at hl 2 rfl) ?_
        have hPc := hP.sub (ws' := [(hW, .inr (10, [.int (nI R), .int (nI C), .int (nI K), .int fi, .int di, .int br, .int li]))]) [1] rfl
        have hDc := hD.sub (ws' := [(hW, .inr (10, [.int (nI R), .int (nI C), .int (nI K), .int fi, .int di, .int br, .int li]))]) [1] (by decide) rfl
        have hS := va_S_up hS hA
        have hFc := va_free (wc := [(hW, .inr (10, [.int (nI R), .int (nI C), .int (nI K), .int fi, .int di, .int br, .int li]))]) hD hS hA [1] rfl
        refine va_callv (va_runVN (As := [.int x1, .int x2]) (rest := []) ⟨hx, hb, hml, hown, hts⟩ (c_X3_breakLine l D hW R C K fi di br li x1 x2 H.size (show R ≤ 5 from hR) (show C ≤ 5 from hC)) ⟨va_cnB 2 hts (gi_sub q_916) rfl rfl rfl (hN.1 _ n_913) (hts _ q_81) (by decide +kernel) ⟨Nat.le_of_ble_eq_true rfl, Nat.le_of_ble_eq_true rfl⟩, (hts _ q_915), (hts _ q_32)⟩ ⟨cPre_blind, va_recv hK hP (ci := 10) (q0 := 1) rfl rfl, cPre_mk hPc hK hDc hN (lwZ_for hZ hS hFc)⟩ rfl rfl hl.1 rfl (lv_room (Nat.le_of_ble_eq_true rfl)) dX4_line_39 ⟨(show 0 + 0 ≤ 1 from (by omega)), (show 0 + 0 ≤ 6 from (by omega))⟩) hS (fun q _ h => hFc q h) hFc (fun u t H1 locs ht hvm hw hBk hz1 hk1 hS => ?_)
        obtain ⟨hP1, hD1⟩ := hBk
        rw [ht] at hP1
        obtain ⟨hP, hD⟩ := va_join (wr := [(hX, .inr (11, [.ref hW, .ref hF, .ref hA_, .ref hT, .int (nI sc), .int pa, .int gu, .int cl, .int se, .int rf]))]) (w1 := [(hW, .inr (10, [.int (nI R), .int (nI C), .int (nI K), .int fi, .int di, .int ((F_X3_breakLine R C fi br x1 x2).1), .int ((F_X3_breakLine R C fi br x1 x2).2)]))]) hP hD [1] [0] rfl rfl (by decide) (by decide) hk1 hFc hP1 hD1
        clear hPc hDc hFc hP1 hD1 hk1 hz1
        clear hvm ht u; clear t
        generalize H1 = H at hP hS ⊢
        have hP : va_P D vwCl [(hX, .inr (11, [.ref hW, .ref hF, .ref hA_, .ref hT, .int (nI sc), .int pa, .int gu, .int cl, .int se, .int rf])), (hW, .inr (10, [.int (nI R), .int (nI C), .int (nI K), .int fi, .int di, .int ((F_X3_breakLine R C fi br x1 x2).1), .int ((F_X3_breakLine R C fi br x1 x2).2)]))] H := hP
        have hD : va_D A [(hX, .inr (11, [.ref hW, .ref hF, .ref hA_, .ref hT, .int (nI sc), .int pa, .int gu, .int cl, .int se, .int rf])), (hW, .inr (10, [.int (nI R), .int (nI C), .int (nI K), .int fi, .int di, .int ((F_X3_breakLine R C fi br x1 x2).1), .int ((F_X3_breakLine R C fi br x1 x2).2)]))] := hD
        refine lv_aload_n hx hb dX4_line_42 rfl (lv_at hl 0 rfl) ?_
        refine va_get (D := D) (ci := 11) (v := .ref hW) (C := RX4) (T := TX4) (N := 10) hx hb hts in_X4 hown hK hP 0 rfl rfl 0 (by decide) (hts _ q_655) (fun _ h9 => h9) rfl dX4_line_43 ?_
        refine va_getN (D := D) (ci := 10) (v := .int ((F_X3_breakLine R C fi br x1 x2).1)) (C := RX3) (T := TX3) (N := 7) hx hb hts in_X3 hown hK hP 1 rfl rfl 5 (by decide) (va_Nw.use rfl (hN.1 _ n_139)) (fun _ h9 => h9) rfl dX4_line_46 ?_
        have hPc := hP.sub (ws' := []) [] rfl
        have hDc := hD.sub (ws' := []) [] (by decide) rfl
        have hFc := va_free (wc := []) hD hS hA [] rfl
        refine va_calli (va_runS (As := [.int ((F_X3_breakLine R C fi br x1 x2).1)]) (rest := []) ⟨hx, hb, hml, hown, hts⟩ (c_J6_bitCount_0f7a4 l D ((F_X3_breakLine R C fi br x1 x2).1) H.size ) ⟨callB_of 1 hts (gi_sub q_728) rfl rfl rfl (hts _ q_101) (hts _ q_792) (by decide +kernel) ⟨Nat.le_of_ble_eq_true rfl, Nat.le_of_ble_eq_true rfl⟩, (hts _ q_727)⟩ ⟨cPre_blind, cPre_mk hPc hK hDc hN (lwZ_for hZ hS hFc)⟩ rfl rfl hl.1 rfl (lv_room (Nat.le_of_ble_eq_true rfl)) dX4_line_49 ⟨(show 0 + 0 ≤ 1 from (by omega)), (show 0 + 0 ≤ 6 from (by omega))⟩) hS (fun q h1 h2 => absurd h2 (Nat.not_le.mpr h1)) (fun q h => hA q (Nat.le_trans hS.1 h)) (fun r_49 u t H1 locs ht hvm hw hBk hz1 hk1 hS => ?_)
        have hP := va_P_ro hP hk1
        subst hw
        clear hBk hvm ht u hz1 hk1
        clear hPc hDc hFc; clear t
        generalize H1 = H at hP hS ⊢
        subst hQe
        refine vx_ret ?_
        subst hAe
        have hE : (F_X4_line R C fi br li x1 x2) = (F_J6_bitCount_0f7a4 ((F_X3_breakLine R C fi br x1 x2).1), (F_X3_breakLine R C fi br x1 x2).1, (F_X3_breakLine R C fi br x1 x2).2) := (by unfold F_X4_line; rw [if_neg c_1, if_pos c_2])
        have hE9 : (E_X4_line R C x1) = 0 := (by unfold E_X4_line; rw [if_neg c_1, if_pos c_2])
        refine W.widen (k := 1) (n := 6) (by omega) (by omega) ?_
        have hP9 := hP.sub (ws' := [(hX, .inr (11, [.ref hW, .ref hF, .ref hA_, .ref hT, .int (nI sc), .int pa, .int gu, .int cl, .int se, .int rf])), (hW, .inr (10, [.int (nI R), .int (nI C), .int (nI K), .int fi, .int di, .int ((F_X3_breakLine R C fi br x1 x2).1), .int ((F_X3_breakLine R C fi br x1 x2).2)]))]) [0, 1] rfl
        have hD9 := hD.sub (ws' := [(hX, .inr (11, [.ref hW, .ref hF, .ref hA_, .ref hT, .int (nI sc), .int pa, .int gu, .int cl, .int se, .int rf])), (hW, .inr (10, [.int (nI R), .int (nI C), .int (nI K), .int fi, .int di, .int ((F_X3_breakLine R C fi br x1 x2).1), .int ((F_X3_breakLine R C fi br x1 x2).2)]))]) [0, 1] (by decide) rfl
        exact W.iret (v := F_J6_bitCount_0f7a4 ((F_X3_breakLine R C fi br x1 x2).1)) hx hb hr (fun t ht hW => ⟨⟨F_J6_bitCount_0f7a4 ((F_X3_breakLine R C fi br x1 x2).1), (), rfl, ⟨(by rw [hE]), hE9⟩, (by (try rw [hE]); rw [ht]; exact hP9), (by (try rw [hE]); exact hD9)⟩, hS.F ht⟩) hS.2.2 dX4_line_52
      · subst hQe
        subst hAe
        obtain ⟨sa, hstr⟩ := hN.2 _ (List.mem_of_getElem? (i := 3) rfl)
        have hE9 : (E_X4_line R C x1) = 2 := (by unfold E_X4_line; rw [if_neg c_1, if_neg c_2])
        exact vx_throwS (own := RX4) (cls := "java/lang/IndexOutOfBoundsException") (text := "no such line") (names := ["java/lang/RuntimeException", "java/lang/Exception"]) hx hb hst hown (by decide +kernel) (by decide +kernel) (hts _ q_878) (hts _ q_92) hstr (at_2_hat hts hN.1) at_2_ot hZ.2.2.1 hZ.2.2.2 (va_S_up hS hA) (hl.1.trans hml.symm) dX4_line_23 dX4_line_26 dX4_line_27 dX4_line_29 dX4_line_32 (fun x h => (hno x h).elim) (Nat.le_of_ble_eq_true rfl) (Nat.le_of_ble_eq_true rfl) (show 0 + 1 ≤ 1 from by omega) (show 0 + 6 ≤ 6 from by omega) hlocks (fun t hv hz hk => ⟨(), trivial, ⟨by rw [hE9]; decide, by rw [hE9]; rfl⟩, Nat.le_trans hS.1 hz, fun q h1 h2 => (hk q (Nat.lt_of_lt_of_le h1 hS.1)).trans (hS.2.1 q h1 h2)⟩) (fun z hz => Or.inr (hS.2.2 z hz)) (show 0 + 1 ≤ 1 from by omega) (show 0 + 6 ≤ 6 from by omega)
  rw [hHe, hLe] at hgoal
  exact hgoal

def E_X4_key (K : Nat) (x1 : Int32) (x2 : Int32) (x4 : Int32) (x5 : Int32) : Nat := (if (F_X3_hasKey K x1) = 0 then 2 else (if x4 < 0 then 1 else (if 5 < x4 then 1 else (if x5 < 0 then 1 else (if x5 ≤ 2 then (if x2 = 0 then 0 else 0) else 1)))))
def F_X4_key (sc : Nat) (R : Nat) (C : Nat) (K : Nat) (fi : Int32) (di : Int32) (br : Int32) (li : Int32) (he : Int32) (fB : Nat → Int32) (fS : Nat → Int32) (fN : Nat → Int32) (fM : Nat → Int32) (x1 : Int32) (x2 : Int32) (x3 : Int32) (x4 : Int32) (x5 : Int32) : Int32 × Int32 × Int32 × Int32 × (Nat → Int32) × (Nat → Int32) × Int32 × (Nat → Int32) × (Nat → Int32) := (if (F_X3_hasKey K x1) = 0 then (0, fi, di, li, fB, fS, he, fN, fM) else (if x4 < 0 then (0, fi, di, li, fB, fS, he, fN, fM) else (if 5 < x4 then (0, fi, di, li, fB, fS, he, fN, fM) else (if x5 < 0 then (0, fi, di, li, fB, fS, he, fN, fM) else (if x5 ≤ 2 then (if x2 = 0 then (F_J6_bitCount_0f7a4 ((F_X3_fit R C fi di br x1 x2 x3).1), (F_X3_fit R C fi di br x1 x2 x3).1, (F_X3_fit R C fi di br x1 x2 x3).2.1, (F_X3_fit R C fi di br x1 x2 x3).2.2, upd fB x1.toNatClampNeg x4, upd fS x1.toNatClampNeg x5, (F_X0_move (upd fB x1.toNatClampNeg x4) fN fM he x1.toNatClampNeg 0 (nI sc)).1, (F_X0_move (upd fB x1.toNatClampNeg x4) fN fM he x1.toNatClampNeg 0 (nI sc)).2.1, (F_X0_move (upd fB x1.toNatClampNeg x4) fN fM he x1.toNatClampNeg 0 (nI sc)).2.2) else (F_J6_bitCount_0f7a4 ((F_X3_fit R C fi di br x1 x2 x3).1), (F_X3_fit R C fi di br x1 x2 x3).1, (F_X3_fit R C fi di br x1 x2 x3).2.1, (F_X3_fit R C fi di br x1 x2 x3).2.2, upd fB x1.toNatClampNeg x4, upd fS x1.toNatClampNeg x5, he, fN, fM)) else (0, fi, di, li, fB, fS, he, fN, fM))))))
set_option maxHeartbeats 4000000 in
set_option maxRecDepth 100000 in
theorem c_X4_key (l : Launch) (D : va_G) (hX : Nat) (hW : Nat) (hF : Nat) (hA_ : Nat) (hT : Nat) (sc : Nat) (pa : Int32) (gu : Int32) (cl : Int32) (se : Int32) (rf : Int32) (R : Nat) (C : Nat) (K : Nat) (fi : Int32) (di : Int32) (br : Int32) (li : Int32) (aB : Nat) (aS : Nat) (aN : Nat) (aM : Nat) (he : Int32) (lu : Int32) (fB : Nat → Int32) (fS : Nat → Int32) (fN : Nat → Int32) (fM : Nat → Int32) (x1 : Int32) (x2 : Int32) (x3 : Int32) (x4 : Int32) (x5 : Int32) (sz : Nat) (hst : l.stackTraces = false) (hR : R ≤ 5) (hC : C ≤ 5) (hKb : K ≤ 25) : vx_Met l yX4_key (Cond.code yX4_key cX4_key 6 (some .int) :: lwAll) ({ frames := 6, cells := 1, slots := 6, locals := 90 } : Room) (va_Pc [.ref hX, .int x1, .int x2, .int x3, .int x4, .int x5] (cPre D (lwTY D) [(hX, .inr (11, [.ref hW, .ref hF, .ref hA_, .ref hT, .int (nI sc), .int pa, .int gu, .int cl, .int se, .int rf])), (hW, .inr (10, [.int (nI R), .int (nI C), .int (nI K), .int fi, .int di, .int br, .int li])), (hF, .inr (7, [.ref aB, .ref aS, .ref aN, .ref aM, .int he, .int lu])), (aB, .inl ((D.1 101), 25, .inl fB)), (aS, .inl ((D.1 101), 25, .inl fS)), (aN, .inl ((D.1 101), 25, .inl fN)), (aM, .inl ((D.1 101), 25, .inl fM))] sz)) (va_Qi (fun (r : Int32) (_ : Unit) => r = (F_X4_key sc R C K fi di br li he fB fS fN fM x1 x2 x3 x4 x5).1 ∧ (E_X4_key K x1 x2 x4 x5) = 0) (fun (_ : Unit) t => va_P D vwCl [(hX, .inr (11, [.ref hW, .ref hF, .ref hA_, .ref hT, .int (nI sc), .int pa, .int gu, .int cl, .int se, .int rf])), (hW, .inr (10, [.int (nI R), .int (nI C), .int (nI K), .int ((F_X4_key sc R C K fi di br li he fB fS fN fM x1 x2 x3 x4 x5).2.1), .int ((F_X4_key sc R C K fi di br li he fB fS fN fM x1 x2 x3 x4 x5).2.2.1), .int br, .int ((F_X4_key sc R C K fi di br li he fB fS fN fM x1 x2 x3 x4 x5).2.2.2.1)])), (hF, .inr (7, [.ref aB, .ref aS, .ref aN, .ref aM, .int ((F_X4_key sc R C K fi di br li he fB fS fN fM x1 x2 x3 x4 x5).2.2.2.2.2.2.1), .int lu])), (aB, .inl ((D.1 101), 25, .inl ((F_X4_key sc R C K fi di br li he fB fS fN fM x1 x2 x3 x4 x5).2.2.2.2.1))), (aS, .inl ((D.1 101), 25, .inl ((F_X4_key sc R C K fi di br li he fB fS fN fM x1 x2 x3 x4 x5).2.2.2.2.2.1))), (aN, .inl ((D.1 101), 25, .inl ((F_X4_key sc R C K fi di br li he fB fS fN fM x1 x2 x3 x4 x5).2.2.2.2.2.2.2.1))), (aM, .inl ((D.1 101), 25, .inl ((F_X4_key sc R C K fi di br li he fB fS fN fM x1 x2 x3 x4 x5).2.2.2.2.2.2.2.2)))] t.heap ∧ va_D (va_A [(hX, .inr (11, [.ref hW, .ref hF, .ref hA_, .ref hT, .int (nI sc), .int pa, .int gu, .int cl, .int se, .int rf])), (hW, .inr (10, [.int (nI R), .int (nI C), .int (nI K), .int fi, .int di, .int br, .int li])), (hF, .inr (7, [.ref aB, .ref aS, .ref aN, .ref aM, .int he, .int lu])), (aB, .inl ((D.1 101), 25, .inl fB)), (aS, .inl ((D.1 101), 25, .inl fS)), (aN, .inl ((D.1 101), 25, .inl fN)), (aM, .inl ((D.1 101), 25, .inl fM))] sz) [(hX, .inr (11, [.ref hW, .ref hF, .ref hA_, .ref hT, .int (nI sc), .int pa, .int gu, .int cl, .int se, .int rf])), (hW, .inr (10, [.int (nI R), .int (nI C), .int (nI K), .int ((F_X4_key sc R C K fi di br li he fB fS fN fM x1 x2 x3 x4 x5).2.1), .int ((F_X4_key sc R C K fi di br li he fB fS fN fM x1 x2 x3 x4 x5).2.2.1), .int br, .int ((F_X4_key sc R C K fi di br li he fB fS fN fM x1 x2 x3 x4 x5).2.2.2.1)])), (hF, .inr (7, [.ref aB, .ref aS, .ref aN, .ref aM, .int ((F_X4_key sc R C K fi di br li he fB fS fN fM x1 x2 x3 x4 x5).2.2.2.2.2.2.1), .int lu])), (aB, .inl ((D.1 101), 25, .inl ((F_X4_key sc R C K fi di br li he fB fS fN fM x1 x2 x3 x4 x5).2.2.2.2.1))), (aS, .inl ((D.1 101), 25, .inl ((F_X4_key sc R C K fi di br li he fB fS fN fM x1 x2 x3 x4 x5).2.2.2.2.2.1))), (aN, .inl ((D.1 101), 25, .inl ((F_X4_key sc R C K fi di br li he fB fS fN fM x1 x2 x3 x4 x5).2.2.2.2.2.2.2.1))), (aM, .inl ((D.1 101), 25, .inl ((F_X4_key sc R C K fi di br li he fB fS fN fM x1 x2 x3 x4 x5).2.2.2.2.2.2.2.2)))]) (va_A [(hX, .inr (11, [.ref hW, .ref hF, .ref hA_, .ref hT, .int (nI sc), .int pa, .int gu, .int cl, .int se, .int rf])), (hW, .inr (10, [.int (nI R), .int (nI C), .int (nI K), .int fi, .int di, .int br, .int li])), (hF, .inr (7, [.ref aB, .ref aS, .ref aN, .ref aM, .int he, .int lu])), (aB, .inl ((D.1 101), 25, .inl fB)), (aS, .inl ((D.1 101), 25, .inl fS)), (aN, .inl ((D.1 101), 25, .inl fN)), (aM, .inl ((D.1 101), 25, .inl fM))] sz)) (vx_X (fun _ : Unit => True) (fun (E : String) (_ : Unit) (_ : State) => (E_X4_key K x1 x2 x4 x5) ≠ 0 ∧ E = xname (E_X4_key K x1 x2 x4 x5)) (fun q : Nat => sz ≤ q)) 1 6 (va_A [(hX, .inr (11, [.ref hW, .ref hF, .ref hA_, .ref hT, .int (nI sc), .int pa, .int gu, .int cl, .int se, .int rf])), (hW, .inr (10, [.int (nI R), .int (nI C), .int (nI K), .int fi, .int di, .int br, .int li])), (hF, .inr (7, [.ref aB, .ref aS, .ref aN, .ref aM, .int he, .int lu])), (aB, .inl ((D.1 101), 25, .inl fB)), (aS, .inl ((D.1 101), 25, .inl fS)), (aN, .inl ((D.1 101), 25, .inl fN)), (aM, .inl ((D.1 101), 25, .inl fM))] sz) := by
  refine vx_ofW (cc := cX4_key) (maxL := 6) (ret := (some .int)) (by decide) rfl ?_
  intro p e s m args below meth c s₁ B hml hno hv
  obtain ⟨rfl, hsz, hP, hK, hD0, hN, hZ⟩ := hv
  have hx := B.exec
  have hb := B.bytes
  have hr := B.returns
  have hts : ∀ wd ∈ lwAll, wd.before ([.ref hX, .int x1, .int x2, .int x3, .int x4, .int x5] : List Value).toArray s = true := fun wd h => atoms_spec (ws := (Cond.code yX4_key cX4_key 6 (some .int) :: lwAll)) B.pre wd (List.mem_cons_of_mem _ h)
  have hown : s.vm.findClass RX4 = some m.cls := findClass_of_methodNamed B.named
  have hlocks := B.notSynchronized
  subst hsz
  have hD := hD0.self (sz := s.heap.size)
  have hl := lv_entry ([.ref hX, .int x1, .int x2, .int x3, .int x4, .int x5]) (n := 6) (Nat.le_of_ble_eq_true rfl)
  rw [lg_entry_eq]
  generalize (lg_sl ([.ref hX, .int x1, .int x2, .int x3, .int x4, .int x5]) ++ List.replicate (6 - (lg_sl ([.ref hX, .int x1, .int x2, .int x3, .int x4, .int x5])).length) Slot.unset).toArray = ls at hl ⊢
  have hl : lv_has ls 6 [(0, .ref hX), (1, .int x1), (2, .int x2), (3, .int x3), (4, .int x4), (5, .int x5)] := hl
  have hS : va_S (fun q : Nat => s.heap.size ≤ q) s.heap s.heap [] := va_S.rf
  generalize hQe : vx_MQ below (va_Qi (fun (r : Int32) (_ : Unit) => r = (F_X4_key sc R C K fi di br li he fB fS fN fM x1 x2 x3 x4 x5).1 ∧ (E_X4_key K x1 x2 x4 x5) = 0) (fun (_ : Unit) t => va_P D vwCl [(hX, .inr (11, [.ref hW, .ref hF, .ref hA_, .ref hT, .int (nI sc), .int pa, .int gu, .int cl, .int se, .int rf])), (hW, .inr (10, [.int (nI R), .int (nI C), .int (nI K), .int ((F_X4_key sc R C K fi di br li he fB fS fN fM x1 x2 x3 x4 x5).2.1), .int ((F_X4_key sc R C K fi di br li he fB fS fN fM x1 x2 x3 x4 x5).2.2.1), .int br, .int ((F_X4_key sc R C K fi di br li he fB fS fN fM x1 x2 x3 x4 x5).2.2.2.1)])), (hF, .inr (7, [.ref aB, .ref aS, .ref aN, .ref aM, .int ((F_X4_key sc R C K fi di br li he fB fS fN fM x1 x2 x3 x4 x5).2.2.2.2.2.2.1), .int lu])), (aB, .inl ((D.1 101), 25, .inl ((F_X4_key sc R C K fi di br li he fB fS fN fM x1 x2 x3 x4 x5).2.2.2.2.1))), (aS, .inl ((D.1 101), 25, .inl ((F_X4_key sc R C K fi di br li he fB fS fN fM x1 x2 x3 x4 x5).2.2.2.2.2.1))), (aN, .inl ((D.1 101), 25, .inl ((F_X4_key sc R C K fi di br li he fB fS fN fM x1 x2 x3 x4 x5).2.2.2.2.2.2.2.1))), (aM, .inl ((D.1 101), 25, .inl ((F_X4_key sc R C K fi di br li he fB fS fN fM x1 x2 x3 x4 x5).2.2.2.2.2.2.2.2)))] t.heap ∧ va_D (va_A [(hX, .inr (11, [.ref hW, .ref hF, .ref hA_, .ref hT, .int (nI sc), .int pa, .int gu, .int cl, .int se, .int rf])), (hW, .inr (10, [.int (nI R), .int (nI C), .int (nI K), .int fi, .int di, .int br, .int li])), (hF, .inr (7, [.ref aB, .ref aS, .ref aN, .ref aM, .int he, .int lu])), (aB, .inl ((D.1 101), 25, .inl fB)), (aS, .inl ((D.1 101), 25, .inl fS)), (aN, .inl ((D.1 101), 25, .inl fN)), (aM, .inl ((D.1 101), 25, .inl fM))] s.heap.size) [(hX, .inr (11, [.ref hW, .ref hF, .ref hA_, .ref hT, .int (nI sc), .int pa, .int gu, .int cl, .int se, .int rf])), (hW, .inr (10, [.int (nI R), .int (nI C), .int (nI K), .int ((F_X4_key sc R C K fi di br li he fB fS fN fM x1 x2 x3 x4 x5).2.1), .int ((F_X4_key sc R C K fi di br li he fB fS fN fM x1 x2 x3 x4 x5).2.2.1), .int br, .int ((F_X4_key sc R C K fi di br li he fB fS fN fM x1 x2 x3 x4 x5).2.2.2.1)])), (hF, .inr (7, [.ref aB, .ref aS, .ref aN, .ref aM, .int ((F_X4_key sc R C K fi di br li he fB fS fN fM x1 x2 x3 x4 x5).2.2.2.2.2.2.1), .int lu])), (aB, .inl ((D.1 101), 25, .inl ((F_X4_key sc R C K fi di br li he fB fS fN fM x1 x2 x3 x4 x5).2.2.2.2.1))), (aS, .inl ((D.1 101), 25, .inl ((F_X4_key sc R C K fi di br li he fB fS fN fM x1 x2 x3 x4 x5).2.2.2.2.2.1))), (aN, .inl ((D.1 101), 25, .inl ((F_X4_key sc R C K fi di br li he fB fS fN fM x1 x2 x3 x4 x5).2.2.2.2.2.2.2.1))), (aM, .inl ((D.1 101), 25, .inl ((F_X4_key sc R C K fi di br li he fB fS fN fM x1 x2 x3 x4 x5).2.2.2.2.2.2.2.2)))]) (va_A [(hX, .inr (11, [.ref hW, .ref hF, .ref hA_, .ref hT, .int (nI sc), .int pa, .int gu, .int cl, .int se, .int rf])), (hW, .inr (10, [.int (nI R), .int (nI C), .int (nI K), .int fi, .int di, .int br, .int li])), (hF, .inr (7, [.ref aB, .ref aS, .ref aN, .ref aM, .int he, .int lu])), (aB, .inl ((D.1 101), 25, .inl fB)), (aS, .inl ((D.1 101), 25, .inl fS)), (aN, .inl ((D.1 101), 25, .inl fN)), (aM, .inl ((D.1 101), 25, .inl fM))] s.heap.size)) (vx_X (fun _ : Unit => True) (fun (E : String) (_ : Unit) (_ : State) => (E_X4_key K x1 x2 x4 x5) ≠ 0 ∧ E = xname (E_X4_key K x1 x2 x4 x5)) (fun q : Nat => s.heap.size ≤ q)) ([.ref hX, .int x1, .int x2, .int x3, .int x4, .int x5] : List Value).toArray s 1 6 (va_A [(hX, .inr (11, [.ref hW, .ref hF, .ref hA_, .ref hT, .int (nI sc), .int pa, .int gu, .int cl, .int se, .int rf])), (hW, .inr (10, [.int (nI R), .int (nI C), .int (nI K), .int fi, .int di, .int br, .int li])), (hF, .inr (7, [.ref aB, .ref aS, .ref aN, .ref aM, .int he, .int lu])), (aB, .inl ((D.1 101), 25, .inl fB)), (aS, .inl ((D.1 101), 25, .inl fS)), (aN, .inl ((D.1 101), 25, .inl fN)), (aM, .inl ((D.1 101), 25, .inl fM))] s.heap.size) = Q
  have hP : va_P D vwCl [(hX, .inr (11, [.ref hW, .ref hF, .ref hA_, .ref hT, .int (nI sc), .int pa, .int gu, .int cl, .int se, .int rf])), (hW, .inr (10, [.int (nI R), .int (nI C), .int (nI K), .int fi, .int di, .int br, .int li])), (hF, .inr (7, [.ref aB, .ref aS, .ref aN, .ref aM, .int he, .int lu])), (aB, .inl ((D.1 101), 25, .inl fB)), (aS, .inl ((D.1 101), 25, .inl fS)), (aN, .inl ((D.1 101), 25, .inl fN)), (aM, .inl ((D.1 101), 25, .inl fM))] s.heap := hP
  obtain ⟨A, hAe⟩ : ∃ A, A = va_A [(hX, .inr (11, [.ref hW, .ref hF, .ref hA_, .ref hT, .int (nI sc), .int pa, .int gu, .int cl, .int se, .int rf])), (hW, .inr (10, [.int (nI R), .int (nI C), .int (nI K), .int fi, .int di, .int br, .int li])), (hF, .inr (7, [.ref aB, .ref aS, .ref aN, .ref aM, .int he, .int lu])), (aB, .inl ((D.1 101), 25, .inl fB)), (aS, .inl ((D.1 101), 25, .inl fS)), (aN, .inl ((D.1 101), 25, .inl fN)), (aM, .inl ((D.1 101), 25, .inl fM))] s.heap.size := ⟨_, rfl⟩
  rw [← hAe] at hD hZ
  have hA : ∀ q : Nat, s.heap.size ≤ q → A q := fun q h => by rw [hAe]; exact Or.inr h
  obtain ⟨H, hHe⟩ : ∃ H, H = s.heap := ⟨_, rfl⟩
  obtain ⟨locs, hLe⟩ : ∃ L : List Loc, L = [] := ⟨_, rfl⟩
  have hP : va_P D vwCl [(hX, .inr (11, [.ref hW, .ref hF, .ref hA_, .ref hT, .int (nI sc), .int pa, .int gu, .int cl, .int se, .int rf])), (hW, .inr (10, [.int (nI R), .int (nI C), .int (nI K), .int fi, .int di, .int br, .int li])), (hF, .inr (7, [.ref aB, .ref aS, .ref aN, .ref aM, .int he, .int lu])), (aB, .inl ((D.1 101), 25, .inl fB)), (aS, .inl ((D.1 101), 25, .inl fS)), (aN, .inl ((D.1 101), 25, .inl fN)), (aM, .inl ((D.1 101), 25, .inl fM))] H := by rw [hHe]; exact hP
  have hS : va_S (fun q : Nat => s.heap.size ≤ q) s.heap H locs := by rw [hHe, hLe]; exact hS
  have hgoal : W p l e ({ frames := 6, cells := 1, slots := 6, locals := 90 } : Room) s m ([.ref hX, .int x1, .int x2, .int x3, .int x4, .int x5] : List Value).toArray below meth c H locs 0 0 Q (F0 m 0 ls []) := by
    clear hHe hLe
    refine lv_aload_n hx hb dX4_key_0 rfl (lv_at hl 0 rfl) ?_
    refine va_get (D := D) (ci := 11) (v := .ref hW) (C := RX4) (T := TX4) (N := 10) hx hb hts in_X4 hown hK hP 0 rfl rfl 0 (by decide) (hts _ q_655) (fun _ h9 => h9) rfl dX4_key_1 ?_
    refine lv_iload_n hx hb dX4_key_4 rfl (lv_at hl 1 rfl) ?_
    have hPc := hP.sub (ws' := [(hW, .inr (10, [.int (nI R), .int (nI C), .int (nI K), .int fi, .int di, .int br, .int li]))]) [1] rfl
    have hDc := hD.sub (ws' := [(hW, .inr (10, [.int (nI R), .int (nI C), .int (nI K), .int fi, .int di, .int br, .int li]))]) [1] (by decide) rfl
    have hFc := va_free (wc := [(hW, .inr (10, [.int (nI R), .int (nI C), .int (nI K), .int fi, .int di, .int br, .int li]))]) hD (va_S_up hS hA) hA [1] rfl
    refine va_calli (va_runVN (As := [.int x1]) (rest := []) ⟨hx, hb, hml, hown, hts⟩ (c_X3_hasKey l D hW R C K fi di br li x1 H.size ) ⟨va_cnB 1 hts (gi_sub q_877) rfl rfl rfl (hN.1 _ n_874) (hts _ q_81) (by decide +kernel) ⟨Nat.le_of_ble_eq_true rfl, Nat.le_of_ble_eq_true rfl⟩, (hts _ q_876), (hts _ q_28)⟩ ⟨cPre_blind, va_recv hK hP (ci := 10) (q0 := 1) rfl rfl, cPre_mk hPc hK hDc hN (lwZ_for hZ (va_S_up hS hA) hFc)⟩ rfl rfl hl.1 rfl (lv_room (Nat.le_of_ble_eq_true rfl)) dX4_key_5 ⟨(show 0 + 0 ≤ 1 from (by omega)), (show 0 + 0 ≤ 6 from (by omega))⟩) hS (fun q h1 h2 => absurd h2 (Nat.not_le.mpr h1)) (fun q h => Nat.le_trans hS.1 h) (fun r_5 u t H1 locs ht hvm hw hBk hz1 hk1 hS => ?_)
    have hP := va_P_ro hP hk1
    obtain ⟨hw, z_1⟩ := hw
    rw [hw] at z_1
    subst hw
    clear hBk hvm ht u hz1 hk1
    clear hPc hDc hFc; clear t
    generalize H1 = H at hP hS ⊢
    refine lv_if_ne (tgt := 21) hx hb dX4_key_8 (by decide) (fun c_2 => ?_) (fun c_2 => ?_)
    · refine lv_iload hx hb dX4_key_21 (lv_at hl 4 rfl) ?_
      refine lv_if_lt (tgt := 43) hx hb dX4_key_23 (by decide) (fun c_3 => ?_) (fun c_3 => ?_)
      · subst hQe
        subst hAe
        obtain ⟨sa, hstr⟩ := hN.2 _ (List.mem_of_getElem? (i := 2) rfl)
        have hE9 : (E_X4_key K x1 x2 x4 x5) = 1 := (by unfold E_X4_key; rw [if_neg c_2, if_pos c_3])
        exact vx_throwS (own := RX4) (cls := "java/lang/IllegalArgumentException") (text := "bounce is 0 to 5, stuck 0 to 2") (names := ["java/lang/RuntimeException", "java/lang/Exception"]) hx hb hst hown (by decide +kernel) (by decide +kernel) (hts _ q_863) (hts _ q_102) hstr (at_1_hat hts hN.1) at_1_ot hZ.2.2.1 hZ.2.2.2 (va_S_up hS hA) (hl.1.trans hml.symm) dX4_key_43 dX4_key_46 dX4_key_47 dX4_key_49 dX4_key_52 (fun x h => (hno x h).elim) (Nat.le_of_ble_eq_true rfl) (Nat.le_of_ble_eq_true rfl) (show 0 + 1 ≤ 1 from by omega) (show 0 + 6 ≤ 6 from by omega) hlocks (fun t hv hz hk => ⟨(), trivial, ⟨by rw [hE9]; decide, by rw [hE9]; rfl⟩, Nat.le_trans hS.1 hz, fun q h1 h2 => (hk q (Nat.lt_of_lt_of_le h1 hS.1)).trans (hS.2.1 q h1 h2)⟩) (fun z hz => Or.inr (hS.2.2 z hz)) (show 0 + 1 ≤ 1 from by omega) (show 0 + 6 ≤ 6 from by omega)
      · refine lv_iload hx hb dX4_key_26 (lv_at hl 4 rfl) ?_
        refine lv_iconst (v := 5) hx hb dX4_key_28 (by decide) ?_
        refine lv_icmp_gt (tgt := 43) hx hb dX4_key_29 (by decide) (fun c_4 => ?_) (fun c_4 => ?_)
        · subst hQe
          subst hAe
          obtain ⟨sa, hstr⟩ := hN.2 _ (List.mem_of_getElem? (i := 2) rfl)
          have hE9 : (E_X4_key K x1 x2 x4 x5) = 1 := (by unfold E_X4_key; rw [if_neg c_2, if_neg c_3, if_pos c_4])
          exact vx_throwS (own := RX4) (cls := "java/lang/IllegalArgumentException") (text := "bounce is 0 to 5, stuck 0 to 2") (names := ["java/lang/RuntimeException", "java/lang/Exception"]) hx hb hst hown (by decide +kernel) (by decide +kernel) (hts _ q_863) (hts _ q_102) hstr (at_1_hat hts hN.1) at_1_ot hZ.2.2.1 hZ.2.2.2 (va_S_up hS hA) (hl.1.trans hml.symm) dX4_key_43 dX4_key_46 dX4_key_47 dX4_key_49 dX4_key_52 (fun x h => (hno x h).elim) (Nat.le_of_ble_eq_true rfl) (Nat.le_of_ble_eq_true rfl) (show 0 + 1 ≤ 1 from by omega) (show 0 + 6 ≤ 6 from by omega) hlocks (fun t hv hz hk => ⟨(), trivial, ⟨by rw [hE9]; decide, by rw [hE9]; rfl⟩, Nat.le_trans hS.1 hz, fun q h1 h2 => (hk q (Nat.lt_of_lt_of_le h1 hS.1)).trans (hS.2.1 q h1 h2)⟩) (fun z hz => Or.inr (hS.2.2 z hz)) (show 0 + 1 ≤ 1 from by omega) (show 0 + 6 ≤ 6 from by omega)
        · refine lv_iload hx hb dX4_key_32 (lv_at hl 5 rfl) ?_
          refine lv_if_lt (tgt := 43) hx hb dX4_key_34 (by decide) (fun c_5 => ?_) (fun c_5 => ?_)
          · subst hQe
            subst hAe
            obtain ⟨sa, hstr⟩ := hN.2 _ (List.mem_of_getElem? (i := 2) rfl)
            have hE9 : (E_X4_key K x1 x2 x4 x5) = 1 := (by unfold E_X4_key; rw [if_neg c_2, if_neg c_3, if_neg c_4, if_pos c_5])
            exact vx_throwS (own := RX4) (cls := "java/lang/IllegalArgumentException") (text := "bounce is 0 to 5, stuck 0 to 2") (names := ["java/lang/RuntimeException", "java/lang/Exception"]) hx hb hst hown (by decide +kernel) (by decide +kernel) (hts _ q_863) (hts _ q_102) hstr (at_1_hat hts hN.1) at_1_ot hZ.2.2.1 hZ.2.2.2 (va_S_up hS hA) (hl.1.trans hml.symm) dX4_key_43 dX4_key_46 dX4_key_47 dX4_key_49 dX4_key_52 (fun x h => (hno x h).elim) (Nat.le_of_ble_eq_true rfl) (Nat.le_of_ble_eq_true rfl) (show 0 + 1 ≤ 1 from by omega) (show 0 + 6 ≤ 6 from by omega) hlocks (fun t hv hz hk => ⟨(), trivial, ⟨by rw [hE9]; decide, by rw [hE9]; rfl⟩, Nat.le_trans hS.1 hz, fun q h1 h2 => (hk q (Nat.lt_of_lt_of_le h1 hS.1)).trans (hS.2.1 q h1 h2)⟩) (fun z hz => Or.inr (hS.2.2 z hz)) (show 0 + 1 ≤ 1 from by omega) (show 0 + 6 ≤ 6 from by omega)
          · refine lv_iload hx hb dX4_key_37 (lv_at hl 5 rfl) ?_
            refine lv_iconst (v := 2) hx hb dX4_key_39 (by decide) ?_
            refine lv_icmp_le (tgt := 53) hx hb dX4_key_40 (by decide) (fun c_6 => ?_) (fun c_6 => ?_)
            · refine lv_aload_n hx hb dX4_key_53 rfl (lv_at hl 0 rfl) ?_
              refine va_get (D := D) (ci := 11) (v := .ref hW) (C := RX4) (T := TX4) (N := 10) hx hb hts in_X4 hown hK hP 0 rfl rfl 0 (by decide) (hts _ q_655) (fun _ h9 => h9) rfl dX4_key_54 ?_
              refine lv_iload_n hx hb dX4_key_57 rfl (lv_at hl 1 rfl) ?_
              refine lv_iload_n hx hb dX4_key_58 rfl (lv_at hl 2 rfl) ?_
              refine lv_iload_n hx hb dX4_key_59 rfl (lv_at hl 3 rfl) ?_
              have hPc := hP.sub (ws' := [(hW, .inr (10, [.int (nI R), .int (nI C), .int (nI K), .int fi, .int di, .int br, .int li]))]) [1] rfl
              have hDc := hD.sub (ws' := [(hW, .inr (10, [.int (nI R), .int (nI C), .int (nI K), .int fi, .int di, .int br, .int li]))]) [1] (by decide) rfl
              have hS := va_S_up hS hA
              have hFc := va_free (wc := [(hW, .inr (10, [.int (nI R), .int (nI C), .int (nI K), .int fi, .int di, .int br, .int li]))]) hD hS hA [1] rfl
              refine va_callv (va_runVN (As := [.int x1, .int x2, .int x3]) (rest := []) ⟨hx, hb, hml, hown, hts⟩ (c_X3_fit l D hW R C K fi di br li x1 x2 x3 H.size (show R ≤ 5 from hR) (show C ≤ 5 from hC)) ⟨va_cnB 3 hts (gi_sub q_895) rfl rfl rfl (hN.1 _ n_892) (hts _ q_81) (by decide +kernel) ⟨Nat.le_of_ble_eq_true rfl, Nat.le_of_ble_eq_true rfl⟩, (hts _ q_894), (hts _ q_29)⟩ ⟨cPre_blind, va_recv hK hP (ci := 10) (q0 := 1) rfl rfl, cPre_mk hPc hK hDc hN (lwZ_for hZ hS hFc)⟩ rfl rfl hl.1 rfl (lv_room (Nat.le_of_ble_eq_true rfl)) dX4_key_60 ⟨(show 0 + 0 ≤ 1 from (by omega)), (show 0 + 0 ≤ 6 from (by omega))⟩) hS (fun q _ h => hFc q h) hFc (fun u t H1 locs ht hvm hw hBk hz1 hk1 hS => ?_)
              obtain ⟨hP1, hD1⟩ := hBk
              rw [ht] at hP1
              obtain ⟨hP, hD⟩ := va_join (wr := [(hX, .inr (11, [.ref hW, .ref hF, .ref hA_, .ref hT, .int (nI sc), .int pa, .int gu, .int cl, .int se, .int rf])), (hF, .inr (7, [.ref aB, .ref aS, .ref aN, .ref aM, .int he, .int lu])), (aB, .inl ((D.1 101), 25, .inl fB)), (aS, .inl ((D.1 101), 25, .inl fS)), (aN, .inl ((D.1 101), 25, .inl fN)), (aM, .inl ((D.1 101), 25, .inl fM))]) (w1 := [(hW, .inr (10, [.int (nI R), .int (nI C), .int (nI K), .int ((F_X3_fit R C fi di br x1 x2 x3).1), .int ((F_X3_fit R C fi di br x1 x2 x3).2.1), .int br, .int ((F_X3_fit R C fi di br x1 x2 x3).2.2)]))]) hP hD [1] [0, 2, 3, 4, 5, 6] rfl rfl (by decide) (by decide) hk1 hFc hP1 hD1
              clear hPc hDc hFc hP1 hD1 hk1 hz1
              clear hvm ht u; clear t
              generalize H1 = H at hP hS ⊢
              have hP : va_P D vwCl [(hX, .inr (11, [.ref hW, .ref hF, .ref hA_, .ref hT, .int (nI sc), .int pa, .int gu, .int cl, .int se, .int rf])), (hF, .inr (7, [.ref aB, .ref aS, .ref aN, .ref aM, .int he, .int lu])), (aB, .inl ((D.1 101), 25, .inl fB)), (aS, .inl ((D.1 101), 25, .inl fS)), (aN, .inl ((D.1 101), 25, .inl fN)), (aM, .inl ((D.1 101), 25, .inl fM)), (hW, .inr (10, [.int (nI R), .int (nI C), .int (nI K), .int ((F_X3_fit R C fi di br x1 x2 x3).1), .int ((F_X3_fit R C fi di br x1 x2 x3).2.1), .int br, .int ((F_X3_fit R C fi di br x1 x2 x3).2.2)]))] H := hP
              have hD : va_D A [(hX, .inr (11, [.ref hW, .ref hF, .ref hA_, .ref hT, .int (nI sc), .int pa, .int gu, .int cl, .int se, .int rf])), (hF, .inr (7, [.ref aB, .ref aS, .ref aN, .ref aM, .int he, .int lu])), (aB, .inl ((D.1 101), 25, .inl fB)), (aS, .inl ((D.1 101), 25, .inl fS)), (aN, .inl ((D.1 101), 25, .inl fN)), (aM, .inl ((D.1 101), 25, .inl fM)), (hW, .inr (10, [.int (nI R), .int (nI C), .int (nI K), .int ((F_X3_fit R C fi di br x1 x2 x3).1), .int ((F_X3_fit R C fi di br x1 x2 x3).2.1), .int br, .int ((F_X3_fit R C fi di br x1 x2 x3).2.2)]))] := hD
              refine lv_aload_n hx hb dX4_key_63 rfl (lv_at hl 0 rfl) ?_
              refine va_get (D := D) (ci := 11) (v := .ref hF) (C := RX4) (T := TX4) (N := 10) hx hb hts in_X4 hown hK hP 0 rfl rfl 1 (by decide) (hts _ q_656) (fun _ h9 => h9) rfl dX4_key_64 ?_
              refine va_getN (D := D) (ci := 7) (v := .ref aB) (C := RX0) (T := TX0) (N := 6) hx hb hts in_X0 hown hK hP 1 rfl rfl 0 (by decide) (va_Nw.use rfl (hN.1 _ n_163)) (fun _ h9 => h9) rfl dX4_key_67 ?_
              refine lv_iload_n hx hb dX4_key_70 rfl (lv_at hl 1 rfl) ?_
              refine lv_iload hx hb dX4_key_71 (lv_at hl 4 rfl) ?_
              refine va_iast hx hb hK hP hD hS 2 1 rfl rfl (hasKey_ok (by assumption) hKb).2.2 dX4_key_73 (fun H locs hP hD hS => ?_)
              have hP : va_P D vwCl [(hX, .inr (11, [.ref hW, .ref hF, .ref hA_, .ref hT, .int (nI sc), .int pa, .int gu, .int cl, .int se, .int rf])), (hF, .inr (7, [.ref aB, .ref aS, .ref aN, .ref aM, .int he, .int lu])), (aB, .inl ((D.1 101), 25, .inl (upd fB x1.toNatClampNeg x4))), (aS, .inl ((D.1 101), 25, .inl fS)), (aN, .inl ((D.1 101), 25, .inl fN)), (aM, .inl ((D.1 101), 25, .inl fM)), (hW, .inr (10, [.int (nI R), .int (nI C), .int (nI K), .int ((F_X3_fit R C fi di br x1 x2 x3).1), .int ((F_X3_fit R C fi di br x1 x2 x3).2.1), .int br, .int ((F_X3_fit R C fi di br x1 x2 x3).2.2)]))] H := hP
              have hD : va_D A [(hX, .inr (11, [.ref hW, .ref hF, .ref hA_, .ref hT, .int (nI sc), .int pa, .int gu, .int cl, .int se, .int rf])), (hF, .inr (7, [.ref aB, .ref aS, .ref aN, .ref aM, .int he, .int lu])), (aB, .inl ((D.1 101), 25, .inl (upd fB x1.toNatClampNeg x4))), (aS, .inl ((D.1 101), 25, .inl fS)), (aN, .inl ((D.1 101), 25, .inl fN)), (aM, .inl ((D.1 101), 25, .inl fM)), (hW, .inr (10, [.int (nI R), .int (nI C), .int (nI K), .int ((F_X3_fit R C fi di br x1 x2 x3).1), .int ((F_X3_fit R C fi di br x1 x2 x3).2.1), .int br, .int ((F_X3_fit R C fi di br x1 x2 x3).2.2)]))] := hD
              refine lv_aload_n hx hb dX4_key_74 rfl (lv_at hl 0 rfl) ?_
              refine va_get (D := D) (ci := 11) (v := .ref hF) (C := RX4) (T := TX4) (N := 10) hx hb hts in_X4 hown hK hP 0 rfl rfl 1 (by decide) (hts _ q_656) (fun _ h9 => h9) rfl dX4_key_75 ?_
              refine va_getN (D := D) (ci := 7) (v := .ref aS) (C := RX0) (T := TX0) (N := 6) hx hb hts in_X0 hown hK hP 1 rfl rfl 1 (by decide) (va_Nw.use rfl (hN.1 _ n_165)) (fun _ h9 => h9) rfl dX4_key_78 ?_
              refine lv_iload_n hx hb dX4_key_81 rfl (lv_at hl 1 rfl) ?_
              refine lv_iload hx hb dX4_key_82 (lv_at hl 5 rfl) ?_
              refine va_iast hx hb hK hP hD hS 3 1 rfl rfl (hasKey_ok (by assumption) hKb).2.2 dX4_key_84 (fun H locs hP hD hS => ?_)
              have hP : va_P D vwCl [(hX, .inr (11, [.ref hW, .ref hF, .ref hA_, .ref hT, .int (nI sc), .int pa, .int gu, .int cl, .int se, .int rf])), (hF, .inr (7, [.ref aB, .ref aS, .ref aN, .ref aM, .int he, .int lu])), (aB, .inl ((D.1 101), 25, .inl (upd fB x1.toNatClampNeg x4))), (aS, .inl ((D.1 101), 25, .inl (upd fS x1.toNatClampNeg x5))), (aN, .inl ((D.1 101), 25, .inl fN)), (aM, .inl ((D.1 101), 25, .inl fM)), (hW, .inr (10, [.int (nI R), .int (nI C), .int (nI K), .int ((F_X3_fit R C fi di br x1 x2 x3).1), .int ((F_X3_fit R C fi di br x1 x2 x3).2.1), .int br, .int ((F_X3_fit R C fi di br x1 x2 x3).2.2)]))] H := hP
              have hD : va_D A [(hX, .inr (11, [.ref hW, .ref hF, .ref hA_, .ref hT, .int (nI sc), .int pa, .int gu, .int cl, .int se, .int rf])), (hF, .inr (7, [.ref aB, .ref aS, .ref aN, .ref aM, .int he, .int lu])), (aB, .inl ((D.1 101), 25, .inl (upd fB x1.toNatClampNeg x4))), (aS, .inl ((D.1 101), 25, .inl (upd fS x1.toNatClampNeg x5))), (aN, .inl ((D.1 101), 25, .inl fN)), (aM, .inl ((D.1 101), 25, .inl fM)), (hW, .inr (10, [.int (nI R), .int (nI C), .int (nI K), .int ((F_X3_fit R C fi di br x1 x2 x3).1), .int ((F_X3_fit R C fi di br x1 x2 x3).2.1), .int br, .int ((F_X3_fit R C fi di br x1 x2 x3).2.2)]))] := hD
              refine lv_iload_n hx hb dX4_key_85 rfl (lv_at hl 2 rfl) ?_
              refine lv_if_ne (tgt := 102) hx hb dX4_key_86 (by decide) (fun c_7 => ?_) (fun c_7 => ?_)
              · refine lv_aload_n hx hb dX4_key_102 rfl (lv_at hl 0 rfl) ?_
                refine va_get (D := D) (ci := 11) (v := .ref hW) (C := RX4) (T := TX4) (N := 10) hx hb hts in_X4 hown hK hP 0 rfl rfl 0 (by decide) (hts _ q_655) (fun _ h9 => h9) rfl dX4_key_103 ?_
                refine va_getN (D := D) (ci := 10) (v := .int ((F_X3_fit R C fi di br x1 x2 x3).1)) (C := RX3) (T := TX3) (N := 7) hx hb hts in_X3 hown hK hP 6 rfl rfl 3 (by decide) (va_Nw.use rfl (hN.1 _ n_135)) (fun _ h9 => h9) rfl dX4_key_106 ?_
                have hPc := hP.sub (ws' := []) [] rfl
                have hDc := hD.sub (ws' := []) [] (by decide) rfl
                have hFc := va_free (wc := []) hD hS hA [] rfl
                refine va_calli (va_runS (As := [.int ((F_X3_fit R C fi di br x1 x2 x3).1)]) (rest := []) ⟨hx, hb, hml, hown, hts⟩ (c_J6_bitCount_0f7a4 l D ((F_X3_fit R C fi di br x1 x2 x3).1) H.size ) ⟨callB_of 1 hts (gi_sub q_728) rfl rfl rfl (hts _ q_101) (hts _ q_792) (by decide +kernel) ⟨Nat.le_of_ble_eq_true rfl, Nat.le_of_ble_eq_true rfl⟩, (hts _ q_727)⟩ ⟨cPre_blind, cPre_mk hPc hK hDc hN (lwZ_for hZ hS hFc)⟩ rfl rfl hl.1 rfl (lv_room (Nat.le_of_ble_eq_true rfl)) dX4_key_109 ⟨(show 0 + 0 ≤ 1 from (by omega)), (show 0 + 0 ≤ 6 from (by omega))⟩) hS (fun q h1 h2 => absurd h2 (Nat.not_le.mpr h1)) (fun q h => hA q (Nat.le_trans hS.1 h)) (fun r_109 u t H1 locs ht hvm hw hBk hz1 hk1 hS => ?_)
                have hP := va_P_ro hP hk1
                subst hw
                clear hBk hvm ht u hz1 hk1
                clear hPc hDc hFc; clear t
                generalize H1 = H at hP hS ⊢
                subst hQe
                refine vx_ret ?_
                subst hAe
                have hE : (F_X4_key sc R C K fi di br li he fB fS fN fM x1 x2 x3 x4 x5) = (F_J6_bitCount_0f7a4 ((F_X3_fit R C fi di br x1 x2 x3).1), (F_X3_fit R C fi di br x1 x2 x3).1, (F_X3_fit R C fi di br x1 x2 x3).2.1, (F_X3_fit R C fi di br x1 x2 x3).2.2, upd fB x1.toNatClampNeg x4, upd fS x1.toNatClampNeg x5, he, fN, fM) := (by unfold F_X4_key; rw [if_neg c_2, if_neg c_3, if_neg c_4, if_neg c_5, if_pos c_6, if_neg c_7])
                have hE9 : (E_X4_key K x1 x2 x4 x5) = 0 := (by unfold E_X4_key; rw [if_neg c_2, if_neg c_3, if_neg c_4, if_neg c_5, if_pos c_6, if_neg c_7])
                refine W.widen (k := 1) (n := 6) (by omega) (by omega) ?_
                have hP9 := hP.sub (ws' := [(hX, .inr (11, [.ref hW, .ref hF, .ref hA_, .ref hT, .int (nI sc), .int pa, .int gu, .int cl, .int se, .int rf])), (hW, .inr (10, [.int (nI R), .int (nI C), .int (nI K), .int ((F_X3_fit R C fi di br x1 x2 x3).1), .int ((F_X3_fit R C fi di br x1 x2 x3).2.1), .int br, .int ((F_X3_fit R C fi di br x1 x2 x3).2.2)])), (hF, .inr (7, [.ref aB, .ref aS, .ref aN, .ref aM, .int he, .int lu])), (aB, .inl ((D.1 101), 25, .inl (upd fB x1.toNatClampNeg x4))), (aS, .inl ((D.1 101), 25, .inl (upd fS x1.toNatClampNeg x5))), (aN, .inl ((D.1 101), 25, .inl fN)), (aM, .inl ((D.1 101), 25, .inl fM))]) [0, 6, 1, 2, 3, 4, 5] rfl
                have hD9 := hD.sub (ws' := [(hX, .inr (11, [.ref hW, .ref hF, .ref hA_, .ref hT, .int (nI sc), .int pa, .int gu, .int cl, .int se, .int rf])), (hW, .inr (10, [.int (nI R), .int (nI C), .int (nI K), .int ((F_X3_fit R C fi di br x1 x2 x3).1), .int ((F_X3_fit R C fi di br x1 x2 x3).2.1), .int br, .int ((F_X3_fit R C fi di br x1 x2 x3).2.2)])), (hF, .inr (7, [.ref aB, .ref aS, .ref aN, .ref aM, .int he, .int lu])), (aB, .inl ((D.1 101), 25, .inl (upd fB x1.toNatClampNeg x4))), (aS, .inl ((D.1 101), 25, .inl (upd fS x1.toNatClampNeg x5))), (aN, .inl ((D.1 101), 25, .inl fN)), (aM, .inl ((D.1 101), 25, .inl fM))]) [0, 6, 1, 2, 3, 4, 5] (by decide) rfl
                exact W.iret (v := F_J6_bitCount_0f7a4 ((F_X3_fit R C fi di br x1 x2 x3).1)) hx hb hr (fun t ht hW => ⟨⟨F_J6_bitCount_0f7a4 ((F_X3_fit R C fi di br x1 x2 x3).1), (), rfl, ⟨(by rw [hE]), hE9⟩, (by (try rw [hE]); rw [ht]; exact hP9), (by (try rw [hE]); exact hD9)⟩, hS.F ht⟩) hS.2.2 dX4_key_112
              · refine lv_aload_n hx hb dX4_key_89 rfl (lv_at hl 0 rfl) ?_
                refine va_get (D := D) (ci := 11) (v := .ref hF) (C := RX4) (T := TX4) (N := 10) hx hb hts in_X4 hown hK hP 0 rfl rfl 1 (by decide) (hts _ q_656) (fun _ h9 => h9) rfl dX4_key_90 ?_
                refine lv_iload_n hx hb dX4_key_93 rfl (lv_at hl 1 rfl) ?_
                refine lv_iconst (v := 0) hx hb dX4_key_94 (by decide) ?_
                refine lv_aload_n hx hb dX4_key_95 rfl (lv_at hl 0 rfl) ?_
                refine va_get (D := D) (ci := 11) (v := .int (nI sc)) (C := RX4) (T := TX4) (N := 10) hx hb hts in_X4 hown hK hP 0 rfl rfl 4 (by decide) (hts _ q_659) (fun _ h9 => h9) rfl dX4_key_96 ?_
                have hPc := hP.sub (ws' := [(hF, .inr (7, [.ref aB, .ref aS, .ref aN, .ref aM, .int he, .int lu])), (aB, .inl ((D.1 101), 25, .inl (upd fB x1.toNatClampNeg x4))), (aS, .inl ((D.1 101), 25, .inl (upd fS x1.toNatClampNeg x5))), (aN, .inl ((D.1 101), 25, .inl fN)), (aM, .inl ((D.1 101), 25, .inl fM))]) [1, 2, 3, 4, 5] rfl
                have hDc := hD.sub (ws' := [(hF, .inr (7, [.ref aB, .ref aS, .ref aN, .ref aM, .int he, .int lu])), (aB, .inl ((D.1 101), 25, .inl (upd fB x1.toNatClampNeg x4))), (aS, .inl ((D.1 101), 25, .inl (upd fS x1.toNatClampNeg x5))), (aN, .inl ((D.1 101), 25, .inl fN)), (aM, .inl ((D.1 101), 25, .inl fM))]) [1, 2, 3, 4, 5] (by decide) rfl
                have hFc := va_free (wc := [(hF, .inr (7, [.ref aB, .ref aS, .ref aN, .ref aM, .int he, .int lu])), (aB, .inl ((D.1 101), 25, .inl (upd fB x1.toNatClampNeg x4))), (aS, .inl ((D.1 101), 25, .inl (upd fS x1.toNatClampNeg x5))), (aN, .inl ((D.1 101), 25, .inl fN)), (aM, .inl ((D.1 101), 25, .inl fM))]) hD hS hA [1, 2, 3, 4, 5] rfl
                refine va_callv (va_runVN (As := [.int x1, .int 0, .int (nI sc)]) (rest := []) ⟨hx, hb, hml, hown, hts⟩ (c_X0_move l D hF aB aS aN aM (upd fB x1.toNatClampNeg x4) (upd fS x1.toNatClampNeg x5) fN fM he lu x1.toNatClampNeg 0 (nI sc) x1 H.size (show x1.toNatClampNeg < 25 from (Nat.lt_of_lt_of_le (hasKey_ok (by assumption) hKb).2.1 hKb)) (show x1 = nI x1.toNatClampNeg from (hasKey_ok (by assumption) hKb).1)) ⟨va_cnB 3 hts (gi_sub q_903) rfl rfl rfl (hN.1 _ n_900) (hts _ q_82) (by decide +kernel) ⟨Nat.le_of_ble_eq_true rfl, Nat.le_of_ble_eq_true rfl⟩, (hts _ q_902), (hts _ q_31)⟩ ⟨cPre_blind, va_recv hK hP (ci := 7) (q0 := 1) rfl rfl, cPre_mk hPc hK hDc hN (lwZ_for hZ hS hFc)⟩ rfl rfl hl.1 rfl (lv_room (Nat.le_of_ble_eq_true rfl)) dX4_key_99 ⟨(show 0 + 0 ≤ 1 from (by omega)), (show 0 + 0 ≤ 6 from (by omega))⟩) hS (fun q _ h => hFc q h) hFc (fun u t H1 locs ht hvm hw hBk hz1 hk1 hS => ?_)
                obtain ⟨hP1, hD1⟩ := hBk
                rw [ht] at hP1
                obtain ⟨hP, hD⟩ := va_join (wr := [(hX, .inr (11, [.ref hW, .ref hF, .ref hA_, .ref hT, .int (nI sc), .int pa, .int gu, .int cl, .int se, .int rf])), (hW, .inr (10, [.int (nI R), .int (nI C), .int (nI K), .int ((F_X3_fit R C fi di br x1 x2 x3).1), .int ((F_X3_fit R C fi di br x1 x2 x3).2.1), .int br, .int ((F_X3_fit R C fi di br x1 x2 x3).2.2)]))]) (w1 := [(hF, .inr (7, [.ref aB, .ref aS, .ref aN, .ref aM, .int ((F_X0_move (upd fB x1.toNatClampNeg x4) fN fM he x1.toNatClampNeg 0 (nI sc)).1), .int lu])), (aB, .inl ((D.1 101), 25, .inl (upd fB x1.toNatClampNeg x4))), (aS, .inl ((D.1 101), 25, .inl (upd fS x1.toNatClampNeg x5))), (aN, .inl ((D.1 101), 25, .inl ((F_X0_move (upd fB x1.toNatClampNeg x4) fN fM he x1.toNatClampNeg 0 (nI sc)).2.1))), (aM, .inl ((D.1 101), 25, .inl ((F_X0_move (upd fB x1.toNatClampNeg x4) fN fM he x1.toNatClampNeg 0 (nI sc)).2.2)))]) hP hD [1, 2, 3, 4, 5] [0, 6] rfl rfl (by decide) (by decide) hk1 hFc hP1 hD1
                clear hPc hDc hFc hP1 hD1 hk1 hz1
                clear hvm ht u; clear t
                generalize H1 = H at hP hS ⊢
                have hP : va_P D vwCl [(hX, .inr (11, [.ref hW, .ref hF, .ref hA_, .ref hT, .int (nI sc), .int pa, .int gu, .int cl, .int se, .int rf])), (hW, .inr (10, [.int (nI R), .int (nI C), .int (nI K), .int ((F_X3_fit R C fi di br x1 x2 x3).1), .int ((F_X3_fit R C fi di br x1 x2 x3).2.1), .int br, .int ((F_X3_fit R C fi di br x1 x2 x3).2.2)])), (hF, .inr (7, [.ref aB, .ref aS, .ref aN, .ref aM, .int ((F_X0_move (upd fB x1.toNatClampNeg x4) fN fM he x1.toNatClampNeg 0 (nI sc)).1), .int lu])), (aB, .inl ((D.1 101), 25, .inl (upd fB x1.toNatClampNeg x4))), (aS, .inl ((D.1 101), 25, .inl (upd fS x1.toNatClampNeg x5))), (aN, .inl ((D.1 101), 25, .inl ((F_X0_move (upd fB x1.toNatClampNeg x4) fN fM he x1.toNatClampNeg 0 (nI sc)).2.1))), (aM, .inl ((D.1 101), 25, .inl ((F_X0_move (upd fB x1.toNatClampNeg x4) fN fM he x1.toNatClampNeg 0 (nI sc)).2.2)))] H := hP
                have hD : va_D A [(hX, .inr (11, [.ref hW, .ref hF, .ref hA_, .ref hT, .int (nI sc), .int pa, .int gu, .int cl, .int se, .int rf])), (hW, .inr (10, [.int (nI R), .int (nI C), .int (nI K), .int ((F_X3_fit R C fi di br x1 x2 x3).1), .int ((F_X3_fit R C fi di br x1 x2 x3).2.1), .int br, .int ((F_X3_fit R C fi di br x1 x2 x3).2.2)])), (hF, .inr (7, [.ref aB, .ref aS, .ref aN, .ref aM, .int ((F_X0_move (upd fB x1.toNatClampNeg x4) fN fM he x1.toNatClampNeg 0 (nI sc)).1), .int lu])), (aB, .inl ((D.1 101), 25, .inl (upd fB x1.toNatClampNeg x4))), (aS, .inl ((D.1 101), 25, .inl (upd fS x1.toNatClampNeg x5))), (aN, .inl ((D.1 101), 25, .inl ((F_X0_move (upd fB x1.toNatClampNeg x4) fN fM he x1.toNatClampNeg 0 (nI sc)).2.1))), (aM, .inl ((D.1 101), 25, .inl ((F_X0_move (upd fB x1.toNatClampNeg x4) fN fM he x1.toNatClampNeg 0 (nI sc)).2.2)))] := hD
                refine lv_aload_n hx hb dX4_key_102 rfl (lv_at hl 0 rfl) ?_
                refine va_get (D := D) (ci := 11) (v := .ref hW) (C := RX4) (T := TX4) (N := 10) hx hb hts in_X4 hown hK hP 0 rfl rfl 0 (by decide) (hts _ q_655) (fun _ h9 => h9) rfl dX4_key_103 ?_
                refine va_getN (D := D) (ci := 10) (v := .int ((F_X3_fit R C fi di br x1 x2 x3).1)) (C := RX3) (T := TX3) (N := 7) hx hb hts in_X3 hown hK hP 1 rfl rfl 3 (by decide) (va_Nw.use rfl (hN.1 _ n_135)) (fun _ h9 => h9) rfl dX4_key_106 ?_
                have hPc := hP.sub (ws' := []) [] rfl
                have hDc := hD.sub (ws' := []) [] (by decide) rfl
                have hFc := va_free (wc := []) hD hS hA [] rfl
                refine va_calli (va_runS (As := [.int ((F_X3_fit R C fi di br x1 x2 x3).1)]) (rest := []) ⟨hx, hb, hml, hown, hts⟩ (c_J6_bitCount_0f7a4 l D ((F_X3_fit R C fi di br x1 x2 x3).1) H.size ) ⟨callB_of 1 hts (gi_sub q_728) rfl rfl rfl (hts _ q_101) (hts _ q_792) (by decide +kernel) ⟨Nat.le_of_ble_eq_true rfl, Nat.le_of_ble_eq_true rfl⟩, (hts _ q_727)⟩ ⟨cPre_blind, cPre_mk hPc hK hDc hN (lwZ_for hZ hS hFc)⟩ rfl rfl hl.1 rfl (lv_room (Nat.le_of_ble_eq_true rfl)) dX4_key_109 ⟨(show 0 + 0 ≤ 1 from (by omega)), (show 0 + 0 ≤ 6 from (by omega))⟩) hS (fun q h1 h2 => absurd h2 (Nat.not_le.mpr h1)) (fun q h => hA q (Nat.le_trans hS.1 h)) (fun r_109 u t H1 locs ht hvm hw hBk hz1 hk1 hS => ?_)
                have hP := va_P_ro hP hk1
                subst hw
                clear hBk hvm ht u hz1 hk1
                clear hPc hDc hFc; clear t
                generalize H1 = H at hP hS ⊢
                subst hQe
                refine vx_ret ?_
                subst hAe
                have hE : (F_X4_key sc R C K fi di br li he fB fS fN fM x1 x2 x3 x4 x5) = (F_J6_bitCount_0f7a4 ((F_X3_fit R C fi di br x1 x2 x3).1), (F_X3_fit R C fi di br x1 x2 x3).1, (F_X3_fit R C fi di br x1 x2 x3).2.1, (F_X3_fit R C fi di br x1 x2 x3).2.2, upd fB x1.toNatClampNeg x4, upd fS x1.toNatClampNeg x5, (F_X0_move (upd fB x1.toNatClampNeg x4) fN fM he x1.toNatClampNeg 0 (nI sc)).1, (F_X0_move (upd fB x1.toNatClampNeg x4) fN fM he x1.toNatClampNeg 0 (nI sc)).2.1, (F_X0_move (upd fB x1.toNatClampNeg x4) fN fM he x1.toNatClampNeg 0 (nI sc)).2.2) := (by unfold F_X4_key; rw [if_neg c_2, if_neg c_3, if_neg c_4, if_neg c_5, if_pos c_6, if_pos c_7])
                have hE9 : (E_X4_key K x1 x2 x4 x5) = 0 := (by unfold E_X4_key; rw [if_neg c_2, if_neg c_3, if_neg c_4, if_neg c_5, if_pos c_6, if_pos c_7])
                refine W.widen (k := 1) (n := 6) (by omega) (by omega) ?_
                have hP9 := hP.sub (ws' := [(hX, .inr (11, [.ref hW, .ref hF, .ref hA_, .ref hT, .int (nI sc), .int pa, .int gu, .int cl, .int se, .int rf])), (hW, .inr (10, [.int (nI R), .int (nI C), .int (nI K), .int ((F_X3_fit R C fi di br x1 x2 x3).1), .int ((F_X3_fit R C fi di br x1 x2 x3).2.1), .int br, .int ((F_X3_fit R C fi di br x1 x2 x3).2.2)])), (hF, .inr (7, [.ref aB, .ref aS, .ref aN, .ref aM, .int ((F_X0_move (upd fB x1.toNatClampNeg x4) fN fM he x1.toNatClampNeg 0 (nI sc)).1), .int lu])), (aB, .inl ((D.1 101), 25, .inl (upd fB x1.toNatClampNeg x4))), (aS, .inl ((D.1 101), 25, .inl (upd fS x1.toNatClampNeg x5))), (aN, .inl ((D.1 101), 25, .inl ((F_X0_move (upd fB x1.toNatClampNeg x4) fN fM he x1.toNatClampNeg 0 (nI sc)).2.1))), (aM, .inl ((D.1 101), 25, .inl ((F_X0_move (upd fB x1.toNatClampNeg x4) fN fM he x1.toNatClampNeg 0 (nI sc)).2.2)))]) [0, 1, 2, 3, 4, 5, 6] rfl
                have hD9 := hD.sub (ws' := [(hX, .inr (11, [.ref hW, .ref hF, .ref hA_, .ref hT, .int (nI sc), .int pa, .int gu, .int cl, .int se, .int rf])), (hW, .inr (10, [.int (nI R), .int (nI C), .int (nI K), .int ((F_X3_fit R C fi di br x1 x2 x3).1), .int ((F_X3_fit R C fi di br x1 x2 x3).2.1), .int br, .int ((F_X3_fit R C fi di br x1 x2 x3).2.2)])), (hF, .inr (7, [.ref aB, .ref aS, .ref aN, .ref aM, .int ((F_X0_move (upd fB x1.toNatClampNeg x4) fN fM he x1.toNatClampNeg 0 (nI sc)).1), .int lu])), (aB, .inl ((D.1 101), 25, .inl (upd fB x1.toNatClampNeg x4))), (aS, .inl ((D.1 101), 25, .inl (upd fS x1.toNatClampNeg x5))), (aN, .inl ((D.1 101), 25, .inl ((F_X0_move (upd fB x1.toNatClampNeg x4) fN fM he x1.toNatClampNeg 0 (nI sc)).2.1))), (aM, .inl ((D.1 101), 25, .inl ((F_X0_move (upd fB x1.toNatClampNeg x4) fN fM he x1.toNatClampNeg 0 (nI sc)).2.2)))]) [0, 1, 2, 3, 4, 5, 6] (by decide) rfl
                exact W.iret (v := F_J6_bitCount_0f7a4 ((F_X3_fit R C fi di br x1 x2 x3).1)) hx hb hr (fun t ht hW => ⟨⟨F_J6_bitCount_0f7a4 ((F_X3_fit R C fi di br x1 x2 x3).1), (), rfl, ⟨(by rw [hE]), hE9⟩, (by (try rw [hE]); rw [ht]; exact hP9), (by (try rw [hE]); exact hD9)⟩, hS.F ht⟩) hS.2.2 dX4_key_112
            · subst hQe
              subst hAe
              obtain ⟨sa, hstr⟩ := hN.2 _ (List.mem_of_getElem? (i := 2) rfl)
              have hE9 : (E_X4_key K x1 x2 x4 x5) = 1 := (by unfold E_X4_key; rw [if_neg c_2, if_neg c_3, if_neg c_4, if_neg c_5, if_neg c_6])
              exact vx_throwS (own := RX4) (cls := "java/lang/IllegalArgumentException") (text := "bounce is 0 to 5, stuck 0 to 2") (names := ["java/lang/RuntimeException", "java/lang/Exception"]) hx hb hst hown (by decide +kernel) (by decide +kernel) (hts _ q_863) (hts _ q_102) hstr (at_1_hat hts hN.1) at_1_ot hZ.2.2.1 hZ.2.2.2 (va_S_up hS hA) (hl.1.trans hml.symm) dX4_key_43 dX4_key_46 dX4_key_47 dX4_key_49 dX4_key_52 (fun x h => (hno x h).elim) (Nat.le_of_ble_eq_true rfl) (Nat.le_of_ble_eq_true rfl) (show 0 + 1 ≤ 1 from by omega) (show 0 + 6 ≤ 6 from by omega) hlocks (fun t hv hz hk => ⟨(), trivial, ⟨by rw [hE9]; decide, by rw [hE9]; rfl⟩, Nat.le_trans hS.1 hz, fun q h1 h2 => (hk q (Nat.lt_of_lt_of_le h1 hS.1)).trans (hS.2.1 q h1 h2)⟩) (fun z hz => Or.inr (hS.2.2 z hz)) (show 0 + 1 ≤ 1 from by omega) (show 0 + 6 ≤ 6 from by omega)
    · subst hQe
      subst hAe
      obtain ⟨sa, hstr⟩ := hN.2 _ (List.mem_of_getElem? (i := 1) rfl)
      have hE9 : (E_X4_key K x1 x2 x4 x5) = 2 := (by unfold E_X4_key; rw [if_pos c_2])
      exact vx_throwS (own := RX4) (cls := "java/lang/IndexOutOfBoundsException") (text := "no such key") (names := ["java/lang/RuntimeException", "java/lang/Exception"]) hx hb hst hown (by decide +kernel) (by decide +kernel) (hts _ q_878) (hts _ q_92) hstr (at_2_hat hts hN.1) at_2_ot hZ.2.2.1 hZ.2.2.2 (va_S_up hS hA) (hl.1.trans hml.symm) dX4_key_11 dX4_key_14 dX4_key_15 dX4_key_17 dX4_key_20 (fun x h => (hno x h).elim) (Nat.le_of_ble_eq_true rfl) (Nat.le_of_ble_eq_true rfl) (show 0 + 1 ≤ 1 from by omega) (show 0 + 6 ≤ 6 from by omega) hlocks (fun t hv hz hk => ⟨(), trivial, ⟨by rw [hE9]; decide, by rw [hE9]; rfl⟩, Nat.le_trans hS.1 hz, fun q h1 h2 => (hk q (Nat.lt_of_lt_of_le h1 hS.1)).trans (hS.2.1 q h1 h2)⟩) (fun z hz => Or.inr (hS.2.2 z hz)) (show 0 + 1 ≤ 1 from by omega) (show 0 + 6 ≤ 6 from by omega)
  rw [hHe, hLe] at hgoal
  exact hgoal

def E_X4_code (K : Nat) (x1 : Int32) (x2 : Int32) (x3 : Int32) : Nat := (if (F_X3_hasKey K x2) = 0 then 2 else (if x1 < 0 then 1 else (if 3 ≤ x1 then 1 else (if x3 < 0 then 1 else (if x3 ≤ 31 then 0 else 1)))))
def F_X4_code (K : Nat) (fC : Nat → Int32) (x1 : Int32) (x2 : Int32) (x3 : Int32) : Int32 × (Nat → Int32) := (if (F_X3_hasKey K x2) = 0 then (0, fC) else (if x1 < 0 then (0, fC) else (if 3 ≤ x1 then (0, fC) else (if x3 < 0 then (0, fC) else (if x3 ≤ 31 then (fC ((x1 * 25) + x2).toNatClampNeg, upd fC ((x1 * 25) + x2).toNatClampNeg x3) else (0, fC))))))
set_option maxHeartbeats 4000000 in
set_option maxRecDepth 100000 in
theorem c_X4_code (l : Launch) (D : va_G) (hX : Nat) (hW : Nat) (hF : Nat) (hA_ : Nat) (hT : Nat) (sc : Nat) (pa : Int32) (gu : Int32) (cl : Int32) (se : Int32) (rf : Int32) (R : Nat) (C : Nat) (K : Nat) (fi : Int32) (di : Int32) (br : Int32) (li : Int32) (aC : Nat) (aG : Nat) (aI : Nat) (hB : Nat) (aK : Nat) (aL : Nat) (aQ : Nat) (lo : Int32) (Ch : Nat) (ct : Int32) (fC : Nat → Int32) (x1 : Int32) (x2 : Int32) (x3 : Int32) (sz : Nat) (hst : l.stackTraces = false) (hKb : K ≤ 25) : vx_Met l yX4_code (Cond.code yX4_code cX4_code 6 (some .int) :: lwAll) ({ frames := 6, cells := 1, slots := 6, locals := 90 } : Room) (va_Pc [.ref hX, .int x1, .int x2, .int x3] (cPre D (lwTY D) [(hX, .inr (11, [.ref hW, .ref hF, .ref hA_, .ref hT, .int (nI sc), .int pa, .int gu, .int cl, .int se, .int rf])), (hW, .inr (10, [.int (nI R), .int (nI C), .int (nI K), .int fi, .int di, .int br, .int li])), (hT, .inr (8, [.ref aC, .ref aG, .ref aI, .ref hB, .int lo, .ref aK, .ref aL, .ref aQ, .int (nI Ch), .int ct])), (aC, .inl ((D.1 101), 75, .inl fC))] sz)) (va_Qi (fun (r : Int32) (_ : Unit) => r = (F_X4_code K fC x1 x2 x3).1 ∧ (E_X4_code K x1 x2 x3) = 0) (fun (_ : Unit) t => va_P D vwCl [(hX, .inr (11, [.ref hW, .ref hF, .ref hA_, .ref hT, .int (nI sc), .int pa, .int gu, .int cl, .int se, .int rf])), (hW, .inr (10, [.int (nI R), .int (nI C), .int (nI K), .int fi, .int di, .int br, .int li])), (hT, .inr (8, [.ref aC, .ref aG, .ref aI, .ref hB, .int lo, .ref aK, .ref aL, .ref aQ, .int (nI Ch), .int ct])), (aC, .inl ((D.1 101), 75, .inl ((F_X4_code K fC x1 x2 x3).2)))] t.heap ∧ va_D (va_A [(hX, .inr (11, [.ref hW, .ref hF, .ref hA_, .ref hT, .int (nI sc), .int pa, .int gu, .int cl, .int se, .int rf])), (hW, .inr (10, [.int (nI R), .int (nI C), .int (nI K), .int fi, .int di, .int br, .int li])), (hT, .inr (8, [.ref aC, .ref aG, .ref aI, .ref hB, .int lo, .ref aK, .ref aL, .ref aQ, .int (nI Ch), .int ct])), (aC, .inl ((D.1 101), 75, .inl fC))] sz) [(hX, .inr (11, [.ref hW, .ref hF, .ref hA_, .ref hT, .int (nI sc), .int pa, .int gu, .int cl, .int se, .int rf])), (hW, .inr (10, [.int (nI R), .int (nI C), .int (nI K), .int fi, .int di, .int br, .int li])), (hT, .inr (8, [.ref aC, .ref aG, .ref aI, .ref hB, .int lo, .ref aK, .ref aL, .ref aQ, .int (nI Ch), .int ct])), (aC, .inl ((D.1 101), 75, .inl ((F_X4_code K fC x1 x2 x3).2)))]) (va_A [(hX, .inr (11, [.ref hW, .ref hF, .ref hA_, .ref hT, .int (nI sc), .int pa, .int gu, .int cl, .int se, .int rf])), (hW, .inr (10, [.int (nI R), .int (nI C), .int (nI K), .int fi, .int di, .int br, .int li])), (hT, .inr (8, [.ref aC, .ref aG, .ref aI, .ref hB, .int lo, .ref aK, .ref aL, .ref aQ, .int (nI Ch), .int ct])), (aC, .inl ((D.1 101), 75, .inl fC))] sz)) (vx_X (fun _ : Unit => True) (fun (E : String) (_ : Unit) (_ : State) => (E_X4_code K x1 x2 x3) ≠ 0 ∧ E = xname (E_X4_code K x1 x2 x3)) (fun q : Nat => sz ≤ q)) 1 6 (va_A [(hX, .inr (11, [.ref hW, .ref hF, .ref hA_, .ref hT, .int (nI sc), .int pa, .int gu, .int cl, .int se, .int rf])), (hW, .inr (10, [.int (nI R), .int (nI C), .int (nI K), .int fi, .int di, .int br, .int li])), (hT, .inr (8, [.ref aC, .ref aG, .ref aI, .ref hB, .int lo, .ref aK, .ref aL, .ref aQ, .int (nI Ch), .int ct])), (aC, .inl ((D.1 101), 75, .inl fC))] sz) := by
  refine vx_ofW (cc := cX4_code) (maxL := 6) (ret := (some .int)) (by decide) rfl ?_
  intro p e s m args below meth c s₁ B hml hno hv
  obtain ⟨rfl, hsz, hP, hK, hD0, hN, hZ⟩ := hv
  have hx := B.exec
  have hb := B.bytes
  have hr := B.returns
  have hts : ∀ wd ∈ lwAll, wd.before ([.ref hX, .int x1, .int x2, .int x3] : List Value).toArray s = true := fun wd h => atoms_spec (ws := (Cond.code yX4_code cX4_code 6 (some .int) :: lwAll)) B.pre wd (List.mem_cons_of_mem _ h)
  have hown : s.vm.findClass RX4 = some m.cls := findClass_of_methodNamed B.named
  have hlocks := B.notSynchronized
  subst hsz
  have hD := hD0.self (sz := s.heap.size)
  have hl := lv_entry ([.ref hX, .int x1, .int x2, .int x3]) (n := 6) (Nat.le_of_ble_eq_true rfl)
  rw [lg_entry_eq]
  generalize (lg_sl ([.ref hX, .int x1, .int x2, .int x3]) ++ List.replicate (6 - (lg_sl ([.ref hX, .int x1, .int x2, .int x3])).length) Slot.unset).toArray = ls at hl ⊢
  have hl : lv_has ls 6 [(0, .ref hX), (1, .int x1), (2, .int x2), (3, .int x3)] := hl
  have hS : va_S (fun q : Nat => s.heap.size ≤ q) s.heap s.heap [] := va_S.rf
  generalize hQe : vx_MQ below (va_Qi (fun (r : Int32) (_ : Unit) => r = (F_X4_code K fC x1 x2 x3).1 ∧ (E_X4_code K x1 x2 x3) = 0) (fun (_ : Unit) t => va_P D vwCl [(hX, .inr (11, [.ref hW, .ref hF, .ref hA_, .ref hT, .int (nI sc), .int pa, .int gu, .int cl, .int se, .int rf])), (hW, .inr (10, [.int (nI R), .int (nI C), .int (nI K), .int fi, .int di, .int br, .int li])), (hT, .inr (8, [.ref aC, .ref aG, .ref aI, .ref hB, .int lo, .ref aK, .ref aL, .ref aQ, .int (nI Ch), .int ct])), (aC, .inl ((D.1 101), 75, .inl ((F_X4_code K fC x1 x2 x3).2)))] t.heap ∧ va_D (va_A [(hX, .inr (11, [.ref hW, .ref hF, .ref hA_, .ref hT, .int (nI sc), .int pa, .int gu, .int cl, .int se, .int rf])), (hW, .inr (10, [.int (nI R), .int (nI C), .int (nI K), .int fi, .int di, .int br, .int li])), (hT, .inr (8, [.ref aC, .ref aG, .ref aI, .ref hB, .int lo, .ref aK, .ref aL, .ref aQ, .int (nI Ch), .int ct])), (aC, .inl ((D.1 101), 75, .inl fC))] s.heap.size) [(hX, .inr (11, [.ref hW, .ref hF, .ref hA_, .ref hT, .int (nI sc), .int pa, .int gu, .int cl, .int se, .int rf])), (hW, .inr (10, [.int (nI R), .int (nI C), .int (nI K), .int fi, .int di, .int br, .int li])), (hT, .inr (8, [.ref aC, .ref aG, .ref aI, .ref hB, .int lo, .ref aK, .ref aL, .ref aQ, .int (nI Ch), .int ct])), (aC, .inl ((D.1 101), 75, .inl ((F_X4_code K fC x1 x2 x3).2)))]) (va_A [(hX, .inr (11, [.ref hW, .ref hF, .ref hA_, .ref hT, .int (nI sc), .int pa, .int gu, .int cl, .int se, .int rf])), (hW, .inr (10, [.int (nI R), .int (nI C), .int (nI K), .int fi, .int di, .int br, .int li])), (hT, .inr (8, [.ref aC, .ref aG, .ref aI, .ref hB, .int lo, .ref aK, .ref aL, .ref aQ, .int (nI Ch), .int ct])), (aC, .inl ((D.1 101), 75, .inl fC))] s.heap.size)) (vx_X (fun _ : Unit => True) (fun (E : String) (_ : Unit) (_ : State) => (E_X4_code K x1 x2 x3) ≠ 0 ∧ E = xname (E_X4_code K x1 x2 x3)) (fun q : Nat => s.heap.size ≤ q)) ([.ref hX, .int x1, .int x2, .int x3] : List Value).toArray s 1 6 (va_A [(hX, .inr (11, [.ref hW, .ref hF, .ref hA_, .ref hT, .int (nI sc), .int pa, .int gu, .int cl, .int se, .int rf])), (hW, .inr (10, [.int (nI R), .int (nI C), .int (nI K), .int fi, .int di, .int br, .int li])), (hT, .inr (8, [.ref aC, .ref aG, .ref aI, .ref hB, .int lo, .ref aK, .ref aL, .ref aQ, .int (nI Ch), .int ct])), (aC, .inl ((D.1 101), 75, .inl fC))] s.heap.size) = Q
  have hP : va_P D vwCl [(hX, .inr (11, [.ref hW, .ref hF, .ref hA_, .ref hT, .int (nI sc), .int pa, .int gu, .int cl, .int se, .int rf])), (hW, .inr (10, [.int (nI R), .int (nI C), .int (nI K), .int fi, .int di, .int br, .int li])), (hT, .inr (8, [.ref aC, .ref aG, .ref aI, .ref hB, .int lo, .ref aK, .ref aL, .ref aQ, .int (nI Ch), .int ct])), (aC, .inl ((D.1 101), 75, .inl fC))] s.heap := hP
  obtain ⟨A, hAe⟩ : ∃ A, A = va_A [(hX, .inr (11, [.ref hW, .ref hF, .ref hA_, .ref hT, .int (nI sc), .int pa, .int gu, .int cl, .int se, .int rf])), (hW, .inr (10, [.int (nI R), .int (nI C), .int (nI K), .int fi, .int di, .int br, .int li])), (hT, .inr (8, [.ref aC, .ref aG, .ref aI, .ref hB, .int lo, .ref aK, .ref aL, .ref aQ, .int (nI Ch), .int ct])), (aC, .inl ((D.1 101), 75, .inl fC))] s.heap.size := ⟨_, rfl⟩
  rw [← hAe] at hD hZ
  have hA : ∀ q : Nat, s.heap.size ≤ q → A q := fun q h => by rw [hAe]; exact Or.inr h
  obtain ⟨H, hHe⟩ : ∃ H, H = s.heap := ⟨_, rfl⟩
  obtain ⟨locs, hLe⟩ : ∃ L : List Loc, L = [] := ⟨_, rfl⟩
  have hP : va_P D vwCl [(hX, .inr (11, [.ref hW, .ref hF, .ref hA_, .ref hT, .int (nI sc), .int pa, .int gu, .int cl, .int se, .int rf])), (hW, .inr (10, [.int (nI R), .int (nI C), .int (nI K), .int fi, .int di, .int br, .int li])), (hT, .inr (8, [.ref aC, .ref aG, .ref aI, .ref hB, .int lo, .ref aK, .ref aL, .ref aQ, .int (nI Ch), .int ct])), (aC, .inl ((D.1 101), 75, .inl fC))] H := by rw [hHe]; exact hP
  have hS : va_S (fun q : Nat => s.heap.size ≤ q) s.heap H locs := by rw [hHe, hLe]; exact hS
  have hgoal : W p l e ({ frames := 6, cells := 1, slots := 6, locals := 90 } : Room) s m ([.ref hX, .int x1, .int x2, .int x3] : List Value).toArray below meth c H locs 0 0 Q (F0 m 0 ls []) := by
    clear hHe hLe
    refine lv_aload_n hx hb dX4_code_0 rfl (lv_at hl 0 rfl) ?_
    refine va_get (D := D) (ci := 11) (v := .ref hW) (C := RX4) (T := TX4) (N := 10) hx hb hts in_X4 hown hK hP 0 rfl rfl 0 (by decide) (hts _ q_655) (fun _ h9 => h9) rfl dX4_code_1 ?_
    refine lv_iload_n hx hb dX4_code_4 rfl (lv_at hl 2 rfl) ?_
    have hPc := hP.sub (ws' := [(hW, .inr (10, [.int (nI R), .int (nI C), .int (nI K), .int fi, .int di, .int br, .int li]))]) [1] rfl
    have hDc := hD.sub (ws' := [(hW, .inr (10, [.int (nI R), .int (nI C), .int (nI K), .int fi, .int di, .int br, .int li]))]) [1] (by decide) rfl
    have hFc := va_free (wc := [(hW, .inr (10, [.int (nI R), .int (nI C), .int (nI K), .int fi, .int di, .int br, .int li]))]) hD (va_S_up hS hA) hA [1] rfl
    refine va_calli (va_runVN (As := [.int x2]) (rest := []) ⟨hx, hb, hml, hown, hts⟩ (c_X3_hasKey l D hW R C K fi di br li x2 H.size ) ⟨va_cnB 1 hts (gi_sub q_877) rfl rfl rfl (hN.1 _ n_874) (hts _ q_81) (by decide +kernel) ⟨Nat.le_of_ble_eq_true rfl, Nat.le_of_ble_eq_true rfl⟩, (hts _ q_876), (hts _ q_28)⟩ ⟨cPre_blind, va_recv hK hP (ci := 10) (q0 := 1) rfl rfl, cPre_mk hPc hK hDc hN (lwZ_for hZ (va_S_up hS hA) hFc)⟩ rfl rfl hl.1 rfl (lv_room (Nat.le_of_ble_eq_true rfl)) dX4_code_5 ⟨(show 0 + 0 ≤ 1 from (by omega)), (show 0 + 0 ≤ 6 from (by omega))⟩) hS (fun q h1 h2 => absurd h2 (Nat.not_le.mpr h1)) (fun q h => Nat.le_trans hS.1 h) (fun r_5 u t H1 locs ht hvm hw hBk hz1 hk1 hS => ?_)
    have hP := va_P_ro hP hk1
    obtain ⟨hw, z_1⟩ := hw
    rw [hw] at z_1
    subst hw
    clear hBk hvm ht u hz1 hk1
    clear hPc hDc hFc; clear t
    generalize H1 = H at hP hS ⊢
    refine lv_if_ne (tgt := 21) hx hb dX4_code_8 (by decide) (fun c_2 => ?_) (fun c_2 => ?_)
    · refine lv_iload_n hx hb dX4_code_21 rfl (lv_at hl 1 rfl) ?_
      refine lv_if_lt (tgt := 40) hx hb dX4_code_22 (by decide) (fun c_3 => ?_) (fun c_3 => ?_)
      · subst hQe
        subst hAe
        obtain ⟨sa, hstr⟩ := hN.2 _ (List.mem_of_getElem? (i := 5) rfl)
        have hE9 : (E_X4_code K x1 x2 x3) = 1 := (by unfold E_X4_code; rw [if_neg c_2, if_pos c_3])
        exact vx_throwS (own := RX4) (cls := "java/lang/IllegalArgumentException") (text := "a layer is 0 to 2, a code 0 to 31") (names := ["java/lang/RuntimeException", "java/lang/Exception"]) hx hb hst hown (by decide +kernel) (by decide +kernel) (hts _ q_863) (hts _ q_102) hstr (at_1_hat hts hN.1) at_1_ot hZ.2.2.1 hZ.2.2.2 (va_S_up hS hA) (hl.1.trans hml.symm) dX4_code_40 dX4_code_43 dX4_code_44 dX4_code_46 dX4_code_49 (fun x h => (hno x h).elim) (Nat.le_of_ble_eq_true rfl) (Nat.le_of_ble_eq_true rfl) (show 0 + 1 ≤ 1 from by omega) (show 0 + 6 ≤ 6 from by omega) hlocks (fun t hv hz hk => ⟨(), trivial, ⟨by rw [hE9]; decide, by rw [hE9]; rfl⟩, Nat.le_trans hS.1 hz, fun q h1 h2 => (hk q (Nat.lt_of_lt_of_le h1 hS.1)).trans (hS.2.1 q h1 h2)⟩) (fun z hz => Or.inr (hS.2.2 z hz)) (show 0 + 1 ≤ 1 from by omega) (show 0 + 6 ≤ 6 from by omega)
      · refine lv_iload_n hx hb dX4_code_25 rfl (lv_at hl 1 rfl) ?_
        refine lv_iconst (v := 3) hx hb dX4_code_26 (by decide) ?_
        refine lv_icmp_ge (tgt := 40) hx hb dX4_code_27 (by decide) (fun c_4 => ?_) (fun c_4 => ?_)
        · subst hQe
          subst hAe
          obtain ⟨sa, hstr⟩ := hN.2 _ (List.mem_of_getElem? (i := 5) rfl)
          have hE9 : (E_X4_code K x1 x2 x3) = 1 := (by unfold E_X4_code; rw [if_neg c_2, if_neg c_3, if_pos c_4])
          exact vx_throwS (own := RX4) (cls := "java/lang/IllegalArgumentException") (text := "a layer is 0 to 2, a code 0 to 31") (names := ["java/lang/RuntimeException", "java/lang/Exception"]) hx hb hst hown (by decide +kernel) (by decide +kernel) (hts _ q_863) (hts _ q_102) hstr (at_1_hat hts hN.1) at_1_ot hZ.2.2.1 hZ.2.2.2 (va_S_up hS hA) (hl.1.trans hml.symm) dX4_code_40 dX4_code_43 dX4_code_44 dX4_code_46 dX4_code_49 (fun x h => (hno x h).elim) (Nat.le_of_ble_eq_true rfl) (Nat.le_of_ble_eq_true rfl) (show 0 + 1 ≤ 1 from by omega) (show 0 + 6 ≤ 6 from by omega) hlocks (fun t hv hz hk => ⟨(), trivial, ⟨by rw [hE9]; decide, by rw [hE9]; rfl⟩, Nat.le_trans hS.1 hz, fun q h1 h2 => (hk q (Nat.lt_of_lt_of_le h1 hS.1)).trans (hS.2.1 q h1 h2)⟩) (fun z hz => Or.inr (hS.2.2 z hz)) (show 0 + 1 ≤ 1 from by omega) (show 0 + 6 ≤ 6 from by omega)
        · refine lv_iload_n hx hb dX4_code_30 rfl (lv_at hl 3 rfl) ?_
          refine lv_if_lt (tgt := 40) hx hb dX4_code_31 (by decide) (fun c_5 => ?_) (fun c_5 => ?_)
          · subst hQe
            subst hAe
            obtain ⟨sa, hstr⟩ := hN.2 _ (List.mem_of_getElem? (i := 5) rfl)
            have hE9 : (E_X4_code K x1 x2 x3) = 1 := (by unfold E_X4_code; rw [if_neg c_2, if_neg c_3, if_neg c_4, if_pos c_5])
            exact vx_throwS (own := RX4) (cls := "java/lang/IllegalArgumentException") (text := "a layer is 0 to 2, a code 0 to 31") (names := ["java/lang/RuntimeException", "java/lang/Exception"]) hx hb hst hown (by decide +kernel) (by decide +kernel) (hts _ q_863) (hts _ q_102) hstr (at_1_hat hts hN.1) at_1_ot hZ.2.2.1 hZ.2.2.2 (va_S_up hS hA) (hl.1.trans hml.symm) dX4_code_40 dX4_code_43 dX4_code_44 dX4_code_46 dX4_code_49 (fun x h => (hno x h).elim) (Nat.le_of_ble_eq_true rfl) (Nat.le_of_ble_eq_true rfl) (show 0 + 1 ≤ 1 from by omega) (show 0 + 6 ≤ 6 from by omega) hlocks (fun t hv hz hk => ⟨(), trivial, ⟨by rw [hE9]; decide, by rw [hE9]; rfl⟩, Nat.le_trans hS.1 hz, fun q h1 h2 => (hk q (Nat.lt_of_lt_of_le h1 hS.1)).trans (hS.2.1 q h1 h2)⟩) (fun z hz => Or.inr (hS.2.2 z hz)) (show 0 + 1 ≤ 1 from by omega) (show 0 + 6 ≤ 6 from by omega)
          · refine lv_iload_n hx hb dX4_code_34 rfl (lv_at hl 3 rfl) ?_
            refine lv_bipush (v := 31) hx hb dX4_code_35 (by decide) ?_
            refine lv_icmp_le (tgt := 50) hx hb dX4_code_37 (by decide) (fun c_6 => ?_) (fun c_6 => ?_)
            · refine lv_iload_n hx hb dX4_code_50 rfl (lv_at hl 1 rfl) ?_
              refine lv_bipush (v := 25) hx hb dX4_code_51 (by decide) ?_
              refine lv_imul hx hb dX4_code_53 ?_
              refine lv_iload_n hx hb dX4_code_54 rfl (lv_at hl 2 rfl) ?_
              refine lv_iadd hx hb dX4_code_55 ?_
              refine lv_istore (lv' := [(4, .int ((x1 * 25) + x2)), (0, .ref hX), (1, .int x1), (2, .int x2), (3, .int x3)]) hx hb dX4_code_56 hl (by decide) rfl (fun ls hl => ?_)
              refine lv_aload_n hx hb dX4_code_58 rfl (lv_at hl 1 rfl) ?_
              refine va_get (D := D) (ci := 11) (v := .ref hT) (C := RX4) (T := TX4) (N := 10) hx hb hts in_X4 hown hK hP 0 rfl rfl 3 (by decide) (hts _ q_658) (fun _ h9 => h9) rfl dX4_code_59 ?_
              refine va_getN (D := D) (ci := 8) (v := .ref aC) (C := RX1) (T := TX1) (N := 10) hx hb hts in_X1 hown hK hP 2 rfl rfl 0 (by decide) (va_Nw.use rfl (hN.1 _ n_255)) (fun _ h9 => h9) rfl dX4_code_62 ?_
              refine lv_iload hx hb dX4_code_65 (lv_at hl 0 rfl) ?_
              refine va_iald hx hb hK hP 3 1 rfl rfl (code_place (by assumption) (by assumption) (by assumption) hKb) dX4_code_67 ?_
              refine lv_istore (lv' := [(5, .int (fC ((x1 * 25) + x2).toNatClampNeg)), (4, .int ((x1 * 25) + x2)), (0, .ref hX), (1, .int x1), (2, .int x2), (3, .int x3)]) hx hb dX4_code_68 hl (by decide) rfl (fun ls hl => ?_)
              refine lv_aload_n hx hb dX4_code_70 rfl (lv_at hl 2 rfl) ?_
              refine va_get (D := D) (ci := 11) (v := .ref hT) (C := RX4) (T := TX4) (N := 10) hx hb hts in_X4 hown hK hP 0 rfl rfl 3 (by decide) (hts _ q_658) (fun _ h9 => h9) rfl dX4_code_71 ?_
              refine va_getN (D := D) (ci := 8) (v := .ref aC) (C := RX1) (T := TX1) (N := 10) hx hb hts in_X1 hown hK hP 2 rfl rfl 0 (by decide) (va_Nw.use rfl (hN.1 _ n_255)) (fun _ h9 => h9) rfl dX4_code_74 ?_
              refine lv_iload hx hb dX4_code_77 (lv_at hl 1 rfl) ?_
              refine lv_iload_n hx hb dX4_code_79 rfl (lv_at hl 5 rfl) ?_
              have hS := va_S_up hS hA
              refine va_iast hx hb hK hP hD hS 3 1 rfl rfl (code_place (by assumption) (by assumption) (by assumption) hKb) dX4_code_80 (fun H locs hP hD hS => ?_)
              have hP : va_P D vwCl [(hX, .inr (11, [.ref hW, .ref hF, .ref hA_, .ref hT, .int (nI sc), .int pa, .int gu, .int cl, .int se, .int rf])), (hW, .inr (10, [.int (nI R), .int (nI C), .int (nI K), .int fi, .int di, .int br, .int li])), (hT, .inr (8, [.ref aC, .ref aG, .ref aI, .ref hB, .int lo, .ref aK, .ref aL, .ref aQ, .int (nI Ch), .int ct])), (aC, .inl ((D.1 101), 75, .inl (upd fC ((x1 * 25) + x2).toNatClampNeg x3)))] H := hP
              have hD : va_D A [(hX, .inr (11, [.ref hW, .ref hF, .ref hA_, .ref hT, .int (nI sc), .int pa, .int gu, .int cl, .int se, .int rf])), (hW, .inr (10, [.int (nI R), .int (nI C), .int (nI K), .int fi, .int di, .int br, .int li])), (hT, .inr (8, [.ref aC, .ref aG, .ref aI, .ref hB, .int lo, .ref aK, .ref aL, .ref aQ, .int (nI Ch), .int ct])), (aC, .inl ((D.1 101), 75, .inl (upd fC ((x1 * 25) + x2).toNatClampNeg x3)))] := hD
              refine lv_iload hx hb dX4_code_81 (lv_at hl 0 rfl) ?_
              subst hQe
              refine vx_ret ?_
              subst hAe
              have hE : (F_X4_code K fC x1 x2 x3) = (fC ((x1 * 25) + x2).toNatClampNeg, upd fC ((x1 * 25) + x2).toNatClampNeg x3) := (by unfold F_X4_code; rw [if_neg c_2, if_neg c_3, if_neg c_4, if_neg c_5, if_pos c_6])
              have hE9 : (E_X4_code K x1 x2 x3) = 0 := (by unfold E_X4_code; rw [if_neg c_2, if_neg c_3, if_neg c_4, if_neg c_5, if_pos c_6])
              refine W.widen (k := 1) (n := 6) (by omega) (by omega) ?_
              have hP9 := hP.sub (ws' := [(hX, .inr (11, [.ref hW, .ref hF, .ref hA_, .ref hT, .int (nI sc), .int pa, .int gu, .int cl, .int se, .int rf])), (hW, .inr (10, [.int (nI R), .int (nI C), .int (nI K), .int fi, .int di, .int br, .int li])), (hT, .inr (8, [.ref aC, .ref aG, .ref aI, .ref hB, .int lo, .ref aK, .ref aL, .ref aQ, .int (nI Ch), .int ct])), (aC, .inl ((D.1 101), 75, .inl (upd fC ((x1 * 25) + x2).toNatClampNeg x3)))]) [0, 1, 2, 3] rfl
              have hD9 := hD.sub (ws' := [(hX, .inr (11, [.ref hW, .ref hF, .ref hA_, .ref hT, .int (nI sc), .int pa, .int gu, .int cl, .int se, .int rf])), (hW, .inr (10, [.int (nI R), .int (nI C), .int (nI K), .int fi, .int di, .int br, .int li])), (hT, .inr (8, [.ref aC, .ref aG, .ref aI, .ref hB, .int lo, .ref aK, .ref aL, .ref aQ, .int (nI Ch), .int ct])), (aC, .inl ((D.1 101), 75, .inl (upd fC ((x1 * 25) + x2).toNatClampNeg x3)))]) [0, 1, 2, 3] (by decide) rfl
              exact W.iret (v := fC ((x1 * 25) + x2).toNatClampNeg) hx hb hr (fun t ht hW => ⟨⟨fC ((x1 * 25) + x2).toNatClampNeg, (), rfl, ⟨(by rw [hE]), hE9⟩, (by (try rw [hE]); rw [ht]; exact hP9), (by (try rw [hE]); exact hD9)⟩, hS.F ht⟩) hS.2.2 dX4_code_83
            · subst hQe
              subst hAe
              obtain ⟨sa, hstr⟩ := hN.2 _ (List.mem_of_getElem? (i := 5) rfl)
              have hE9 : (E_X4_code K x1 x2 x3) = 1 := (by unfold E_X4_code; rw [if_neg c_2, if_neg c_3, if_neg c_4, if_neg c_5, if_neg c_6])
              exact vx_throwS (own := RX4) (cls := "java/lang/IllegalArgumentException") (text := "a layer is 0 to 2, a code 0 to 31") (names := ["java/lang/RuntimeException", "java/lang/Exception"]) hx hb hst hown (by decide +kernel) (by decide +kernel) (hts _ q_863) (hts _ q_102) hstr (at_1_hat hts hN.1) at_1_ot hZ.2.2.1 hZ.2.2.2 (va_S_up hS hA) (hl.1.trans hml.symm) dX4_code_40 dX4_code_43 dX4_code_44 dX4_code_46 dX4_code_49 (fun x h => (hno x h).elim) (Nat.le_of_ble_eq_true rfl) (Nat.le_of_ble_eq_true rfl) (show 0 + 1 ≤ 1 from by omega) (show 0 + 6 ≤ 6 from by omega) hlocks (fun t hv hz hk => ⟨(), trivial, ⟨by rw [hE9]; decide, by rw [hE9]; rfl⟩, Nat.le_trans hS.1 hz, fun q h1 h2 => (hk q (Nat.lt_of_lt_of_le h1 hS.1)).trans (hS.2.1 q h1 h2)⟩) (fun z hz => Or.inr (hS.2.2 z hz)) (show 0 + 1 ≤ 1 from by omega) (show 0 + 6 ≤ 6 from by omega)
    · subst hQe
      subst hAe
      obtain ⟨sa, hstr⟩ := hN.2 _ (List.mem_of_getElem? (i := 1) rfl)
      have hE9 : (E_X4_code K x1 x2 x3) = 2 := (by unfold E_X4_code; rw [if_pos c_2])
      exact vx_throwS (own := RX4) (cls := "java/lang/IndexOutOfBoundsException") (text := "no such key") (names := ["java/lang/RuntimeException", "java/lang/Exception"]) hx hb hst hown (by decide +kernel) (by decide +kernel) (hts _ q_878) (hts _ q_92) hstr (at_2_hat hts hN.1) at_2_ot hZ.2.2.1 hZ.2.2.2 (va_S_up hS hA) (hl.1.trans hml.symm) dX4_code_11 dX4_code_14 dX4_code_15 dX4_code_17 dX4_code_20 (fun x h => (hno x h).elim) (Nat.le_of_ble_eq_true rfl) (Nat.le_of_ble_eq_true rfl) (show 0 + 1 ≤ 1 from by omega) (show 0 + 6 ≤ 6 from by omega) hlocks (fun t hv hz hk => ⟨(), trivial, ⟨by rw [hE9]; decide, by rw [hE9]; rfl⟩, Nat.le_trans hS.1 hz, fun q h1 h2 => (hk q (Nat.lt_of_lt_of_le h1 hS.1)).trans (hS.2.1 q h1 h2)⟩) (fun z hz => Or.inr (hS.2.2 z hz)) (show 0 + 1 ≤ 1 from by omega) (show 0 + 6 ≤ 6 from by omega)
  rw [hHe, hLe] at hgoal
  exact hgoal

def E_X4_chord (K : Nat) (Ch : Nat) (x1 : Int32) (x2 : Int32) : Nat := (if (F_X3_isSet K x1) = 0 then 1 else (if (F_J6_bitCount_0f7a4 x1) < 2 then 1 else (if 3 < (F_J6_bitCount_0f7a4 x1) then 1 else (if x2 < 0 then 1 else (if x2 < 26 then (if (nI Ch) < 6 then 0 else 3) else 1)))))
def F_X4_chord (K : Nat) (Ch : Nat) (fK : Nat → Int32) (fL : Nat → Int32) (fQ : Nat → Int32) (x1 : Int32) (x2 : Int32) : Int32 × (Nat → Int32) × (Nat → Int32) × (Nat → Int32) × Nat := (if (F_X3_isSet K x1) = 0 then (0, fK, fL, fQ, Ch) else (if (F_J6_bitCount_0f7a4 x1) < 2 then (0, fK, fL, fQ, Ch) else (if 3 < (F_J6_bitCount_0f7a4 x1) then (0, fK, fL, fQ, Ch) else (if x2 < 0 then (0, fK, fL, fQ, Ch) else (if x2 < 26 then (if (nI Ch) < 6 then ((F_X1_addChord Ch fK fL fQ x1 x2).1, (F_X1_addChord Ch fK fL fQ x1 x2).2.1, (F_X1_addChord Ch fK fL fQ x1 x2).2.2.1, (F_X1_addChord Ch fK fL fQ x1 x2).2.2.2.1, ((F_X1_addChord Ch fK fL fQ x1 x2).2.2.2.2)) else (0, fK, fL, fQ, Ch)) else (0, fK, fL, fQ, Ch))))))
set_option maxHeartbeats 4000000 in
set_option maxRecDepth 100000 in
theorem c_X4_chord (l : Launch) (D : va_G) (hX : Nat) (hW : Nat) (hF : Nat) (hA_ : Nat) (hT : Nat) (sc : Nat) (pa : Int32) (gu : Int32) (cl : Int32) (se : Int32) (rf : Int32) (R : Nat) (C : Nat) (K : Nat) (fi : Int32) (di : Int32) (br : Int32) (li : Int32) (aC : Nat) (aG : Nat) (aI : Nat) (hB : Nat) (aK : Nat) (aL : Nat) (aQ : Nat) (lo : Int32) (Ch : Nat) (ct : Int32) (fK : Nat → Int32) (fL : Nat → Int32) (fQ : Nat → Int32) (x1 : Int32) (x2 : Int32) (sz : Nat) (hst : l.stackTraces = false) (hCh : Ch ≤ 6) : vx_Met l yX4_chord (Cond.code yX4_chord cX4_chord 5 (some .int) :: lwAll) ({ frames := 6, cells := 1, slots := 6, locals := 90 } : Room) (va_Pc [.ref hX, .int x1, .int x2] (cPre D (lwTY D) [(hX, .inr (11, [.ref hW, .ref hF, .ref hA_, .ref hT, .int (nI sc), .int pa, .int gu, .int cl, .int se, .int rf])), (hW, .inr (10, [.int (nI R), .int (nI C), .int (nI K), .int fi, .int di, .int br, .int li])), (hT, .inr (8, [.ref aC, .ref aG, .ref aI, .ref hB, .int lo, .ref aK, .ref aL, .ref aQ, .int (nI Ch), .int ct])), (aK, .inl ((D.1 101), 6, .inl fK)), (aL, .inl ((D.1 101), 6, .inl fL)), (aQ, .inl ((D.1 101), 18, .inl fQ))] sz)) (va_Qi (fun (r : Int32) (_ : Unit) => r = (F_X4_chord K Ch fK fL fQ x1 x2).1 ∧ (E_X4_chord K Ch x1 x2) = 0) (fun (_ : Unit) t => va_P D vwCl [(hX, .inr (11, [.ref hW, .ref hF, .ref hA_, .ref hT, .int (nI sc), .int pa, .int gu, .int cl, .int se, .int rf])), (hW, .inr (10, [.int (nI R), .int (nI C), .int (nI K), .int fi, .int di, .int br, .int li])), (hT, .inr (8, [.ref aC, .ref aG, .ref aI, .ref hB, .int lo, .ref aK, .ref aL, .ref aQ, .int (nI ((F_X4_chord K Ch fK fL fQ x1 x2).2.2.2.2)), .int ct])), (aK, .inl ((D.1 101), 6, .inl ((F_X4_chord K Ch fK fL fQ x1 x2).2.1))), (aL, .inl ((D.1 101), 6, .inl ((F_X4_chord K Ch fK fL fQ x1 x2).2.2.1))), (aQ, .inl ((D.1 101), 18, .inl ((F_X4_chord K Ch fK fL fQ x1 x2).2.2.2.1)))] t.heap ∧ va_D (va_A [(hX, .inr (11, [.ref hW, .ref hF, .ref hA_, .ref hT, .int (nI sc), .int pa, .int gu, .int cl, .int se, .int rf])), (hW, .inr (10, [.int (nI R), .int (nI C), .int (nI K), .int fi, .int di, .int br, .int li])), (hT, .inr (8, [.ref aC, .ref aG, .ref aI, .ref hB, .int lo, .ref aK, .ref aL, .ref aQ, .int (nI Ch), .int ct])), (aK, .inl ((D.1 101), 6, .inl fK)), (aL, .inl ((D.1 101), 6, .inl fL)), (aQ, .inl ((D.1 101), 18, .inl fQ))] sz) [(hX, .inr (11, [.ref hW, .ref hF, .ref hA_, .ref hT, .int (nI sc), .int pa, .int gu, .int cl, .int se, .int rf])), (hW, .inr (10, [.int (nI R), .int (nI C), .int (nI K), .int fi, .int di, .int br, .int li])), (hT, .inr (8, [.ref aC, .ref aG, .ref aI, .ref hB, .int lo, .ref aK, .ref aL, .ref aQ, .int (nI ((F_X4_chord K Ch fK fL fQ x1 x2).2.2.2.2)), .int ct])), (aK, .inl ((D.1 101), 6, .inl ((F_X4_chord K Ch fK fL fQ x1 x2).2.1))), (aL, .inl ((D.1 101), 6, .inl ((F_X4_chord K Ch fK fL fQ x1 x2).2.2.1))), (aQ, .inl ((D.1 101), 18, .inl ((F_X4_chord K Ch fK fL fQ x1 x2).2.2.2.1)))]) (va_A [(hX, .inr (11, [.ref hW, .ref hF, .ref hA_, .ref hT, .int (nI sc), .int pa, .int gu, .int cl, .int se, .int rf])), (hW, .inr (10, [.int (nI R), .int (nI C), .int (nI K), .int fi, .int di, .int br, .int li])), (hT, .inr (8, [.ref aC, .ref aG, .ref aI, .ref hB, .int lo, .ref aK, .ref aL, .ref aQ, .int (nI Ch), .int ct])), (aK, .inl ((D.1 101), 6, .inl fK)), (aL, .inl ((D.1 101), 6, .inl fL)), (aQ, .inl ((D.1 101), 18, .inl fQ))] sz)) (vx_X (fun _ : Unit => True) (fun (E : String) (_ : Unit) (_ : State) => (E_X4_chord K Ch x1 x2) ≠ 0 ∧ E = xname (E_X4_chord K Ch x1 x2)) (fun q : Nat => sz ≤ q)) 1 6 (va_A [(hX, .inr (11, [.ref hW, .ref hF, .ref hA_, .ref hT, .int (nI sc), .int pa, .int gu, .int cl, .int se, .int rf])), (hW, .inr (10, [.int (nI R), .int (nI C), .int (nI K), .int fi, .int di, .int br, .int li])), (hT, .inr (8, [.ref aC, .ref aG, .ref aI, .ref hB, .int lo, .ref aK, .ref aL, .ref aQ, .int (nI Ch), .int ct])), (aK, .inl ((D.1 101), 6, .inl fK)), (aL, .inl ((D.1 101), 6, .inl fL)), (aQ, .inl ((D.1 101), 18, .inl fQ))] sz) := by
  refine vx_ofW (cc := cX4_chord) (maxL := 5) (ret := (some .int)) (by decide) rfl ?_
  intro p e s m args below meth c s₁ B hml hno hv
  obtain ⟨rfl, hsz, hP, hK, hD0, hN, hZ⟩ := hv
  have hx := B.exec
  have hb := B.bytes
  have hr := B.returns
  have hts : ∀ wd ∈ lwAll, wd.before ([.ref hX, .int x1, .int x2] : List Value).toArray s = true := fun wd h => atoms_spec (ws := (Cond.code yX4_chord cX4_chord 5 (some .int) :: lwAll)) B.pre wd (List.mem_cons_of_mem _ h)
  have hown : s.vm.findClass RX4 = some m.cls := findClass_of_methodNamed B.named
  have hlocks := B.notSynchronized
  subst hsz
  have hD := hD0.self (sz := s.heap.size)
  have hl := lv_entry ([.ref hX, .int x1, .int x2]) (n := 5) (Nat.le_of_ble_eq_true rfl)
  rw [lg_entry_eq]
  generalize (lg_sl ([.ref hX, .int x1, .int x2]) ++ List.replicate (5 - (lg_sl ([.ref hX, .int x1, .int x2])).length) Slot.unset).toArray = ls at hl ⊢
  have hl : lv_has ls 5 [(0, .ref hX), (1, .int x1), (2, .int x2)] := hl
  have hS : va_S (fun q : Nat => s.heap.size ≤ q) s.heap s.heap [] := va_S.rf
  generalize hQe : vx_MQ below (va_Qi (fun (r : Int32) (_ : Unit) => r = (F_X4_chord K Ch fK fL fQ x1 x2).1 ∧ (E_X4_chord K Ch x1 x2) = 0) (fun (_ : Unit) t => va_P D vwCl [(hX, .inr (11, [.ref hW, .ref hF, .ref hA_, .ref hT, .int (nI sc), .int pa, .int gu, .int cl, .int se, .int rf])), (hW, .inr (10, [.int (nI R), .int (nI C), .int (nI K), .int fi, .int di, .int br, .int li])), (hT, .inr (8, [.ref aC, .ref aG, .ref aI, .ref hB, .int lo, .ref aK, .ref aL, .ref aQ, .int (nI ((F_X4_chord K Ch fK fL fQ x1 x2).2.2.2.2)), .int ct])), (aK, .inl ((D.1 101), 6, .inl ((F_X4_chord K Ch fK fL fQ x1 x2).2.1))), (aL, .inl ((D.1 101), 6, .inl ((F_X4_chord K Ch fK fL fQ x1 x2).2.2.1))), (aQ, .inl ((D.1 101), 18, .inl ((F_X4_chord K Ch fK fL fQ x1 x2).2.2.2.1)))] t.heap ∧ va_D (va_A [(hX, .inr (11, [.ref hW, .ref hF, .ref hA_, .ref hT, .int (nI sc), .int pa, .int gu, .int cl, .int se, .int rf])), (hW, .inr (10, [.int (nI R), .int (nI C), .int (nI K), .int fi, .int di, .int br, .int li])), (hT, .inr (8, [.ref aC, .ref aG, .ref aI, .ref hB, .int lo, .ref aK, .ref aL, .ref aQ, .int (nI Ch), .int ct])), (aK, .inl ((D.1 101), 6, .inl fK)), (aL, .inl ((D.1 101), 6, .inl fL)), (aQ, .inl ((D.1 101), 18, .inl fQ))] s.heap.size) [(hX, .inr (11, [.ref hW, .ref hF, .ref hA_, .ref hT, .int (nI sc), .int pa, .int gu, .int cl, .int se, .int rf])), (hW, .inr (10, [.int (nI R), .int (nI C), .int (nI K), .int fi, .int di, .int br, .int li])), (hT, .inr (8, [.ref aC, .ref aG, .ref aI, .ref hB, .int lo, .ref aK, .ref aL, .ref aQ, .int (nI ((F_X4_chord K Ch fK fL fQ x1 x2).2.2.2.2)), .int ct])), (aK, .inl ((D.1 101), 6, .inl ((F_X4_chord K Ch fK fL fQ x1 x2).2.1))), (aL, .inl ((D.1 101), 6, .inl ((F_X4_chord K Ch fK fL fQ x1 x2).2.2.1))), (aQ, .inl ((D.1 101), 18, .inl ((F_X4_chord K Ch fK fL fQ x1 x2).2.2.2.1)))]) (va_A [(hX, .inr (11, [.ref hW, .ref hF, .ref hA_, .ref hT, .int (nI sc), .int pa, .int gu, .int cl, .int se, .int rf])), (hW, .inr (10, [.int (nI R), .int (nI C), .int (nI K), .int fi, .int di, .int br, .int li])), (hT, .inr (8, [.ref aC, .ref aG, .ref aI, .ref hB, .int lo, .ref aK, .ref aL, .ref aQ, .int (nI Ch), .int ct])), (aK, .inl ((D.1 101), 6, .inl fK)), (aL, .inl ((D.1 101), 6, .inl fL)), (aQ, .inl ((D.1 101), 18, .inl fQ))] s.heap.size)) (vx_X (fun _ : Unit => True) (fun (E : String) (_ : Unit) (_ : State) => (E_X4_chord K Ch x1 x2) ≠ 0 ∧ E = xname (E_X4_chord K Ch x1 x2)) (fun q : Nat => s.heap.size ≤ q)) ([.ref hX, .int x1, .int x2] : List Value).toArray s 1 6 (va_A [(hX, .inr (11, [.ref hW, .ref hF, .ref hA_, .ref hT, .int (nI sc), .int pa, .int gu, .int cl, .int se, .int rf])), (hW, .inr (10, [.int (nI R), .int (nI C), .int (nI K), .int fi, .int di, .int br, .int li])), (hT, .inr (8, [.ref aC, .ref aG, .ref aI, .ref hB, .int lo, .ref aK, .ref aL, .ref aQ, .int (nI Ch), .int ct])), (aK, .inl ((D.1 101), 6, .inl fK)), (aL, .inl ((D.1 101), 6, .inl fL)), (aQ, .inl ((D.1 101), 18, .inl fQ))] s.heap.size) = Q
  have hP : va_P D vwCl [(hX, .inr (11, [.ref hW, .ref hF, .ref hA_, .ref hT, .int (nI sc), .int pa, .int gu, .int cl, .int se, .int rf])), (hW, .inr (10, [.int (nI R), .int (nI C), .int (nI K), .int fi, .int di, .int br, .int li])), (hT, .inr (8, [.ref aC, .ref aG, .ref aI, .ref hB, .int lo, .ref aK, .ref aL, .ref aQ, .int (nI Ch), .int ct])), (aK, .inl ((D.1 101), 6, .inl fK)), (aL, .inl ((D.1 101), 6, .inl fL)), (aQ, .inl ((D.1 101), 18, .inl fQ))] s.heap := hP
  obtain ⟨A, hAe⟩ : ∃ A, A = va_A [(hX, .inr (11, [.ref hW, .ref hF, .ref hA_, .ref hT, .int (nI sc), .int pa, .int gu, .int cl, .int se, .int rf])), (hW, .inr (10, [.int (nI R), .int (nI C), .int (nI K), .int fi, .int di, .int br, .int li])), (hT, .inr (8, [.ref aC, .ref aG, .ref aI, .ref hB, .int lo, .ref aK, .ref aL, .ref aQ, .int (nI Ch), .int ct])), (aK, .inl ((D.1 101), 6, .inl fK)), (aL, .inl ((D.1 101), 6, .inl fL)), (aQ, .inl ((D.1 101), 18, .inl fQ))] s.heap.size := ⟨_, rfl⟩
  rw [← hAe] at hD hZ
  have hA : ∀ q : Nat, s.heap.size ≤ q → A q := fun q h => by rw [hAe]; exact Or.inr h
  obtain ⟨H, hHe⟩ : ∃ H, H = s.heap := ⟨_, rfl⟩
  obtain ⟨locs, hLe⟩ : ∃ L : List Loc, L = [] := ⟨_, rfl⟩
  have hP : va_P D vwCl [(hX, .inr (11, [.ref hW, .ref hF, .ref hA_, .ref hT, .int (nI sc), .int pa, .int gu, .int cl, .int se, .int rf])), (hW, .inr (10, [.int (nI R), .int (nI C), .int (nI K), .int fi, .int di, .int br, .int li])), (hT, .inr (8, [.ref aC, .ref aG, .ref aI, .ref hB, .int lo, .ref aK, .ref aL, .ref aQ, .int (nI Ch), .int ct])), (aK, .inl ((D.1 101), 6, .inl fK)), (aL, .inl ((D.1 101), 6, .inl fL)), (aQ, .inl ((D.1 101), 18, .inl fQ))] H := by rw [hHe]; exact hP
  have hS : va_S (fun q : Nat => s.heap.size ≤ q) s.heap H locs := by rw [hHe, hLe]; exact hS
  have hgoal : W p l e ({ frames := 6, cells := 1, slots := 6, locals := 90 } : Room) s m ([.ref hX, .int x1, .int x2] : List Value).toArray below meth c H locs 0 0 Q (F0 m 0 ls []) := by
    clear hHe hLe
    refine lv_iload_n hx hb dX4_chord_0 rfl (lv_at hl 1 rfl) ?_
    have hPc := hP.sub (ws' := []) [] rfl
    have hDc := hD.sub (ws' := []) [] (by decide) rfl
    have hFc := va_free (wc := []) hD (va_S_up hS hA) hA [] rfl
    refine va_calli (va_runS (As := [.int x1]) (rest := []) ⟨hx, hb, hml, hown, hts⟩ (c_J6_bitCount_0f7a4 l D x1 H.size ) ⟨callB_of 1 hts (gi_sub q_728) rfl rfl rfl (hts _ q_101) (hts _ q_792) (by decide +kernel) ⟨Nat.le_of_ble_eq_true rfl, Nat.le_of_ble_eq_true rfl⟩, (hts _ q_727)⟩ ⟨cPre_blind, cPre_mk hPc hK hDc hN (lwZ_for hZ (va_S_up hS hA) hFc)⟩ rfl rfl hl.1 rfl (lv_room (Nat.le_of_ble_eq_true rfl)) dX4_chord_1 ⟨(show 0 + 0 ≤ 1 from (by omega)), (show 0 + 0 ≤ 6 from (by omega))⟩) hS (fun q h1 h2 => absurd h2 (Nat.not_le.mpr h1)) (fun q h => Nat.le_trans hS.1 h) (fun r_1 u t H1 locs ht hvm hw hBk hz1 hk1 hS => ?_)
    have hP := va_P_ro hP hk1
    subst hw
    clear hBk hvm ht u hz1 hk1
    clear hPc hDc hFc; clear t
    generalize H1 = H at hP hS ⊢
    refine lv_istore_n (lv' := [(3, .int (F_J6_bitCount_0f7a4 x1)), (0, .ref hX), (1, .int x1), (2, .int x2)]) hx hb dX4_chord_4 rfl hl (by decide) rfl (fun ls hl => ?_)
    refine lv_aload_n hx hb dX4_chord_5 rfl (lv_at hl 1 rfl) ?_
    refine va_get (D := D) (ci := 11) (v := .ref hW) (C := RX4) (T := TX4) (N := 10) hx hb hts in_X4 hown hK hP 0 rfl rfl 0 (by decide) (hts _ q_655) (fun _ h9 => h9) rfl dX4_chord_6 ?_
    refine lv_iload_n hx hb dX4_chord_9 rfl (lv_at hl 2 rfl) ?_
    have hPc := hP.sub (ws' := [(hW, .inr (10, [.int (nI R), .int (nI C), .int (nI K), .int fi, .int di, .int br, .int li]))]) [1] rfl
    have hDc := hD.sub (ws' := [(hW, .inr (10, [.int (nI R), .int (nI C), .int (nI K), .int fi, .int di, .int br, .int li]))]) [1] (by decide) rfl
    have hFc := va_free (wc := [(hW, .inr (10, [.int (nI R), .int (nI C), .int (nI K), .int fi, .int di, .int br, .int li]))]) hD (va_S_up hS hA) hA [1] rfl
    refine va_calli (va_runVN (As := [.int x1]) (rest := []) ⟨hx, hb, hml, hown, hts⟩ (c_X3_isSet l D hW R C K fi di br li x1 H.size ) ⟨va_cnB 1 hts (gi_sub q_832) rfl rfl rfl (hN.1 _ n_941) (hts _ q_81) (by decide +kernel) ⟨Nat.le_of_ble_eq_true rfl, Nat.le_of_ble_eq_true rfl⟩, (hts _ q_831), (hts _ q_27)⟩ ⟨cPre_blind, va_recv hK hP (ci := 10) (q0 := 1) rfl rfl, cPre_mk hPc hK hDc hN (lwZ_for hZ (va_S_up hS hA) hFc)⟩ rfl rfl hl.1 rfl (lv_room (Nat.le_of_ble_eq_true rfl)) dX4_chord_10 ⟨(show 0 + 0 ≤ 1 from (by omega)), (show 0 + 0 ≤ 6 from (by omega))⟩) hS (fun q h1 h2 => absurd h2 (Nat.not_le.mpr h1)) (fun q h => Nat.le_trans hS.1 h) (fun r_10 u t H1 locs ht hvm hw hBk hz1 hk1 hS => ?_)
    have hP := va_P_ro hP hk1
    obtain ⟨hw, z_1⟩ := hw
    rw [hw] at z_1
    subst hw
    clear hBk hvm ht u hz1 hk1
    clear hPc hDc hFc; clear t
    generalize H1 = H at hP hS ⊢
    refine lv_if_eq (tgt := 30) hx hb dX4_chord_13 (by decide) (fun c_2 => ?_) (fun c_2 => ?_)
    · refine lv_iconst (v := 0) hx hb dX4_chord_30 (by decide) ?_
      refine lv_istore (lv' := [(4, .int 0), (3, .int (F_J6_bitCount_0f7a4 x1)), (0, .ref hX), (1, .int x1), (2, .int x2)]) hx hb dX4_chord_31 hl (by decide) rfl (fun ls hl => ?_)
      refine lv_iload hx hb dX4_chord_33 (lv_at hl 0 rfl) ?_
      refine lv_if_eq (tgt := 48) hx hb dX4_chord_35 (by decide) (fun c_3 => ?_) (fun c_3 => ?_)
      · subst hQe
        subst hAe
        obtain ⟨sa, hstr⟩ := hN.2 _ (List.mem_of_getElem? (i := 6) rfl)
        have hE9 : (E_X4_chord K Ch x1 x2) = 1 := (by unfold E_X4_chord; rw [if_pos c_2])
        exact vx_throwS (own := RX4) (cls := "java/lang/IllegalArgumentException") (text := "a chord is two or three keys and a letter") (names := ["java/lang/RuntimeException", "java/lang/Exception"]) hx hb hst hown (by decide +kernel) (by decide +kernel) (hts _ q_863) (hts _ q_102) hstr (at_1_hat hts hN.1) at_1_ot hZ.2.2.1 hZ.2.2.2 (va_S_up hS hA) (hl.1.trans hml.symm) dX4_chord_48 dX4_chord_51 dX4_chord_52 dX4_chord_54 dX4_chord_57 (fun x h => (hno x h).elim) (Nat.le_of_ble_eq_true rfl) (Nat.le_of_ble_eq_true rfl) (show 0 + 1 ≤ 1 from by omega) (show 0 + 6 ≤ 6 from by omega) hlocks (fun t hv hz hk => ⟨(), trivial, ⟨by rw [hE9]; decide, by rw [hE9]; rfl⟩, Nat.le_trans hS.1 hz, fun q h1 h2 => (hk q (Nat.lt_of_lt_of_le h1 hS.1)).trans (hS.2.1 q h1 h2)⟩) (fun z hz => Or.inr (hS.2.2 z hz)) (show 0 + 1 ≤ 1 from by omega) (show 0 + 6 ≤ 6 from by omega)
      · exact absurd (by decide) c_3
    · refine lv_iload_n hx hb dX4_chord_16 rfl (lv_at hl 0 rfl) ?_
      refine lv_iconst (v := 2) hx hb dX4_chord_17 (by decide) ?_
      refine lv_icmp_lt (tgt := 30) hx hb dX4_chord_18 (by decide) (fun c_4 => ?_) (fun c_4 => ?_)
      · refine lv_iconst (v := 0) hx hb dX4_chord_30 (by decide) ?_
        refine lv_istore (lv' := [(4, .int 0), (3, .int (F_J6_bitCount_0f7a4 x1)), (0, .ref hX), (1, .int x1), (2, .int x2)]) hx hb dX4_chord_31 hl (by decide) rfl (fun ls hl => ?_)
        refine lv_iload hx hb dX4_chord_33 (lv_at hl 0 rfl) ?_
        refine lv_if_eq (tgt := 48) hx hb dX4_chord_35 (by decide) (fun c_5 => ?_) (fun c_5 => ?_)
        · subst hQe
          subst hAe
          obtain ⟨sa, hstr⟩ := hN.2 _ (List.mem_of_getElem? (i := 6) rfl)
          have hE9 : (E_X4_chord K Ch x1 x2) = 1 := (by unfold E_X4_chord; rw [if_neg c_2, if_pos c_4])
          exact vx_throwS (own := RX4) (cls := "java/lang/IllegalArgumentException") (text := "a chord is two or three keys and a letter") (names := ["java/lang/RuntimeException", "java/lang/Exception"]) hx hb hst hown (by decide +kernel) (by decide +kernel) (hts _ q_863) (hts _ q_102) hstr (at_1_hat hts hN.1) at_1_ot hZ.2.2.1 hZ.2.2.2 (va_S_up hS hA) (hl.1.trans hml.symm) dX4_chord_48 dX4_chord_51 dX4_chord_52 dX4_chord_54 dX4_chord_57 (fun x h => (hno x h).elim) (Nat.le_of_ble_eq_true rfl) (Nat.le_of_ble_eq_true rfl) (show 0 + 1 ≤ 1 from by omega) (show 0 + 6 ≤ 6 from by omega) hlocks (fun t hv hz hk => ⟨(), trivial, ⟨by rw [hE9]; decide, by rw [hE9]; rfl⟩, Nat.le_trans hS.1 hz, fun q h1 h2 => (hk q (Nat.lt_of_lt_of_le h1 hS.1)).trans (hS.2.1 q h1 h2)⟩) (fun z hz => Or.inr (hS.2.2 z hz)) (show 0 + 1 ≤ 1 from by omega) (show 0 + 6 ≤ 6 from by omega)
        · exact absurd (by decide) c_5
      · refine lv_iload_n hx hb dX4_chord_21 rfl (lv_at hl 0 rfl) ?_
        refine lv_iconst (v := 3) hx hb dX4_chord_22 (by decide) ?_
        refine lv_icmp_gt (tgt := 30) hx hb dX4_chord_23 (by decide) (fun c_6 => ?_) (fun c_6 => ?_)
        · refine lv_iconst (v := 0) hx hb dX4_chord_30 (by decide) ?_
          refine lv_istore (lv' := [(4, .int 0), (3, .int (F_J6_bitCount_0f7a4 x1)), (0, .ref hX), (1, .int x1), (2, .int x2)]) hx hb dX4_chord_31 hl (by decide) rfl (fun ls hl => ?_)
          refine lv_iload hx hb dX4_chord_33 (lv_at hl 0 rfl) ?_
          refine lv_if_eq (tgt := 48) hx hb dX4_chord_35 (by decide) (fun c_7 => ?_) (fun c_7 => ?_)
          · subst hQe
            subst hAe
            obtain ⟨sa, hstr⟩ := hN.2 _ (List.mem_of_getElem? (i := 6) rfl)
            have hE9 : (E_X4_chord K Ch x1 x2) = 1 := (by unfold E_X4_chord; rw [if_neg c_2, if_neg c_4, if_pos c_6])
            exact vx_throwS (own := RX4) (cls := "java/lang/IllegalArgumentException") (text := "a chord is two or three keys and a letter") (names := ["java/lang/RuntimeException", "java/lang/Exception"]) hx hb hst hown (by decide +kernel) (by decide +kernel) (hts _ q_863) (hts _ q_102) hstr (at_1_hat hts hN.1) at_1_ot hZ.2.2.1 hZ.2.2.2 (va_S_up hS hA) (hl.1.trans hml.symm) dX4_chord_48 dX4_chord_51 dX4_chord_52 dX4_chord_54 dX4_chord_57 (fun x h => (hno x h).elim) (Nat.le_of_ble_eq_true rfl) (Nat.le_of_ble_eq_true rfl) (show 0 + 1 ≤ 1 from by omega) (show 0 + 6 ≤ 6 from by omega) hlocks (fun t hv hz hk => ⟨(), trivial, ⟨by rw [hE9]; decide, by rw [hE9]; rfl⟩, Nat.le_trans hS.1 hz, fun q h1 h2 => (hk q (Nat.lt_of_lt_of_le h1 hS.1)).trans (hS.2.1 q h1 h2)⟩) (fun z hz => Or.inr (hS.2.2 z hz)) (show 0 + 1 ≤ 1 from by omega) (show 0 + 6 ≤ 6 from by omega)
          · exact absurd (by decide) c_7
        · refine lv_iconst (v := 1) hx hb dX4_chord_26 (by decide) ?_
          refine lv_goto (tgt := 31) hx hb dX4_chord_27 (by decide) ?_
          refine lv_istore (lv' := [(4, .int 1), (3, .int (F_J6_bitCount_0f7a4 x1)), (0, .ref hX), (1, .int x1), (2, .int x2)]) hx hb dX4_chord_31 hl (by decide) rfl (fun ls hl => ?_)
          refine lv_iload hx hb dX4_chord_33 (lv_at hl 0 rfl) ?_
          refine lv_if_eq (tgt := 48) hx hb dX4_chord_35 (by decide) (fun c_8 => ?_) (fun c_8 => ?_)
          · exact absurd c_8 (by decide)
          · refine lv_iload_n hx hb dX4_chord_38 rfl (lv_at hl 4 rfl) ?_
            refine lv_if_lt (tgt := 48) hx hb dX4_chord_39 (by decide) (fun c_9 => ?_) (fun c_9 => ?_)
            · subst hQe
              subst hAe
              obtain ⟨sa, hstr⟩ := hN.2 _ (List.mem_of_getElem? (i := 6) rfl)
              have hE9 : (E_X4_chord K Ch x1 x2) = 1 := (by unfold E_X4_chord; rw [if_neg c_2, if_neg c_4, if_neg c_6, if_pos c_9])
              exact vx_throwS (own := RX4) (cls := "java/lang/IllegalArgumentException") (text := "a chord is two or three keys and a letter") (names := ["java/lang/RuntimeException", "java/lang/Exception"]) hx hb hst hown (by decide +kernel) (by decide +kernel) (hts _ q_863) (hts _ q_102) hstr (at_1_hat hts hN.1) at_1_ot hZ.2.2.1 hZ.2.2.2 (va_S_up hS hA) (hl.1.trans hml.symm) dX4_chord_48 dX4_chord_51 dX4_chord_52 dX4_chord_54 dX4_chord_57 (fun x h => (hno x h).elim) (Nat.le_of_ble_eq_true rfl) (Nat.le_of_ble_eq_true rfl) (show 0 + 1 ≤ 1 from by omega) (show 0 + 6 ≤ 6 from by omega) hlocks (fun t hv hz hk => ⟨(), trivial, ⟨by rw [hE9]; decide, by rw [hE9]; rfl⟩, Nat.le_trans hS.1 hz, fun q h1 h2 => (hk q (Nat.lt_of_lt_of_le h1 hS.1)).trans (hS.2.1 q h1 h2)⟩) (fun z hz => Or.inr (hS.2.2 z hz)) (show 0 + 1 ≤ 1 from by omega) (show 0 + 6 ≤ 6 from by omega)
            · refine lv_iload_n hx hb dX4_chord_42 rfl (lv_at hl 4 rfl) ?_
              refine lv_bipush (v := 26) hx hb dX4_chord_43 (by decide) ?_
              refine lv_icmp_lt (tgt := 58) hx hb dX4_chord_45 (by decide) (fun c_10 => ?_) (fun c_10 => ?_)
              · refine lv_aload_n hx hb dX4_chord_58 rfl (lv_at hl 2 rfl) ?_
                refine va_get (D := D) (ci := 11) (v := .ref hT) (C := RX4) (T := TX4) (N := 10) hx hb hts in_X4 hown hK hP 0 rfl rfl 3 (by decide) (hts _ q_658) (fun _ h9 => h9) rfl dX4_chord_59 ?_
                refine va_getN (D := D) (ci := 8) (v := .int (nI Ch)) (C := RX1) (T := TX1) (N := 10) hx hb hts in_X1 hown hK hP 2 rfl rfl 8 (by decide) (va_Nw.use rfl (hN.1 _ n_267)) (fun _ h9 => h9) rfl dX4_chord_62 ?_
                refine lv_bipush (v := 6) hx hb dX4_chord_65 (by decide) ?_
                refine lv_icmp_lt (tgt := 80) hx hb dX4_chord_67 (by decide) (fun c_11 => ?_) (fun c_11 => ?_)
                · refine lv_aload_n hx hb dX4_chord_80 rfl (lv_at hl 2 rfl) ?_
                  refine va_get (D := D) (ci := 11) (v := .ref hT) (C := RX4) (T := TX4) (N := 10) hx hb hts in_X4 hown hK hP 0 rfl rfl 3 (by decide) (hts _ q_658) (fun _ h9 => h9) rfl dX4_chord_81 ?_
                  refine lv_iload_n hx hb dX4_chord_84 rfl (lv_at hl 3 rfl) ?_
                  refine lv_iload_n hx hb dX4_chord_85 rfl (lv_at hl 4 rfl) ?_
                  have hPc := hP.sub (ws' := [(hT, .inr (8, [.ref aC, .ref aG, .ref aI, .ref hB, .int lo, .ref aK, .ref aL, .ref aQ, .int (nI Ch), .int ct])), (aK, .inl ((D.1 101), 6, .inl fK)), (aL, .inl ((D.1 101), 6, .inl fL)), (aQ, .inl ((D.1 101), 18, .inl fQ))]) [2, 3, 4, 5] rfl
                  have hDc := hD.sub (ws' := [(hT, .inr (8, [.ref aC, .ref aG, .ref aI, .ref hB, .int lo, .ref aK, .ref aL, .ref aQ, .int (nI Ch), .int ct])), (aK, .inl ((D.1 101), 6, .inl fK)), (aL, .inl ((D.1 101), 6, .inl fL)), (aQ, .inl ((D.1 101), 18, .inl fQ))]) [2, 3, 4, 5] (by decide) rfl
                  have hS := va_S_up hS hA
                  have hFc := va_free (wc := [(hT, .inr (8, [.ref aC, .ref aG, .ref aI, .ref hB, .int lo, .ref aK, .ref aL, .ref aQ, .int (nI Ch), .int ct])), (aK, .inl ((D.1 101), 6, .inl fK)), (aL, .inl ((D.1 101), 6, .inl fL)), (aQ, .inl ((D.1 101), 18, .inl fQ))]) hD hS hA [2, 3, 4, 5] rfl
                  refine va_calli (va_runVN (As := [.int x1, .int x2]) (rest := []) ⟨hx, hb, hml, hown, hts⟩ (c_X1_addChord l D hT aC aG aI hB aK aL aQ lo Ch ct fK fL fQ x1 x2 H.size (show Ch < 6 from (ch_lt hCh (by assumption)))) ⟨va_cnB 2 hts (gi_sub q_962) rfl rfl rfl (hN.1 _ n_959) (hts _ q_84) (by decide +kernel) ⟨Nat.le_of_ble_eq_true rfl, Nat.le_of_ble_eq_true rfl⟩, (hts _ q_961), (hts _ q_33)⟩ ⟨cPre_blind, va_recv hK hP (ci := 8) (q0 := 2) rfl rfl, cPre_mk hPc hK hDc hN (lwZ_for hZ hS hFc)⟩ rfl rfl hl.1 rfl (lv_room (Nat.le_of_ble_eq_true rfl)) dX4_chord_86 ⟨(show 0 + 0 ≤ 1 from (by omega)), (show 0 + 0 ≤ 6 from (by omega))⟩) hS (fun q _ h => hFc q h) hFc (fun r_86 u t H1 locs ht hvm hw hBk hz1 hk1 hS => ?_)
                  obtain ⟨hP1, hD1⟩ := hBk
                  rw [ht] at hP1
                  obtain ⟨hP, hD⟩ := va_join (wr := [(hX, .inr (11, [.ref hW, .ref hF, .ref hA_, .ref hT, .int (nI sc), .int pa, .int gu, .int cl, .int se, .int rf])), (hW, .inr (10, [.int (nI R), .int (nI C), .int (nI K), .int fi, .int di, .int br, .int li]))]) (w1 := [(hT, .inr (8, [.ref aC, .ref aG, .ref aI, .ref hB, .int lo, .ref aK, .ref aL, .ref aQ, .int (nI ((F_X1_addChord Ch fK fL fQ x1 x2).2.2.2.2)), .int ct])), (aK, .inl ((D.1 101), 6, .inl ((F_X1_addChord Ch fK fL fQ x1 x2).2.1))), (aL, .inl ((D.1 101), 6, .inl ((F_X1_addChord Ch fK fL fQ x1 x2).2.2.1))), (aQ, .inl ((D.1 101), 18, .inl ((F_X1_addChord Ch fK fL fQ x1 x2).2.2.2.1)))]) hP hD [2, 3, 4, 5] [0, 1] rfl rfl (by decide) (by decide) hk1 hFc hP1 hD1
                  subst hw
                  clear hPc hDc hFc hP1 hD1 hk1 hz1
                  clear hvm ht u; clear t
                  generalize H1 = H at hP hS ⊢
                  have hP : va_P D vwCl [(hX, .inr (11, [.ref hW, .ref hF, .ref hA_, .ref hT, .int (nI sc), .int pa, .int gu, .int cl, .int se, .int rf])), (hW, .inr (10, [.int (nI R), .int (nI C), .int (nI K), .int fi, .int di, .int br, .int li])), (hT, .inr (8, [.ref aC, .ref aG, .ref aI, .ref hB, .int lo, .ref aK, .ref aL, .ref aQ, .int (nI ((F_X1_addChord Ch fK fL fQ x1 x2).2.2.2.2)), .int ct])), (aK, .inl ((D.1 101), 6, .inl ((F_X1_addChord Ch fK fL fQ x1 x2).2.1))), (aL, .inl ((D.1 101), 6, .inl ((F_X1_addChord Ch fK fL fQ x1 x2).2.2.1))), (aQ, .inl ((D.1 101), 18, .inl ((F_X1_addChord Ch fK fL fQ x1 x2).2.2.2.1)))] H := hP
                  have hD : va_D A [(hX, .inr (11, [.ref hW, .ref hF, .ref hA_, .ref hT, .int (nI sc), .int pa, .int gu, .int cl, .int se, .int rf])), (hW, .inr (10, [.int (nI R), .int (nI C), .int (nI K), .int fi, .int di, .int br, .int li])), (hT, .inr (8, [.ref aC, .ref aG, .ref aI, .ref hB, .int lo, .ref aK, .ref aL, .ref aQ, .int (nI ((F_X1_addChord Ch fK fL fQ x1 x2).2.2.2.2)), .int ct])), (aK, .inl ((D.1 101), 6, .inl ((F_X1_addChord Ch fK fL fQ x1 x2).2.1))), (aL, .inl ((D.1 101), 6, .inl ((F_X1_addChord Ch fK fL fQ x1 x2).2.2.1))), (aQ, .inl ((D.1 101), 18, .inl ((F_X1_addChord Ch fK fL fQ x1 x2).2.2.2.1)))] := hD
                  subst hQe
                  refine vx_ret ?_
                  subst hAe
                  have hE : (F_X4_chord K Ch fK fL fQ x1 x2) = ((F_X1_addChord Ch fK fL fQ x1 x2).1, (F_X1_addChord Ch fK fL fQ x1 x2).2.1, (F_X1_addChord Ch fK fL fQ x1 x2).2.2.1, (F_X1_addChord Ch fK fL fQ x1 x2).2.2.2.1, ((F_X1_addChord Ch fK fL fQ x1 x2).2.2.2.2)) := (by unfold F_X4_chord; rw [if_neg c_2, if_neg c_4, if_neg c_6, if_neg c_9, if_pos c_10, if_pos c_11])
                  have hE9 : (E_X4_chord K Ch x1 x2) = 0 := (by unfold E_X4_chord; rw [if_neg c_2, if_neg c_4, if_neg c_6, if_neg c_9, if_pos c_10, if_pos c_11])
                  refine W.widen (k := 1) (n := 6) (by omega) (by omega) ?_
                  have hP9 := hP.sub (ws' := [(hX, .inr (11, [.ref hW, .ref hF, .ref hA_, .ref hT, .int (nI sc), .int pa, .int gu, .int cl, .int se, .int rf])), (hW, .inr (10, [.int (nI R), .int (nI C), .int (nI K), .int fi, .int di, .int br, .int li])), (hT, .inr (8, [.ref aC, .ref aG, .ref aI, .ref hB, .int lo, .ref aK, .ref aL, .ref aQ, .int (nI ((F_X1_addChord Ch fK fL fQ x1 x2).2.2.2.2)), .int ct])), (aK, .inl ((D.1 101), 6, .inl ((F_X1_addChord Ch fK fL fQ x1 x2).2.1))), (aL, .inl ((D.1 101), 6, .inl ((F_X1_addChord Ch fK fL fQ x1 x2).2.2.1))), (aQ, .inl ((D.1 101), 18, .inl ((F_X1_addChord Ch fK fL fQ x1 x2).2.2.2.1)))]) [0, 1, 2, 3, 4, 5] rfl
                  have hD9 := hD.sub (ws' := [(hX, .inr (11, [.ref hW, .ref hF, .ref hA_, .ref hT, .int (nI sc), .int pa, .int gu, .int cl, .int se, .int rf])), (hW, .inr (10, [.int (nI R), .int (nI C), .int (nI K), .int fi, .int di, .int br, .int li])), (hT, .inr (8, [.ref aC, .ref aG, .ref aI, .ref hB, .int lo, .ref aK, .ref aL, .ref aQ, .int (nI ((F_X1_addChord Ch fK fL fQ x1 x2).2.2.2.2)), .int ct])), (aK, .inl ((D.1 101), 6, .inl ((F_X1_addChord Ch fK fL fQ x1 x2).2.1))), (aL, .inl ((D.1 101), 6, .inl ((F_X1_addChord Ch fK fL fQ x1 x2).2.2.1))), (aQ, .inl ((D.1 101), 18, .inl ((F_X1_addChord Ch fK fL fQ x1 x2).2.2.2.1)))]) [0, 1, 2, 3, 4, 5] (by decide) rfl
                  exact W.iret (v := (F_X1_addChord Ch fK fL fQ x1 x2).1) hx hb hr (fun t ht hW => ⟨⟨(F_X1_addChord Ch fK fL fQ x1 x2).1, (), rfl, ⟨(by rw [hE]), hE9⟩, (by (try rw [hE]); rw [ht]; exact hP9), (by (try rw [hE]); exact hD9)⟩, hS.F ht⟩) hS.2.2 dX4_chord_89
                · subst hQe
                  subst hAe
                  obtain ⟨sa, hstr⟩ := hN.2 _ (List.mem_of_getElem? (i := 7) rfl)
                  have hE9 : (E_X4_chord K Ch x1 x2) = 3 := (by unfold E_X4_chord; rw [if_neg c_2, if_neg c_4, if_neg c_6, if_neg c_9, if_pos c_10, if_neg c_11])
                  exact vx_throwS (own := RX4) (cls := "java/lang/IllegalStateException") (text := "there are 6 chords") (names := ["java/lang/RuntimeException", "java/lang/Exception"]) hx hb hst hown (by decide +kernel) (by decide +kernel) (hts _ q_943) (hts _ q_111) hstr (at_3_hat hts hN.1) at_3_ot hZ.2.2.1 hZ.2.2.2 (va_S_up hS hA) (hl.1.trans hml.symm) dX4_chord_70 dX4_chord_73 dX4_chord_74 dX4_chord_76 dX4_chord_79 (fun x h => (hno x h).elim) (Nat.le_of_ble_eq_true rfl) (Nat.le_of_ble_eq_true rfl) (show 0 + 1 ≤ 1 from by omega) (show 0 + 6 ≤ 6 from by omega) hlocks (fun t hv hz hk => ⟨(), trivial, ⟨by rw [hE9]; decide, by rw [hE9]; rfl⟩, Nat.le_trans hS.1 hz, fun q h1 h2 => (hk q (Nat.lt_of_lt_of_le h1 hS.1)).trans (hS.2.1 q h1 h2)⟩) (fun z hz => Or.inr (hS.2.2 z hz)) (show 0 + 1 ≤ 1 from by omega) (show 0 + 6 ≤ 6 from by omega)
              · subst hQe
                subst hAe
                obtain ⟨sa, hstr⟩ := hN.2 _ (List.mem_of_getElem? (i := 6) rfl)
                have hE9 : (E_X4_chord K Ch x1 x2) = 1 := (by unfold E_X4_chord; rw [if_neg c_2, if_neg c_4, if_neg c_6, if_neg c_9, if_neg c_10])
                exact vx_throwS (own := RX4) (cls := "java/lang/IllegalArgumentException") (text := "a chord is two or three keys and a letter") (names := ["java/lang/RuntimeException", "java/lang/Exception"]) hx hb hst hown (by decide +kernel) (by decide +kernel) (hts _ q_863) (hts _ q_102) hstr (at_1_hat hts hN.1) at_1_ot hZ.2.2.1 hZ.2.2.2 (va_S_up hS hA) (hl.1.trans hml.symm) dX4_chord_48 dX4_chord_51 dX4_chord_52 dX4_chord_54 dX4_chord_57 (fun x h => (hno x h).elim) (Nat.le_of_ble_eq_true rfl) (Nat.le_of_ble_eq_true rfl) (show 0 + 1 ≤ 1 from by omega) (show 0 + 6 ≤ 6 from by omega) hlocks (fun t hv hz hk => ⟨(), trivial, ⟨by rw [hE9]; decide, by rw [hE9]; rfl⟩, Nat.le_trans hS.1 hz, fun q h1 h2 => (hk q (Nat.lt_of_lt_of_le h1 hS.1)).trans (hS.2.1 q h1 h2)⟩) (fun z hz => Or.inr (hS.2.2 z hz)) (show 0 + 1 ≤ 1 from by omega) (show 0 + 6 ≤ 6 from by omega)
  rw [hHe, hLe] at hgoal
  exact hgoal

def E_X4_hold (K : Nat) (fi : Int32) (x1 : Int32) : Nat := (if (F_X3_hasKey K x1) = 0 then 2 else (if (F_X4_holds fi x1) = 0 then 3 else 0))
def F_X4_hold (sc : Nat) (K : Nat) (fi : Int32) (he : Int32) (fB : Nat → Int32) (fN : Nat → Int32) (fM : Nat → Int32) (x1 : Int32) (x2 : Int32) : Int32 × Int32 × (Nat → Int32) × (Nat → Int32) := (if (F_X3_hasKey K x1) = 0 then (0, he, fN, fM) else (if (F_X4_holds fi x1) = 0 then (0, he, fN, fM) else (F_J6_bitCount_0f7a4 ((F_X0_move fB fN fM he x1.toNatClampNeg x2 (nI sc)).1), (F_X0_move fB fN fM he x1.toNatClampNeg x2 (nI sc)).1, (F_X0_move fB fN fM he x1.toNatClampNeg x2 (nI sc)).2.1, (F_X0_move fB fN fM he x1.toNatClampNeg x2 (nI sc)).2.2)))
set_option maxHeartbeats 4000000 in
set_option maxRecDepth 100000 in
theorem c_X4_hold (l : Launch) (D : va_G) (hX : Nat) (hW : Nat) (hF : Nat) (hA_ : Nat) (hT : Nat) (sc : Nat) (pa : Int32) (gu : Int32) (cl : Int32) (se : Int32) (rf : Int32) (R : Nat) (C : Nat) (K : Nat) (fi : Int32) (di : Int32) (br : Int32) (li : Int32) (aB : Nat) (aS : Nat) (aN : Nat) (aM : Nat) (he : Int32) (lu : Int32) (fB : Nat → Int32) (fS : Nat → Int32) (fN : Nat → Int32) (fM : Nat → Int32) (x1 : Int32) (x2 : Int32) (sz : Nat) (hst : l.stackTraces = false) (hKb : K ≤ 25) : vx_Met l yX4_hold (Cond.code yX4_hold cX4_hold 3 (some .int) :: lwAll) ({ frames := 6, cells := 1, slots := 6, locals := 90 } : Room) (va_Pc [.ref hX, .int x1, .int x2] (cPre D (lwTY D) [(hX, .inr (11, [.ref hW, .ref hF, .ref hA_, .ref hT, .int (nI sc), .int pa, .int gu, .int cl, .int se, .int rf])), (hW, .inr (10, [.int (nI R), .int (nI C), .int (nI K), .int fi, .int di, .int br, .int li])), (hF, .inr (7, [.ref aB, .ref aS, .ref aN, .ref aM, .int he, .int lu])), (aB, .inl ((D.1 101), 25, .inl fB)), (aS, .inl ((D.1 101), 25, .inl fS)), (aN, .inl ((D.1 101), 25, .inl fN)), (aM, .inl ((D.1 101), 25, .inl fM))] sz)) (va_Qi (fun (r : Int32) (_ : Unit) => r = (F_X4_hold sc K fi he fB fN fM x1 x2).1 ∧ (E_X4_hold K fi x1) = 0) (fun (_ : Unit) t => va_P D vwCl [(hX, .inr (11, [.ref hW, .ref hF, .ref hA_, .ref hT, .int (nI sc), .int pa, .int gu, .int cl, .int se, .int rf])), (hW, .inr (10, [.int (nI R), .int (nI C), .int (nI K), .int fi, .int di, .int br, .int li])), (hF, .inr (7, [.ref aB, .ref aS, .ref aN, .ref aM, .int ((F_X4_hold sc K fi he fB fN fM x1 x2).2.1), .int lu])), (aB, .inl ((D.1 101), 25, .inl fB)), (aS, .inl ((D.1 101), 25, .inl fS)), (aN, .inl ((D.1 101), 25, .inl ((F_X4_hold sc K fi he fB fN fM x1 x2).2.2.1))), (aM, .inl ((D.1 101), 25, .inl ((F_X4_hold sc K fi he fB fN fM x1 x2).2.2.2)))] t.heap ∧ va_D (va_A [(hX, .inr (11, [.ref hW, .ref hF, .ref hA_, .ref hT, .int (nI sc), .int pa, .int gu, .int cl, .int se, .int rf])), (hW, .inr (10, [.int (nI R), .int (nI C), .int (nI K), .int fi, .int di, .int br, .int li])), (hF, .inr (7, [.ref aB, .ref aS, .ref aN, .ref aM, .int he, .int lu])), (aB, .inl ((D.1 101), 25, .inl fB)), (aS, .inl ((D.1 101), 25, .inl fS)), (aN, .inl ((D.1 101), 25, .inl fN)), (aM, .inl ((D.1 101), 25, .inl fM))] sz) [(hX, .inr (11, [.ref hW, .ref hF, .ref hA_, .ref hT, .int (nI sc), .int pa, .int gu, .int cl, .int se, .int rf])), (hW, .inr (10, [.int (nI R), .int (nI C), .int (nI K), .int fi, .int di, .int br, .int li])), (hF, .inr (7, [.ref aB, .ref aS, .ref aN, .ref aM, .int ((F_X4_hold sc K fi he fB fN fM x1 x2).2.1), .int lu])), (aB, .inl ((D.1 101), 25, .inl fB)), (aS, .inl ((D.1 101), 25, .inl fS)), (aN, .inl ((D.1 101), 25, .inl ((F_X4_hold sc K fi he fB fN fM x1 x2).2.2.1))), (aM, .inl ((D.1 101), 25, .inl ((F_X4_hold sc K fi he fB fN fM x1 x2).2.2.2)))]) (va_A [(hX, .inr (11, [.ref hW, .ref hF, .ref hA_, .ref hT, .int (nI sc), .int pa, .int gu, .int cl, .int se, .int rf])), (hW, .inr (10, [.int (nI R), .int (nI C), .int (nI K), .int fi, .int di, .int br, .int li])), (hF, .inr (7, [.ref aB, .ref aS, .ref aN, .ref aM, .int he, .int lu])), (aB, .inl ((D.1 101), 25, .inl fB)), (aS, .inl ((D.1 101), 25, .inl fS)), (aN, .inl ((D.1 101), 25, .inl fN)), (aM, .inl ((D.1 101), 25, .inl fM))] sz)) (vx_X (fun _ : Unit => True) (fun (E : String) (_ : Unit) (_ : State) => (E_X4_hold K fi x1) ≠ 0 ∧ E = xname (E_X4_hold K fi x1)) (fun q : Nat => sz ≤ q)) 1 6 (va_A [(hX, .inr (11, [.ref hW, .ref hF, .ref hA_, .ref hT, .int (nI sc), .int pa, .int gu, .int cl, .int se, .int rf])), (hW, .inr (10, [.int (nI R), .int (nI C), .int (nI K), .int fi, .int di, .int br, .int li])), (hF, .inr (7, [.ref aB, .ref aS, .ref aN, .ref aM, .int he, .int lu])), (aB, .inl ((D.1 101), 25, .inl fB)), (aS, .inl ((D.1 101), 25, .inl fS)), (aN, .inl ((D.1 101), 25, .inl fN)), (aM, .inl ((D.1 101), 25, .inl fM))] sz) := by
  refine vx_ofW (cc := cX4_hold) (maxL := 3) (ret := (some .int)) (by decide) rfl ?_
  intro p e s m args below meth c s₁ B hml hno hv
  obtain ⟨rfl, hsz, hP, hK, hD0, hN, hZ⟩ := hv
  have hx := B.exec
  have hb := B.bytes
  have hr := B.returns
  have hts : ∀ wd ∈ lwAll, wd.before ([.ref hX, .int x1, .int x2] : List Value).toArray s = true := fun wd h => atoms_spec (ws := (Cond.code yX4_hold cX4_hold 3 (some .int) :: lwAll)) B.pre wd (List.mem_cons_of_mem _ h)
  have hown : s.vm.findClass RX4 = some m.cls := findClass_of_methodNamed B.named
  have hlocks := B.notSynchronized
  subst hsz
  have hD := hD0.self (sz := s.heap.size)
  have hl := lv_entry ([.ref hX, .int x1, .int x2]) (n := 3) (Nat.le_of_ble_eq_true rfl)
  rw [lg_entry_eq]
  generalize (lg_sl ([.ref hX, .int x1, .int x2]) ++ List.replicate (3 - (lg_sl ([.ref hX, .int x1, .int x2])).length) Slot.unset).toArray = ls at hl ⊢
  have hl : lv_has ls 3 [(0, .ref hX), (1, .int x1), (2, .int x2)] := hl
  have hS : va_S (fun q : Nat => s.heap.size ≤ q) s.heap s.heap [] := va_S.rf
  generalize hQe : vx_MQ below (va_Qi (fun (r : Int32) (_ : Unit) => r = (F_X4_hold sc K fi he fB fN fM x1 x2).1 ∧ (E_X4_hold K fi x1) = 0) (fun (_ : Unit) t => va_P D vwCl [(hX, .inr (11, [.ref hW, .ref hF, .ref hA_, .ref hT, .int (nI sc), .int pa, .int gu, .int cl, .int se, .int rf])), (hW, .inr (10, [.int (nI R), .int (nI C), .int (nI K), .int fi, .int di, .int br, .int li])), (hF, .inr (7, [.ref aB, .ref aS, .ref aN, .ref aM, .int ((F_X4_hold sc K fi he fB fN fM x1 x2).2.1), .int lu])), (aB, .inl ((D.1 101), 25, .inl fB)), (aS, .inl ((D.1 101), 25, .inl fS)), (aN, .inl ((D.1 101), 25, .inl ((F_X4_hold sc K fi he fB fN fM x1 x2).2.2.1))), (aM, .inl ((D.1 101), 25, .inl ((F_X4_hold sc K fi he fB fN fM x1 x2).2.2.2)))] t.heap ∧ va_D (va_A [(hX, .inr (11, [.ref hW, .ref hF, .ref hA_, .ref hT, .int (nI sc), .int pa, .int gu, .int cl, .int se, .int rf])), (hW, .inr (10, [.int (nI R), .int (nI C), .int (nI K), .int fi, .int di, .int br, .int li])), (hF, .inr (7, [.ref aB, .ref aS, .ref aN, .ref aM, .int he, .int lu])), (aB, .inl ((D.1 101), 25, .inl fB)), (aS, .inl ((D.1 101), 25, .inl fS)), (aN, .inl ((D.1 101), 25, .inl fN)), (aM, .inl ((D.1 101), 25, .inl fM))] s.heap.size) [(hX, .inr (11, [.ref hW, .ref hF, .ref hA_, .ref hT, .int (nI sc), .int pa, .int gu, .int cl, .int se, .int rf])), (hW, .inr (10, [.int (nI R), .int (nI C), .int (nI K), .int fi, .int di, .int br, .int li])), (hF, .inr (7, [.ref aB, .ref aS, .ref aN, .ref aM, .int ((F_X4_hold sc K fi he fB fN fM x1 x2).2.1), .int lu])), (aB, .inl ((D.1 101), 25, .inl fB)), (aS, .inl ((D.1 101), 25, .inl fS)), (aN, .inl ((D.1 101), 25, .inl ((F_X4_hold sc K fi he fB fN fM x1 x2).2.2.1))), (aM, .inl ((D.1 101), 25, .inl ((F_X4_hold sc K fi he fB fN fM x1 x2).2.2.2)))]) (va_A [(hX, .inr (11, [.ref hW, .ref hF, .ref hA_, .ref hT, .int (nI sc), .int pa, .int gu, .int cl, .int se, .int rf])), (hW, .inr (10, [.int (nI R), .int (nI C), .int (nI K), .int fi, .int di, .int br, .int li])), (hF, .inr (7, [.ref aB, .ref aS, .ref aN, .ref aM, .int he, .int lu])), (aB, .inl ((D.1 101), 25, .inl fB)), (aS, .inl ((D.1 101), 25, .inl fS)), (aN, .inl ((D.1 101), 25, .inl fN)), (aM, .inl ((D.1 101), 25, .inl fM))] s.heap.size)) (vx_X (fun _ : Unit => True) (fun (E : String) (_ : Unit) (_ : State) => (E_X4_hold K fi x1) ≠ 0 ∧ E = xname (E_X4_hold K fi x1)) (fun q : Nat => s.heap.size ≤ q)) ([.ref hX, .int x1, .int x2] : List Value).toArray s 1 6 (va_A [(hX, .inr (11, [.ref hW, .ref hF, .ref hA_, .ref hT, .int (nI sc), .int pa, .int gu, .int cl, .int se, .int rf])), (hW, .inr (10, [.int (nI R), .int (nI C), .int (nI K), .int fi, .int di, .int br, .int li])), (hF, .inr (7, [.ref aB, .ref aS, .ref aN, .ref aM, .int he, .int lu])), (aB, .inl ((D.1 101), 25, .inl fB)), (aS, .inl ((D.1 101), 25, .inl fS)), (aN, .inl ((D.1 101), 25, .inl fN)), (aM, .inl ((D.1 101), 25, .inl fM))] s.heap.size) = Q
  have hP : va_P D vwCl [(hX, .inr (11, [.ref hW, .ref hF, .ref hA_, .ref hT, .int (nI sc), .int pa, .int gu, .int cl, .int se, .int rf])), (hW, .inr (10, [.int (nI R), .int (nI C), .int (nI K), .int fi, .int di, .int br, .int li])), (hF, .inr (7, [.ref aB, .ref aS, .ref aN, .ref aM, .int he, .int lu])), (aB, .inl ((D.1 101), 25, .inl fB)), (aS, .inl ((D.1 101), 25, .inl fS)), (aN, .inl ((D.1 101), 25, .inl fN)), (aM, .inl ((D.1 101), 25, .inl fM))] s.heap := hP
  obtain ⟨A, hAe⟩ : ∃ A, A = va_A [(hX, .inr (11, [.ref hW, .ref hF, .ref hA_, .ref hT, .int (nI sc), .int pa, .int gu, .int cl, .int se, .int rf])), (hW, .inr (10, [.int (nI R), .int (nI C), .int (nI K), .int fi, .int di, .int br, .int li])), (hF, .inr (7, [.ref aB, .ref aS, .ref aN, .ref aM, .int he, .int lu])), (aB, .inl ((D.1 101), 25, .inl fB)), (aS, .inl ((D.1 101), 25, .inl fS)), (aN, .inl ((D.1 101), 25, .inl fN)), (aM, .inl ((D.1 101), 25, .inl fM))] s.heap.size := ⟨_, rfl⟩
  rw [← hAe] at hD hZ
  have hA : ∀ q : Nat, s.heap.size ≤ q → A q := fun q h => by rw [hAe]; exact Or.inr h
  obtain ⟨H, hHe⟩ : ∃ H, H = s.heap := ⟨_, rfl⟩
  obtain ⟨locs, hLe⟩ : ∃ L : List Loc, L = [] := ⟨_, rfl⟩
  have hP : va_P D vwCl [(hX, .inr (11, [.ref hW, .ref hF, .ref hA_, .ref hT, .int (nI sc), .int pa, .int gu, .int cl, .int se, .int rf])), (hW, .inr (10, [.int (nI R), .int (nI C), .int (nI K), .int fi, .int di, .int br, .int li])), (hF, .inr (7, [.ref aB, .ref aS, .ref aN, .ref aM, .int he, .int lu])), (aB, .inl ((D.1 101), 25, .inl fB)), (aS, .inl ((D.1 101), 25, .inl fS)), (aN, .inl ((D.1 101), 25, .inl fN)), (aM, .inl ((D.1 101), 25, .inl fM))] H := by rw [hHe]; exact hP
  have hS : va_S (fun q : Nat => s.heap.size ≤ q) s.heap H locs := by rw [hHe, hLe]; exact hS
  have hgoal : W p l e ({ frames := 6, cells := 1, slots := 6, locals := 90 } : Room) s m ([.ref hX, .int x1, .int x2] : List Value).toArray below meth c H locs 0 0 Q (F0 m 0 ls []) := by
    clear hHe hLe
    refine lv_aload_n hx hb dX4_hold_0 rfl (lv_at hl 0 rfl) ?_
    refine va_get (D := D) (ci := 11) (v := .ref hW) (C := RX4) (T := TX4) (N := 10) hx hb hts in_X4 hown hK hP 0 rfl rfl 0 (by decide) (hts _ q_655) (fun _ h9 => h9) rfl dX4_hold_1 ?_
    refine lv_iload_n hx hb dX4_hold_4 rfl (lv_at hl 1 rfl) ?_
    have hPc := hP.sub (ws' := [(hW, .inr (10, [.int (nI R), .int (nI C), .int (nI K), .int fi, .int di, .int br, .int li]))]) [1] rfl
    have hDc := hD.sub (ws' := [(hW, .inr (10, [.int (nI R), .int (nI C), .int (nI K), .int fi, .int di, .int br, .int li]))]) [1] (by decide) rfl
    have hFc := va_free (wc := [(hW, .inr (10, [.int (nI R), .int (nI C), .int (nI K), .int fi, .int di, .int br, .int li]))]) hD (va_S_up hS hA) hA [1] rfl
    refine va_calli (va_runVN (As := [.int x1]) (rest := []) ⟨hx, hb, hml, hown, hts⟩ (c_X3_hasKey l D hW R C K fi di br li x1 H.size ) ⟨va_cnB 1 hts (gi_sub q_877) rfl rfl rfl (hN.1 _ n_874) (hts _ q_81) (by decide +kernel) ⟨Nat.le_of_ble_eq_true rfl, Nat.le_of_ble_eq_true rfl⟩, (hts _ q_876), (hts _ q_28)⟩ ⟨cPre_blind, va_recv hK hP (ci := 10) (q0 := 1) rfl rfl, cPre_mk hPc hK hDc hN (lwZ_for hZ (va_S_up hS hA) hFc)⟩ rfl rfl hl.1 rfl (lv_room (Nat.le_of_ble_eq_true rfl)) dX4_hold_5 ⟨(show 0 + 0 ≤ 1 from (by omega)), (show 0 + 0 ≤ 6 from (by omega))⟩) hS (fun q h1 h2 => absurd h2 (Nat.not_le.mpr h1)) (fun q h => Nat.le_trans hS.1 h) (fun r_5 u t H1 locs ht hvm hw hBk hz1 hk1 hS => ?_)
    have hP := va_P_ro hP hk1
    obtain ⟨hw, z_1⟩ := hw
    rw [hw] at z_1
    subst hw
    clear hBk hvm ht u hz1 hk1
    clear hPc hDc hFc; clear t
    generalize H1 = H at hP hS ⊢
    refine lv_if_ne (tgt := 21) hx hb dX4_hold_8 (by decide) (fun c_2 => ?_) (fun c_2 => ?_)
    · refine lv_aload_n hx hb dX4_hold_21 rfl (lv_at hl 0 rfl) ?_
      refine va_get (D := D) (ci := 11) (v := .ref hW) (C := RX4) (T := TX4) (N := 10) hx hb hts in_X4 hown hK hP 0 rfl rfl 0 (by decide) (hts _ q_655) (fun _ h9 => h9) rfl dX4_hold_22 ?_
      refine va_getN (D := D) (ci := 10) (v := .int fi) (C := RX3) (T := TX3) (N := 7) hx hb hts in_X3 hown hK hP 1 rfl rfl 3 (by decide) (va_Nw.use rfl (hN.1 _ n_135)) (fun _ h9 => h9) rfl dX4_hold_25 ?_
      refine lv_iload_n hx hb dX4_hold_28 rfl (lv_at hl 1 rfl) ?_
      have hPc := hP.sub (ws' := []) [] rfl
      have hDc := hD.sub (ws' := []) [] (by decide) rfl
      have hFc := va_free (wc := []) hD (va_S_up hS hA) hA [] rfl
      refine va_calli (va_runS (As := [.int fi, .int x1]) (rest := []) ⟨hx, hb, hml, hown, hts⟩ (c_X4_holds l D fi x1 H.size ) (cwS 2 hts (gi_S q_801 q_712 q_80 q_713) rfl rfl rfl (by decide +kernel) ⟨Nat.le_of_ble_eq_true rfl, Nat.le_of_ble_eq_true rfl⟩) ⟨cPre_blind, cPre_mk hPc hK hDc hN (lwZ_for hZ (va_S_up hS hA) hFc)⟩ rfl rfl hl.1 rfl (lv_room (Nat.le_of_ble_eq_true rfl)) dX4_hold_29 ⟨(show 0 + 0 ≤ 1 from (by omega)), (show 0 + 0 ≤ 6 from (by omega))⟩) hS (fun q h1 h2 => absurd h2 (Nat.not_le.mpr h1)) (fun q h => Nat.le_trans hS.1 h) (fun r_29 u t H1 locs ht hvm hw hBk hz1 hk1 hS => ?_)
      have hP := va_P_ro hP hk1
      obtain ⟨hw, z_3⟩ := hw
      rw [hw] at z_3
      subst hw
      clear hBk hvm ht u hz1 hk1
      clear hPc hDc hFc; clear t
      generalize H1 = H at hP hS ⊢
      refine lv_if_ne (tgt := 45) hx hb dX4_hold_32 (by decide) (fun c_4 => ?_) (fun c_4 => ?_)
      · refine lv_aload_n hx hb dX4_hold_45 rfl (lv_at hl 0 rfl) ?_
        refine va_get (D := D) (ci := 11) (v := .ref hF) (C := RX4) (T := TX4) (N := 10) hx hb hts in_X4 hown hK hP 0 rfl rfl 1 (by decide) (hts _ q_656) (fun _ h9 => h9) rfl dX4_hold_46 ?_
        refine lv_iload_n hx hb dX4_hold_49 rfl (lv_at hl 1 rfl) ?_
        refine lv_iload_n hx hb dX4_hold_50 rfl (lv_at hl 2 rfl) ?_
        refine lv_aload_n hx hb dX4_hold_51 rfl (lv_at hl 0 rfl) ?_
        refine va_get (D := D) (ci := 11) (v := .int (nI sc)) (C := RX4) (T := TX4) (N := 10) hx hb hts in_X4 hown hK hP 0 rfl rfl 4 (by decide) (hts _ q_659) (fun _ h9 => h9) rfl dX4_hold_52 ?_
        have hPc := hP.sub (ws' := [(hF, .inr (7, [.ref aB, .ref aS, .ref aN, .ref aM, .int he, .int lu])), (aB, .inl ((D.1 101), 25, .inl fB)), (aS, .inl ((D.1 101), 25, .inl fS)), (aN, .inl ((D.1 101), 25, .inl fN)), (aM, .inl ((D.1 101), 25, .inl fM))]) [2, 3, 4, 5, 6] rfl
        have hDc := hD.sub (ws' := [(hF, .inr (7, [.ref aB, .ref aS, .ref aN, .ref aM, .int he, .int lu])), (aB, .inl ((D.1 101), 25, .inl fB)), (aS, .inl ((D.1 101), 25, .inl fS)), (aN, .inl ((D.1 101), 25, .inl fN)), (aM, .inl ((D.1 101), 25, .inl fM))]) [2, 3, 4, 5, 6] (by decide) rfl
        have hS := va_S_up hS hA
        have hFc := va_free (wc := [(hF, .inr (7, [.ref aB, .ref aS, .ref aN, .ref aM, .int he, .int lu])), (aB, .inl ((D.1 101), 25, .inl fB)), (aS, .inl ((D.1 101), 25, .inl fS)), (aN, .inl ((D.1 101), 25, .inl fN)), (aM, .inl ((D.1 101), 25, .inl fM))]) hD hS hA [2, 3, 4, 5, 6] rfl
        refine va_callv (va_runVN (As := [.int x1, .int x2, .int (nI sc)]) (rest := []) ⟨hx, hb, hml, hown, hts⟩ (c_X0_move l D hF aB aS aN aM fB fS fN fM he lu x1.toNatClampNeg x2 (nI sc) x1 H.size (show x1.toNatClampNeg < 25 from (Nat.lt_of_lt_of_le (hasKey_ok (by assumption) hKb).2.1 hKb)) (show x1 = nI x1.toNatClampNeg from (hasKey_ok (by assumption) hKb).1)) ⟨va_cnB 3 hts (gi_sub q_903) rfl rfl rfl (hN.1 _ n_900) (hts _ q_82) (by decide +kernel) ⟨Nat.le_of_ble_eq_true rfl, Nat.le_of_ble_eq_true rfl⟩, (hts _ q_902), (hts _ q_31)⟩ ⟨cPre_blind, va_recv hK hP (ci := 7) (q0 := 2) rfl rfl, cPre_mk hPc hK hDc hN (lwZ_for hZ hS hFc)⟩ rfl rfl hl.1 rfl (lv_room (Nat.le_of_ble_eq_true rfl)) dX4_hold_55 ⟨(show 0 + 0 ≤ 1 from (by omega)), (show 0 + 0 ≤ 6 from (by omega))⟩) hS (fun q _ h => hFc q h) hFc (fun u t H1 locs ht hvm hw hBk hz1 hk1 hS => ?_)
        obtain ⟨hP1, hD1⟩ := hBk
        rw [ht] at hP1
        obtain ⟨hP, hD⟩ := va_join (wr := [(hX, .inr (11, [.ref hW, .ref hF, .ref hA_, .ref hT, .int (nI sc), .int pa, .int gu, .int cl, .int se, .int rf])), (hW, .inr (10, [.int (nI R), .int (nI C), .int (nI K), .int fi, .int di, .int br, .int li]))]) (w1 := [(hF, .inr (7, [.ref aB, .ref aS, .ref aN, .ref aM, .int ((F_X0_move fB fN fM he x1.toNatClampNeg x2 (nI sc)).1), .int lu])), (aB, .inl ((D.1 101), 25, .inl fB)), (aS, .inl ((D.1 101), 25, .inl fS)), (aN, .inl ((D.1 101), 25, .inl ((F_X0_move fB fN fM he x1.toNatClampNeg x2 (nI sc)).2.1))), (aM, .inl ((D.1 101), 25, .inl ((F_X0_move fB fN fM he x1.toNatClampNeg x2 (nI sc)).2.2)))]) hP hD [2, 3, 4, 5, 6] [0, 1] rfl rfl (by decide) (by decide) hk1 hFc hP1 hD1
        clear hPc hDc hFc hP1 hD1 hk1 hz1
        clear hvm ht u; clear t
        generalize H1 = H at hP hS ⊢
        have hP : va_P D vwCl [(hX, .inr (11, [.ref hW, .ref hF, .ref hA_, .ref hT, .int (nI sc), .int pa, .int gu, .int cl, .int se, .int rf])), (hW, .inr (10, [.int (nI R), .int (nI C), .int (nI K), .int fi, .int di, .int br, .int li])), (hF, .inr (7, [.ref aB, .ref aS, .ref aN, .ref aM, .int ((F_X0_move fB fN fM he x1.toNatClampNeg x2 (nI sc)).1), .int lu])), (aB, .inl ((D.1 101), 25, .inl fB)), (aS, .inl ((D.1 101), 25, .inl fS)), (aN, .inl ((D.1 101), 25, .inl ((F_X0_move fB fN fM he x1.toNatClampNeg x2 (nI sc)).2.1))), (aM, .inl ((D.1 101), 25, .inl ((F_X0_move fB fN fM he x1.toNatClampNeg x2 (nI sc)).2.2)))] H := hP
        have hD : va_D A [(hX, .inr (11, [.ref hW, .ref hF, .ref hA_, .ref hT, .int (nI sc), .int pa, .int gu, .int cl, .int se, .int rf])), (hW, .inr (10, [.int (nI R), .int (nI C), .int (nI K), .int fi, .int di, .int br, .int li])), (hF, .inr (7, [.ref aB, .ref aS, .ref aN, .ref aM, .int ((F_X0_move fB fN fM he x1.toNatClampNeg x2 (nI sc)).1), .int lu])), (aB, .inl ((D.1 101), 25, .inl fB)), (aS, .inl ((D.1 101), 25, .inl fS)), (aN, .inl ((D.1 101), 25, .inl ((F_X0_move fB fN fM he x1.toNatClampNeg x2 (nI sc)).2.1))), (aM, .inl ((D.1 101), 25, .inl ((F_X0_move fB fN fM he x1.toNatClampNeg x2 (nI sc)).2.2)))] := hD
        refine lv_aload_n hx hb dX4_hold_58 rfl (lv_at hl 0 rfl) ?_
        refine va_get (D := D) (ci := 11) (v := .ref hF) (C := RX4) (T := TX4) (N := 10) hx hb hts in_X4 hown hK hP 0 rfl rfl 1 (by decide) (hts _ q_656) (fun _ h9 => h9) rfl dX4_hold_59 ?_
        refine va_getN (D := D) (ci := 7) (v := .int ((F_X0_move fB fN fM he x1.toNatClampNeg x2 (nI sc)).1)) (C := RX0) (T := TX0) (N := 6) hx hb hts in_X0 hown hK hP 2 rfl rfl 4 (by decide) (va_Nw.use rfl (hN.1 _ n_171)) (fun _ h9 => h9) rfl dX4_hold_62 ?_
        have hPc := hP.sub (ws' := []) [] rfl
        have hDc := hD.sub (ws' := []) [] (by decide) rfl
        have hFc := va_free (wc := []) hD hS hA [] rfl
        refine va_calli (va_runS (As := [.int ((F_X0_move fB fN fM he x1.toNatClampNeg x2 (nI sc)).1)]) (rest := []) ⟨hx, hb, hml, hown, hts⟩ (c_J6_bitCount_0f7a4 l D ((F_X0_move fB fN fM he x1.toNatClampNeg x2 (nI sc)).1) H.size ) ⟨callB_of 1 hts (gi_sub q_728) rfl rfl rfl (hts _ q_101) (hts _ q_792) (by decide +kernel) ⟨Nat.le_of_ble_eq_true rfl, Nat.le_of_ble_eq_true rfl⟩, (hts _ q_727)⟩ ⟨cPre_blind, cPre_mk hPc hK hDc hN (lwZ_for hZ hS hFc)⟩ rfl rfl hl.1 rfl (lv_room (Nat.le_of_ble_eq_true rfl)) dX4_hold_65 ⟨(show 0 + 0 ≤ 1 from (by omega)), (show 0 + 0 ≤ 6 from (by omega))⟩) hS (fun q h1 h2 => absurd h2 (Nat.not_le.mpr h1)) (fun q h => hA q (Nat.le_trans hS.1 h)) (fun r_65 u t H1 locs ht hvm hw hBk hz1 hk1 hS => ?_)
        have hP := va_P_ro hP hk1
        subst hw
        clear hBk hvm ht u hz1 hk1
        clear hPc hDc hFc; clear t
        generalize H1 = H at hP hS ⊢
        subst hQe
        refine vx_ret ?_
        subst hAe
        have hE : (F_X4_hold sc K fi he fB fN fM x1 x2) = (F_J6_bitCount_0f7a4 ((F_X0_move fB fN fM he x1.toNatClampNeg x2 (nI sc)).1), (F_X0_move fB fN fM he x1.toNatClampNeg x2 (nI sc)).1, (F_X0_move fB fN fM he x1.toNatClampNeg x2 (nI sc)).2.1, (F_X0_move fB fN fM he x1.toNatClampNeg x2 (nI sc)).2.2) := (by unfold F_X4_hold; rw [if_neg c_2, if_neg c_4])
        have hE9 : (E_X4_hold K fi x1) = 0 := (by unfold E_X4_hold; rw [if_neg c_2, if_neg c_4])
        refine W.widen (k := 1) (n := 6) (by omega) (by omega) ?_
        have hP9 := hP.sub (ws' := [(hX, .inr (11, [.ref hW, .ref hF, .ref hA_, .ref hT, .int (nI sc), .int pa, .int gu, .int cl, .int se, .int rf])), (hW, .inr (10, [.int (nI R), .int (nI C), .int (nI K), .int fi, .int di, .int br, .int li])), (hF, .inr (7, [.ref aB, .ref aS, .ref aN, .ref aM, .int ((F_X0_move fB fN fM he x1.toNatClampNeg x2 (nI sc)).1), .int lu])), (aB, .inl ((D.1 101), 25, .inl fB)), (aS, .inl ((D.1 101), 25, .inl fS)), (aN, .inl ((D.1 101), 25, .inl ((F_X0_move fB fN fM he x1.toNatClampNeg x2 (nI sc)).2.1))), (aM, .inl ((D.1 101), 25, .inl ((F_X0_move fB fN fM he x1.toNatClampNeg x2 (nI sc)).2.2)))]) [0, 1, 2, 3, 4, 5, 6] rfl
        have hD9 := hD.sub (ws' := [(hX, .inr (11, [.ref hW, .ref hF, .ref hA_, .ref hT, .int (nI sc), .int pa, .int gu, .int cl, .int se, .int rf])), (hW, .inr (10, [.int (nI R), .int (nI C), .int (nI K), .int fi, .int di, .int br, .int li])), (hF, .inr (7, [.ref aB, .ref aS, .ref aN, .ref aM, .int ((F_X0_move fB fN fM he x1.toNatClampNeg x2 (nI sc)).1), .int lu])), (aB, .inl ((D.1 101), 25, .inl fB)), (aS, .inl ((D.1 101), 25, .inl fS)), (aN, .inl ((D.1 101), 25, .inl ((F_X0_move fB fN fM he x1.toNatClampNeg x2 (nI sc)).2.1))), (aM, .inl ((D.1 101), 25, .inl ((F_X0_move fB fN fM he x1.toNatClampNeg x2 (nI sc)).2.2)))]) [0, 1, 2, 3, 4, 5, 6] (by decide) rfl
        exact W.iret (v := F_J6_bitCount_0f7a4 ((F_X0_move fB fN fM he x1.toNatClampNeg x2 (nI sc)).1)) hx hb hr (fun t ht hW => ⟨⟨F_J6_bitCount_0f7a4 ((F_X0_move fB fN fM he x1.toNatClampNeg x2 (nI sc)).1), (), rfl, ⟨(by rw [hE]), hE9⟩, (by (try rw [hE]); rw [ht]; exact hP9), (by (try rw [hE]); exact hD9)⟩, hS.F ht⟩) hS.2.2 dX4_hold_68
      · subst hQe
        subst hAe
        obtain ⟨sa, hstr⟩ := hN.2 _ (List.mem_of_getElem? (i := 8) rfl)
        have hE9 : (E_X4_hold K fi x1) = 3 := (by unfold E_X4_hold; rw [if_neg c_2, if_pos c_4])
        exact vx_throwS (own := RX4) (cls := "java/lang/IllegalStateException") (text := "the key is not fitted") (names := ["java/lang/RuntimeException", "java/lang/Exception"]) hx hb hst hown (by decide +kernel) (by decide +kernel) (hts _ q_943) (hts _ q_111) hstr (at_3_hat hts hN.1) at_3_ot hZ.2.2.1 hZ.2.2.2 (va_S_up hS hA) (hl.1.trans hml.symm) dX4_hold_35 dX4_hold_38 dX4_hold_39 dX4_hold_41 dX4_hold_44 (fun x h => (hno x h).elim) (Nat.le_of_ble_eq_true rfl) (Nat.le_of_ble_eq_true rfl) (show 0 + 1 ≤ 1 from by omega) (show 0 + 6 ≤ 6 from by omega) hlocks (fun t hv hz hk => ⟨(), trivial, ⟨by rw [hE9]; decide, by rw [hE9]; rfl⟩, Nat.le_trans hS.1 hz, fun q h1 h2 => (hk q (Nat.lt_of_lt_of_le h1 hS.1)).trans (hS.2.1 q h1 h2)⟩) (fun z hz => Or.inr (hS.2.2 z hz)) (show 0 + 1 ≤ 1 from by omega) (show 0 + 6 ≤ 6 from by omega)
    · subst hQe
      subst hAe
      obtain ⟨sa, hstr⟩ := hN.2 _ (List.mem_of_getElem? (i := 1) rfl)
      have hE9 : (E_X4_hold K fi x1) = 2 := (by unfold E_X4_hold; rw [if_pos c_2])
      exact vx_throwS (own := RX4) (cls := "java/lang/IndexOutOfBoundsException") (text := "no such key") (names := ["java/lang/RuntimeException", "java/lang/Exception"]) hx hb hst hown (by decide +kernel) (by decide +kernel) (hts _ q_878) (hts _ q_92) hstr (at_2_hat hts hN.1) at_2_ot hZ.2.2.1 hZ.2.2.2 (va_S_up hS hA) (hl.1.trans hml.symm) dX4_hold_11 dX4_hold_14 dX4_hold_15 dX4_hold_17 dX4_hold_20 (fun x h => (hno x h).elim) (Nat.le_of_ble_eq_true rfl) (Nat.le_of_ble_eq_true rfl) (show 0 + 1 ≤ 1 from by omega) (show 0 + 6 ≤ 6 from by omega) hlocks (fun t hv hz hk => ⟨(), trivial, ⟨by rw [hE9]; decide, by rw [hE9]; rfl⟩, Nat.le_trans hS.1 hz, fun q h1 h2 => (hk q (Nat.lt_of_lt_of_le h1 hS.1)).trans (hS.2.1 q h1 h2)⟩) (fun z hz => Or.inr (hS.2.2 z hz)) (show 0 + 1 ≤ 1 from by omega) (show 0 + 6 ≤ 6 from by omega)
  rw [hHe, hLe] at hgoal
  exact hgoal

def E_X4_of (K : Nat) (x1 : Int32) (x2 : Int32) : Nat := (if (F_X3_hasKey K x1) = 0 then 2 else (if x2 < 0 then 1 else (if x2 ≤ 10 then 0 else 1)))
def F_X4_of (K : Nat) (fi : Int32) (di : Int32) (he : Int32) (dn : Int32) (fB : Nat → Int32) (fS : Nat → Int32) (fN : Nat → Int32) (fM : Nat → Int32) (fCn : Nat → Int32) (fE : Nat → Int32) (fLE : Nat → Int32) (fG : Nat → Int32) (x1 : Int32) (x2 : Int32) : Int32 := (if (F_X3_hasKey K x1) = 0 then 0 else (if x2 < 0 then 0 else (if x2 ≤ 10 then F_X4_tellOf fi di he dn fB fS fN fM fCn fE fLE fG x1.toNatClampNeg x2.toNatClampNeg else 0)))
set_option maxHeartbeats 4000000 in
set_option maxRecDepth 100000 in
theorem c_X4_of (l : Launch) (D : va_G) (hX : Nat) (hW : Nat) (hF : Nat) (hA_ : Nat) (hT : Nat) (sc : Nat) (pa : Int32) (gu : Int32) (cl : Int32) (se : Int32) (rf : Int32) (R : Nat) (C : Nat) (K : Nat) (fi : Int32) (di : Int32) (br : Int32) (li : Int32) (aB : Nat) (aS : Nat) (aN : Nat) (aM : Nat) (he : Int32) (lu : Int32) (aCn : Nat) (aE : Nat) (aLE : Nat) (dn : Int32) (ea : Int32) (aC : Nat) (aG : Nat) (aI : Nat) (hB : Nat) (aK : Nat) (aL : Nat) (aQ : Nat) (lo : Int32) (Ch : Nat) (ct : Int32) (fB : Nat → Int32) (fS : Nat → Int32) (fN : Nat → Int32) (fM : Nat → Int32) (fCn : Nat → Int32) (fE : Nat → Int32) (fLE : Nat → Int32) (fG : Nat → Int32) (x1 : Int32) (x2 : Int32) (sz : Nat) (hst : l.stackTraces = false) (hKb : K ≤ 25) : vx_Met l yX4_of (Cond.code yX4_of cX4_of 3 (some .int) :: lwAll) ({ frames := 6, cells := 1, slots := 6, locals := 90 } : Room) (va_Pc [.ref hX, .int x1, .int x2] (cPre D (lwTY D) [(hX, .inr (11, [.ref hW, .ref hF, .ref hA_, .ref hT, .int (nI sc), .int pa, .int gu, .int cl, .int se, .int rf])), (hW, .inr (10, [.int (nI R), .int (nI C), .int (nI K), .int fi, .int di, .int br, .int li])), (hF, .inr (7, [.ref aB, .ref aS, .ref aN, .ref aM, .int he, .int lu])), (hA_, .inr (9, [.ref aCn, .ref aE, .ref aLE, .int dn, .int ea])), (hT, .inr (8, [.ref aC, .ref aG, .ref aI, .ref hB, .int lo, .ref aK, .ref aL, .ref aQ, .int (nI Ch), .int ct])), (aB, .inl ((D.1 101), 25, .inl fB)), (aS, .inl ((D.1 101), 25, .inl fS)), (aN, .inl ((D.1 101), 25, .inl fN)), (aM, .inl ((D.1 101), 25, .inl fM)), (aCn, .inl ((D.1 101), 25, .inl fCn)), (aE, .inl ((D.1 101), 25, .inl fE)), (aLE, .inl ((D.1 101), 25, .inl fLE)), (aG, .inl ((D.1 101), 25, .inl fG))] sz)) (va_Qi (fun (r : Int32) (_ : Unit) => r = (F_X4_of K fi di he dn fB fS fN fM fCn fE fLE fG x1 x2) ∧ (E_X4_of K x1 x2) = 0) (fun (_ : Unit) t => va_P D vwCl [(hX, .inr (11, [.ref hW, .ref hF, .ref hA_, .ref hT, .int (nI sc), .int pa, .int gu, .int cl, .int se, .int rf])), (hW, .inr (10, [.int (nI R), .int (nI C), .int (nI K), .int fi, .int di, .int br, .int li])), (hF, .inr (7, [.ref aB, .ref aS, .ref aN, .ref aM, .int he, .int lu])), (hA_, .inr (9, [.ref aCn, .ref aE, .ref aLE, .int dn, .int ea])), (hT, .inr (8, [.ref aC, .ref aG, .ref aI, .ref hB, .int lo, .ref aK, .ref aL, .ref aQ, .int (nI Ch), .int ct])), (aB, .inl ((D.1 101), 25, .inl fB)), (aS, .inl ((D.1 101), 25, .inl fS)), (aN, .inl ((D.1 101), 25, .inl fN)), (aM, .inl ((D.1 101), 25, .inl fM)), (aCn, .inl ((D.1 101), 25, .inl fCn)), (aE, .inl ((D.1 101), 25, .inl fE)), (aLE, .inl ((D.1 101), 25, .inl fLE)), (aG, .inl ((D.1 101), 25, .inl fG))] t.heap ∧ va_D (va_A [(hX, .inr (11, [.ref hW, .ref hF, .ref hA_, .ref hT, .int (nI sc), .int pa, .int gu, .int cl, .int se, .int rf])), (hW, .inr (10, [.int (nI R), .int (nI C), .int (nI K), .int fi, .int di, .int br, .int li])), (hF, .inr (7, [.ref aB, .ref aS, .ref aN, .ref aM, .int he, .int lu])), (hA_, .inr (9, [.ref aCn, .ref aE, .ref aLE, .int dn, .int ea])), (hT, .inr (8, [.ref aC, .ref aG, .ref aI, .ref hB, .int lo, .ref aK, .ref aL, .ref aQ, .int (nI Ch), .int ct])), (aB, .inl ((D.1 101), 25, .inl fB)), (aS, .inl ((D.1 101), 25, .inl fS)), (aN, .inl ((D.1 101), 25, .inl fN)), (aM, .inl ((D.1 101), 25, .inl fM)), (aCn, .inl ((D.1 101), 25, .inl fCn)), (aE, .inl ((D.1 101), 25, .inl fE)), (aLE, .inl ((D.1 101), 25, .inl fLE)), (aG, .inl ((D.1 101), 25, .inl fG))] sz) [(hX, .inr (11, [.ref hW, .ref hF, .ref hA_, .ref hT, .int (nI sc), .int pa, .int gu, .int cl, .int se, .int rf])), (hW, .inr (10, [.int (nI R), .int (nI C), .int (nI K), .int fi, .int di, .int br, .int li])), (hF, .inr (7, [.ref aB, .ref aS, .ref aN, .ref aM, .int he, .int lu])), (hA_, .inr (9, [.ref aCn, .ref aE, .ref aLE, .int dn, .int ea])), (hT, .inr (8, [.ref aC, .ref aG, .ref aI, .ref hB, .int lo, .ref aK, .ref aL, .ref aQ, .int (nI Ch), .int ct])), (aB, .inl ((D.1 101), 25, .inl fB)), (aS, .inl ((D.1 101), 25, .inl fS)), (aN, .inl ((D.1 101), 25, .inl fN)), (aM, .inl ((D.1 101), 25, .inl fM)), (aCn, .inl ((D.1 101), 25, .inl fCn)), (aE, .inl ((D.1 101), 25, .inl fE)), (aLE, .inl ((D.1 101), 25, .inl fLE)), (aG, .inl ((D.1 101), 25, .inl fG))]) (va_A [(hX, .inr (11, [.ref hW, .ref hF, .ref hA_, .ref hT, .int (nI sc), .int pa, .int gu, .int cl, .int se, .int rf])), (hW, .inr (10, [.int (nI R), .int (nI C), .int (nI K), .int fi, .int di, .int br, .int li])), (hF, .inr (7, [.ref aB, .ref aS, .ref aN, .ref aM, .int he, .int lu])), (hA_, .inr (9, [.ref aCn, .ref aE, .ref aLE, .int dn, .int ea])), (hT, .inr (8, [.ref aC, .ref aG, .ref aI, .ref hB, .int lo, .ref aK, .ref aL, .ref aQ, .int (nI Ch), .int ct])), (aB, .inl ((D.1 101), 25, .inl fB)), (aS, .inl ((D.1 101), 25, .inl fS)), (aN, .inl ((D.1 101), 25, .inl fN)), (aM, .inl ((D.1 101), 25, .inl fM)), (aCn, .inl ((D.1 101), 25, .inl fCn)), (aE, .inl ((D.1 101), 25, .inl fE)), (aLE, .inl ((D.1 101), 25, .inl fLE)), (aG, .inl ((D.1 101), 25, .inl fG))] sz)) (vx_X (fun _ : Unit => True) (fun (E : String) (_ : Unit) (_ : State) => (E_X4_of K x1 x2) ≠ 0 ∧ E = xname (E_X4_of K x1 x2)) (fun q : Nat => sz ≤ q)) 1 6 (va_A [(hX, .inr (11, [.ref hW, .ref hF, .ref hA_, .ref hT, .int (nI sc), .int pa, .int gu, .int cl, .int se, .int rf])), (hW, .inr (10, [.int (nI R), .int (nI C), .int (nI K), .int fi, .int di, .int br, .int li])), (hF, .inr (7, [.ref aB, .ref aS, .ref aN, .ref aM, .int he, .int lu])), (hA_, .inr (9, [.ref aCn, .ref aE, .ref aLE, .int dn, .int ea])), (hT, .inr (8, [.ref aC, .ref aG, .ref aI, .ref hB, .int lo, .ref aK, .ref aL, .ref aQ, .int (nI Ch), .int ct])), (aB, .inl ((D.1 101), 25, .inl fB)), (aS, .inl ((D.1 101), 25, .inl fS)), (aN, .inl ((D.1 101), 25, .inl fN)), (aM, .inl ((D.1 101), 25, .inl fM)), (aCn, .inl ((D.1 101), 25, .inl fCn)), (aE, .inl ((D.1 101), 25, .inl fE)), (aLE, .inl ((D.1 101), 25, .inl fLE)), (aG, .inl ((D.1 101), 25, .inl fG))] sz) := by
  refine vx_ofW (cc := cX4_of) (maxL := 3) (ret := (some .int)) (by decide) rfl ?_
  intro p e s m args below meth c s₁ B hml hno hv
  obtain ⟨rfl, hsz, hP, hK, hD0, hN, hZ⟩ := hv
  have hx := B.exec
  have hb := B.bytes
  have hr := B.returns
  have hts : ∀ wd ∈ lwAll, wd.before ([.ref hX, .int x1, .int x2] : List Value).toArray s = true := fun wd h => atoms_spec (ws := (Cond.code yX4_of cX4_of 3 (some .int) :: lwAll)) B.pre wd (List.mem_cons_of_mem _ h)
  have hown : s.vm.findClass RX4 = some m.cls := findClass_of_methodNamed B.named
  have hlocks := B.notSynchronized
  subst hsz
  have hD := hD0.self (sz := s.heap.size)
  have hl := lv_entry ([.ref hX, .int x1, .int x2]) (n := 3) (Nat.le_of_ble_eq_true rfl)
  rw [lg_entry_eq]
  generalize (lg_sl ([.ref hX, .int x1, .int x2]) ++ List.replicate (3 - (lg_sl ([.ref hX, .int x1, .int x2])).length) Slot.unset).toArray = ls at hl ⊢
  have hl : lv_has ls 3 [(0, .ref hX), (1, .int x1), (2, .int x2)] := hl
  have hS : va_S (fun q : Nat => s.heap.size ≤ q) s.heap s.heap [] := va_S.rf
  generalize hQe : vx_MQ below (va_Qi (fun (r : Int32) (_ : Unit) => r = (F_X4_of K fi di he dn fB fS fN fM fCn fE fLE fG x1 x2) ∧ (E_X4_of K x1 x2) = 0) (fun (_ : Unit) t => va_P D vwCl [(hX, .inr (11, [.ref hW, .ref hF, .ref hA_, .ref hT, .int (nI sc), .int pa, .int gu, .int cl, .int se, .int rf])), (hW, .inr (10, [.int (nI R), .int (nI C), .int (nI K), .int fi, .int di, .int br, .int li])), (hF, .inr (7, [.ref aB, .ref aS, .ref aN, .ref aM, .int he, .int lu])), (hA_, .inr (9, [.ref aCn, .ref aE, .ref aLE, .int dn, .int ea])), (hT, .inr (8, [.ref aC, .ref aG, .ref aI, .ref hB, .int lo, .ref aK, .ref aL, .ref aQ, .int (nI Ch), .int ct])), (aB, .inl ((D.1 101), 25, .inl fB)), (aS, .inl ((D.1 101), 25, .inl fS)), (aN, .inl ((D.1 101), 25, .inl fN)), (aM, .inl ((D.1 101), 25, .inl fM)), (aCn, .inl ((D.1 101), 25, .inl fCn)), (aE, .inl ((D.1 101), 25, .inl fE)), (aLE, .inl ((D.1 101), 25, .inl fLE)), (aG, .inl ((D.1 101), 25, .inl fG))] t.heap ∧ va_D (va_A [(hX, .inr (11, [.ref hW, .ref hF, .ref hA_, .ref hT, .int (nI sc), .int pa, .int gu, .int cl, .int se, .int rf])), (hW, .inr (10, [.int (nI R), .int (nI C), .int (nI K), .int fi, .int di, .int br, .int li])), (hF, .inr (7, [.ref aB, .ref aS, .ref aN, .ref aM, .int he, .int lu])), (hA_, .inr (9, [.ref aCn, .ref aE, .ref aLE, .int dn, .int ea])), (hT, .inr (8, [.ref aC, .ref aG, .ref aI, .ref hB, .int lo, .ref aK, .ref aL, .ref aQ, .int (nI Ch), .int ct])), (aB, .inl ((D.1 101), 25, .inl fB)), (aS, .inl ((D.1 101), 25, .inl fS)), (aN, .inl ((D.1 101), 25, .inl fN)), (aM, .inl ((D.1 101), 25, .inl fM)), (aCn, .inl ((D.1 101), 25, .inl fCn)), (aE, .inl ((D.1 101), 25, .inl fE)), (aLE, .inl ((D.1 101), 25, .inl fLE)), (aG, .inl ((D.1 101), 25, .inl fG))] s.heap.size) [(hX, .inr (11, [.ref hW, .ref hF, .ref hA_, .ref hT, .int (nI sc), .int pa, .int gu, .int cl, .int se, .int rf])), (hW, .inr (10, [.int (nI R), .int (nI C), .int (nI K), .int fi, .int di, .int br, .int li])), (hF, .inr (7, [.ref aB, .ref aS, .ref aN, .ref aM, .int he, .int lu])), (hA_, .inr (9, [.ref aCn, .ref aE, .ref aLE, .int dn, .int ea])), (hT, .inr (8, [.ref aC, .ref aG, .ref aI, .ref hB, .int lo, .ref aK, .ref aL, .ref aQ, .int (nI Ch), .int ct])), (aB, .inl ((D.1 101), 25, .inl fB)), (aS, .inl ((D.1 101), 25, .inl fS)), (aN, .inl ((D.1 101), 25, .inl fN)), (aM, .inl ((D.1 101), 25, .inl fM)), (aCn, .inl ((D.1 101), 25, .inl fCn)), (aE, .inl ((D.1 101), 25, .inl fE)), (aLE, .inl ((D.1 101), 25, .inl fLE)), (aG, .inl ((D.1 101), 25, .inl fG))]) (va_A [(hX, .inr (11, [.ref hW, .ref hF, .ref hA_, .ref hT, .int (nI sc), .int pa, .int gu, .int cl, .int se, .int rf])), (hW, .inr (10, [.int (nI R), .int (nI C), .int (nI K), .int fi, .int di, .int br, .int li])), (hF, .inr (7, [.ref aB, .ref aS, .ref aN, .ref aM, .int he, .int lu])), (hA_, .inr (9, [.ref aCn, .ref aE, .ref aLE, .int dn, .int ea])), (hT, .inr (8, [.ref aC, .ref aG, .ref aI, .ref hB, .int lo, .ref aK, .ref aL, .ref aQ, .int (nI Ch), .int ct])), (aB, .inl ((D.1 101), 25, .inl fB)), (aS, .inl ((D.1 101), 25, .inl fS)), (aN, .inl ((D.1 101), 25, .inl fN)), (aM, .inl ((D.1 101), 25, .inl fM)), (aCn, .inl ((D.1 101), 25, .inl fCn)), (aE, .inl ((D.1 101), 25, .inl fE)), (aLE, .inl ((D.1 101), 25, .inl fLE)), (aG, .inl ((D.1 101), 25, .inl fG))] s.heap.size)) (vx_X (fun _ : Unit => True) (fun (E : String) (_ : Unit) (_ : State) => (E_X4_of K x1 x2) ≠ 0 ∧ E = xname (E_X4_of K x1 x2)) (fun q : Nat => s.heap.size ≤ q)) ([.ref hX, .int x1, .int x2] : List Value).toArray s 1 6 (va_A [(hX, .inr (11, [.ref hW, .ref hF, .ref hA_, .ref hT, .int (nI sc), .int pa, .int gu, .int cl, .int se, .int rf])), (hW, .inr (10, [.int (nI R), .int (nI C), .int (nI K), .int fi, .int di, .int br, .int li])), (hF, .inr (7, [.ref aB, .ref aS, .ref aN, .ref aM, .int he, .int lu])), (hA_, .inr (9, [.ref aCn, .ref aE, .ref aLE, .int dn, .int ea])), (hT, .inr (8, [.ref aC, .ref aG, .ref aI, .ref hB, .int lo, .ref aK, .ref aL, .ref aQ, .int (nI Ch), .int ct])), (aB, .inl ((D.1 101), 25, .inl fB)), (aS, .inl ((D.1 101), 25, .inl fS)), (aN, .inl ((D.1 101), 25, .inl fN)), (aM, .inl ((D.1 101), 25, .inl fM)), (aCn, .inl ((D.1 101), 25, .inl fCn)), (aE, .inl ((D.1 101), 25, .inl fE)), (aLE, .inl ((D.1 101), 25, .inl fLE)), (aG, .inl ((D.1 101), 25, .inl fG))] s.heap.size) = Q
  have hP : va_P D vwCl [(hX, .inr (11, [.ref hW, .ref hF, .ref hA_, .ref hT, .int (nI sc), .int pa, .int gu, .int cl, .int se, .int rf])), (hW, .inr (10, [.int (nI R), .int (nI C), .int (nI K), .int fi, .int di, .int br, .int li])), (hF, .inr (7, [.ref aB, .ref aS, .ref aN, .ref aM, .int he, .int lu])), (hA_, .inr (9, [.ref aCn, .ref aE, .ref aLE, .int dn, .int ea])), (hT, .inr (8, [.ref aC, .ref aG, .ref aI, .ref hB, .int lo, .ref aK, .ref aL, .ref aQ, .int (nI Ch), .int ct])), (aB, .inl ((D.1 101), 25, .inl fB)), (aS, .inl ((D.1 101), 25, .inl fS)), (aN, .inl ((D.1 101), 25, .inl fN)), (aM, .inl ((D.1 101), 25, .inl fM)), (aCn, .inl ((D.1 101), 25, .inl fCn)), (aE, .inl ((D.1 101), 25, .inl fE)), (aLE, .inl ((D.1 101), 25, .inl fLE)), (aG, .inl ((D.1 101), 25, .inl fG))] s.heap := hP
  obtain ⟨A, hAe⟩ : ∃ A, A = va_A [(hX, .inr (11, [.ref hW, .ref hF, .ref hA_, .ref hT, .int (nI sc), .int pa, .int gu, .int cl, .int se, .int rf])), (hW, .inr (10, [.int (nI R), .int (nI C), .int (nI K), .int fi, .int di, .int br, .int li])), (hF, .inr (7, [.ref aB, .ref aS, .ref aN, .ref aM, .int he, .int lu])), (hA_, .inr (9, [.ref aCn, .ref aE, .ref aLE, .int dn, .int ea])), (hT, .inr (8, [.ref aC, .ref aG, .ref aI, .ref hB, .int lo, .ref aK, .ref aL, .ref aQ, .int (nI Ch), .int ct])), (aB, .inl ((D.1 101), 25, .inl fB)), (aS, .inl ((D.1 101), 25, .inl fS)), (aN, .inl ((D.1 101), 25, .inl fN)), (aM, .inl ((D.1 101), 25, .inl fM)), (aCn, .inl ((D.1 101), 25, .inl fCn)), (aE, .inl ((D.1 101), 25, .inl fE)), (aLE, .inl ((D.1 101), 25, .inl fLE)), (aG, .inl ((D.1 101), 25, .inl fG))] s.heap.size := ⟨_, rfl⟩
  rw [← hAe] at hD hZ
  have hA : ∀ q : Nat, s.heap.size ≤ q → A q := fun q h => by rw [hAe]; exact Or.inr h
  obtain ⟨H, hHe⟩ : ∃ H, H = s.heap := ⟨_, rfl⟩
  obtain ⟨locs, hLe⟩ : ∃ L : List Loc, L = [] := ⟨_, rfl⟩
  have hP : va_P D vwCl [(hX, .inr (11, [.ref hW, .ref hF, .ref hA_, .ref hT, .int (nI sc), .int pa, .int gu, .int cl, .int se, .int rf])), (hW, .inr (10, [.int (nI R), .int (nI C), .int (nI K), .int fi, .int di, .int br, .int li])), (hF, .inr (7, [.ref aB, .ref aS, .ref aN, .ref aM, .int he, .int lu])), (hA_, .inr (9, [.ref aCn, .ref aE, .ref aLE, .int dn, .int ea])), (hT, .inr (8, [.ref aC, .ref aG, .ref aI, .ref hB, .int lo, .ref aK, .ref aL, .ref aQ, .int (nI Ch), .int ct])), (aB, .inl ((D.1 101), 25, .inl fB)), (aS, .inl ((D.1 101), 25, .inl fS)), (aN, .inl ((D.1 101), 25, .inl fN)), (aM, .inl ((D.1 101), 25, .inl fM)), (aCn, .inl ((D.1 101), 25, .inl fCn)), (aE, .inl ((D.1 101), 25, .inl fE)), (aLE, .inl ((D.1 101), 25, .inl fLE)), (aG, .inl ((D.1 101), 25, .inl fG))] H := by rw [hHe]; exact hP
  have hS : va_S (fun q : Nat => s.heap.size ≤ q) s.heap H locs := by rw [hHe, hLe]; exact hS
  have hgoal : W p l e ({ frames := 6, cells := 1, slots := 6, locals := 90 } : Room) s m ([.ref hX, .int x1, .int x2] : List Value).toArray below meth c H locs 0 0 Q (F0 m 0 ls []) := by
    clear hHe hLe
    refine lv_aload_n hx hb dX4_of_0 rfl (lv_at hl 0 rfl) ?_
    refine va_get (D := D) (ci := 11) (v := .ref hW) (C := RX4) (T := TX4) (N := 10) hx hb hts in_X4 hown hK hP 0 rfl rfl 0 (by decide) (hts _ q_655) (fun _ h9 => h9) rfl dX4_of_1 ?_
    refine lv_iload_n hx hb dX4_of_4 rfl (lv_at hl 1 rfl) ?_
    have hPc := hP.sub (ws' := [(hW, .inr (10, [.int (nI R), .int (nI C), .int (nI K), .int fi, .int di, .int br, .int li]))]) [1] rfl
    have hDc := hD.sub (ws' := [(hW, .inr (10, [.int (nI R), .int (nI C), .int (nI K), .int fi, .int di, .int br, .int li]))]) [1] (by decide) rfl
    have hFc := va_free (wc := [(hW, .inr (10, [.int (nI R), .int (nI C), .int (nI K), .int fi, .int di, .int br, .int li]))]) hD (va_S_up hS hA) hA [1] rfl
    refine va_calli (va_runVN (As := [.int x1]) (rest := []) ⟨hx, hb, hml, hown, hts⟩ (c_X3_hasKey l D hW R C K fi di br li x1 H.size ) ⟨va_cnB 1 hts (gi_sub q_877) rfl rfl rfl (hN.1 _ n_874) (hts _ q_81) (by decide +kernel) ⟨Nat.le_of_ble_eq_true rfl, Nat.le_of_ble_eq_true rfl⟩, (hts _ q_876), (hts _ q_28)⟩ ⟨cPre_blind, va_recv hK hP (ci := 10) (q0 := 1) rfl rfl, cPre_mk hPc hK hDc hN (lwZ_for hZ (va_S_up hS hA) hFc)⟩ rfl rfl hl.1 rfl (lv_room (Nat.le_of_ble_eq_true rfl)) dX4_of_5 ⟨(show 0 + 0 ≤ 1 from (by omega)), (show 0 + 0 ≤ 6 from (by omega))⟩) hS (fun q h1 h2 => absurd h2 (Nat.not_le.mpr h1)) (fun q h => Nat.le_trans hS.1 h) (fun r_5 u t H1 locs ht hvm hw hBk hz1 hk1 hS => ?_)
    have hP := va_P_ro hP hk1
    obtain ⟨hw, z_1⟩ := hw
    rw [hw] at z_1
    subst hw
    clear hBk hvm ht u hz1 hk1
    clear hPc hDc hFc; clear t
    generalize H1 = H at hP hS ⊢
    refine lv_if_ne (tgt := 21) hx hb dX4_of_8 (by decide) (fun c_2 => ?_) (fun c_2 => ?_)
    · refine lv_iload_n hx hb dX4_of_21 rfl (lv_at hl 2 rfl) ?_
      refine lv_if_lt (tgt := 31) hx hb dX4_of_22 (by decide) (fun c_3 => ?_) (fun c_3 => ?_)
      · subst hQe
        subst hAe
        obtain ⟨sa, hstr⟩ := hN.2 _ (List.mem_of_getElem? (i := 11) rfl)
        have hE9 : (E_X4_of K x1 x2) = 1 := (by unfold E_X4_of; rw [if_neg c_2, if_pos c_3])
        exact vx_throwS (own := RX4) (cls := "java/lang/IllegalArgumentException") (text := "what is 0 to 10") (names := ["java/lang/RuntimeException", "java/lang/Exception"]) hx hb hst hown (by decide +kernel) (by decide +kernel) (hts _ q_863) (hts _ q_102) hstr (at_1_hat hts hN.1) at_1_ot hZ.2.2.1 hZ.2.2.2 (va_S_up hS hA) (hl.1.trans hml.symm) dX4_of_31 dX4_of_34 dX4_of_35 dX4_of_37 dX4_of_40 (fun x h => (hno x h).elim) (Nat.le_of_ble_eq_true rfl) (Nat.le_of_ble_eq_true rfl) (show 0 + 1 ≤ 1 from by omega) (show 0 + 6 ≤ 6 from by omega) hlocks (fun t hv hz hk => ⟨(), trivial, ⟨by rw [hE9]; decide, by rw [hE9]; rfl⟩, Nat.le_trans hS.1 hz, fun q h1 h2 => (hk q (Nat.lt_of_lt_of_le h1 hS.1)).trans (hS.2.1 q h1 h2)⟩) (fun z hz => Or.inr (hS.2.2 z hz)) (show 0 + 1 ≤ 1 from by omega) (show 0 + 6 ≤ 6 from by omega)
      · refine lv_iload_n hx hb dX4_of_25 rfl (lv_at hl 2 rfl) ?_
        refine lv_bipush (v := 10) hx hb dX4_of_26 (by decide) ?_
        refine lv_icmp_le (tgt := 41) hx hb dX4_of_28 (by decide) (fun c_4 => ?_) (fun c_4 => ?_)
        · refine lv_aload_n hx hb dX4_of_41 rfl (lv_at hl 0 rfl) ?_
          refine lv_iload_n hx hb dX4_of_42 rfl (lv_at hl 1 rfl) ?_
          refine lv_iload_n hx hb dX4_of_43 rfl (lv_at hl 2 rfl) ?_
          have hPc := hP.sub (ws' := [(hX, .inr (11, [.ref hW, .ref hF, .ref hA_, .ref hT, .int (nI sc), .int pa, .int gu, .int cl, .int se, .int rf])), (hW, .inr (10, [.int (nI R), .int (nI C), .int (nI K), .int fi, .int di, .int br, .int li])), (hF, .inr (7, [.ref aB, .ref aS, .ref aN, .ref aM, .int he, .int lu])), (hA_, .inr (9, [.ref aCn, .ref aE, .ref aLE, .int dn, .int ea])), (hT, .inr (8, [.ref aC, .ref aG, .ref aI, .ref hB, .int lo, .ref aK, .ref aL, .ref aQ, .int (nI Ch), .int ct])), (aB, .inl ((D.1 101), 25, .inl fB)), (aS, .inl ((D.1 101), 25, .inl fS)), (aN, .inl ((D.1 101), 25, .inl fN)), (aM, .inl ((D.1 101), 25, .inl fM)), (aCn, .inl ((D.1 101), 25, .inl fCn)), (aE, .inl ((D.1 101), 25, .inl fE)), (aLE, .inl ((D.1 101), 25, .inl fLE)), (aG, .inl ((D.1 101), 25, .inl fG))]) [0, 1, 2, 3, 4, 5, 6, 7, 8, 9, 10, 11, 12] rfl
          have hDc := hD.sub (ws' := [(hX, .inr (11, [.ref hW, .ref hF, .ref hA_, .ref hT, .int (nI sc), .int pa, .int gu, .int cl, .int se, .int rf])), (hW, .inr (10, [.int (nI R), .int (nI C), .int (nI K), .int fi, .int di, .int br, .int li])), (hF, .inr (7, [.ref aB, .ref aS, .ref aN, .ref aM, .int he, .int lu])), (hA_, .inr (9, [.ref aCn, .ref aE, .ref aLE, .int dn, .int ea])), (hT, .inr (8, [.ref aC, .ref aG, .ref aI, .ref hB, .int lo, .ref aK, .ref aL, .ref aQ, .int (nI Ch), .int ct])), (aB, .inl ((D.1 101), 25, .inl fB)), (aS, .inl ((D.1 101), 25, .inl fS)), (aN, .inl ((D.1 101), 25, .inl fN)), (aM, .inl ((D.1 101), 25, .inl fM)), (aCn, .inl ((D.1 101), 25, .inl fCn)), (aE, .inl ((D.1 101), 25, .inl fE)), (aLE, .inl ((D.1 101), 25, .inl fLE)), (aG, .inl ((D.1 101), 25, .inl fG))]) [0, 1, 2, 3, 4, 5, 6, 7, 8, 9, 10, 11, 12] (by decide) rfl
          have hFc := va_free (wc := [(hX, .inr (11, [.ref hW, .ref hF, .ref hA_, .ref hT, .int (nI sc), .int pa, .int gu, .int cl, .int se, .int rf])), (hW, .inr (10, [.int (nI R), .int (nI C), .int (nI K), .int fi, .int di, .int br, .int li])), (hF, .inr (7, [.ref aB, .ref aS, .ref aN, .ref aM, .int he, .int lu])), (hA_, .inr (9, [.ref aCn, .ref aE, .ref aLE, .int dn, .int ea])), (hT, .inr (8, [.ref aC, .ref aG, .ref aI, .ref hB, .int lo, .ref aK, .ref aL, .ref aQ, .int (nI Ch), .int ct])), (aB, .inl ((D.1 101), 25, .inl fB)), (aS, .inl ((D.1 101), 25, .inl fS)), (aN, .inl ((D.1 101), 25, .inl fN)), (aM, .inl ((D.1 101), 25, .inl fM)), (aCn, .inl ((D.1 101), 25, .inl fCn)), (aE, .inl ((D.1 101), 25, .inl fE)), (aLE, .inl ((D.1 101), 25, .inl fLE)), (aG, .inl ((D.1 101), 25, .inl fG))]) hD (va_S_up hS hA) hA [0, 1, 2, 3, 4, 5, 6, 7, 8, 9, 10, 11, 12] rfl
          refine va_calli (va_runV (As := [.int x1, .int x2]) (rest := []) ⟨hx, hb, hml, hown, hts⟩ (c_X4_tellOf l D hX hW hF hA_ hT sc pa gu cl se rf R C K fi di br li aB aS aN aM he lu aCn aE aLE dn ea aC aG aI hB aK aL aQ lo Ch ct fB fS fN fM fCn fE fLE fG x1.toNatClampNeg x2.toNatClampNeg x1 x2 H.size (show x1.toNatClampNeg < 25 from (Nat.lt_of_lt_of_le (hasKey_ok (by assumption) hKb).2.1 hKb)) (show x2.toNatClampNeg ≤ 10 from (rng_ok (y := 10) (n := 10) rfl (by decide) (by assumption) (by assumption)).2) (show x1 = nI x1.toNatClampNeg from (hasKey_ok (by assumption) hKb).1) (show x2 = nI x2.toNatClampNeg from (rng_ok (y := 10) (n := 10) rfl (by decide) (by assumption) (by assumption)).1)) (cwV 2 hts (gi_V q_797 q_799 q_23 q_80 q_800) rfl rfl rfl (by decide +kernel) ⟨Nat.le_of_ble_eq_true rfl, Nat.le_of_ble_eq_true rfl⟩) ⟨cPre_blind, va_recv hK hP (ci := 11) (q0 := 0) rfl rfl, cPre_mk hPc hK hDc hN (lwZ_for hZ (va_S_up hS hA) hFc)⟩ rfl rfl hl.1 rfl (lv_room (Nat.le_of_ble_eq_true rfl)) dX4_of_44 ⟨(show 0 + 0 ≤ 1 from (by omega)), (show 0 + 0 ≤ 6 from (by omega))⟩) hS (fun q h1 h2 => absurd h2 (Nat.not_le.mpr h1)) (fun q h => Nat.le_trans hS.1 h) (fun r_44 u t H1 locs ht hvm hw hBk hz1 hk1 hS => ?_)
          have hP := va_P_ro hP hk1
          subst hw
          clear hBk hvm ht u hz1 hk1
          clear hPc hDc hFc; clear t
          generalize H1 = H at hP hS ⊢
          subst hQe
          refine vx_ret ?_
          have hS := va_S_up hS hA
          subst hAe
          have hE : (F_X4_of K fi di he dn fB fS fN fM fCn fE fLE fG x1 x2) = F_X4_tellOf fi di he dn fB fS fN fM fCn fE fLE fG x1.toNatClampNeg x2.toNatClampNeg := (by unfold F_X4_of; rw [if_neg c_2, if_neg c_3, if_pos c_4])
          have hE9 : (E_X4_of K x1 x2) = 0 := (by unfold E_X4_of; rw [if_neg c_2, if_neg c_3, if_pos c_4])
          refine W.widen (k := 1) (n := 6) (by omega) (by omega) ?_
          have hP9 := hP.sub (ws' := [(hX, .inr (11, [.ref hW, .ref hF, .ref hA_, .ref hT, .int (nI sc), .int pa, .int gu, .int cl, .int se, .int rf])), (hW, .inr (10, [.int (nI R), .int (nI C), .int (nI K), .int fi, .int di, .int br, .int li])), (hF, .inr (7, [.ref aB, .ref aS, .ref aN, .ref aM, .int he, .int lu])), (hA_, .inr (9, [.ref aCn, .ref aE, .ref aLE, .int dn, .int ea])), (hT, .inr (8, [.ref aC, .ref aG, .ref aI, .ref hB, .int lo, .ref aK, .ref aL, .ref aQ, .int (nI Ch), .int ct])), (aB, .inl ((D.1 101), 25, .inl fB)), (aS, .inl ((D.1 101), 25, .inl fS)), (aN, .inl ((D.1 101), 25, .inl fN)), (aM, .inl ((D.1 101), 25, .inl fM)), (aCn, .inl ((D.1 101), 25, .inl fCn)), (aE, .inl ((D.1 101), 25, .inl fE)), (aLE, .inl ((D.1 101), 25, .inl fLE)), (aG, .inl ((D.1 101), 25, .inl fG))]) [0, 1, 2, 3, 4, 5, 6, 7, 8, 9, 10, 11, 12] rfl
          have hD9 := hD.sub (ws' := [(hX, .inr (11, [.ref hW, .ref hF, .ref hA_, .ref hT, .int (nI sc), .int pa, .int gu, .int cl, .int se, .int rf])), (hW, .inr (10, [.int (nI R), .int (nI C), .int (nI K), .int fi, .int di, .int br, .int li])), (hF, .inr (7, [.ref aB, .ref aS, .ref aN, .ref aM, .int he, .int lu])), (hA_, .inr (9, [.ref aCn, .ref aE, .ref aLE, .int dn, .int ea])), (hT, .inr (8, [.ref aC, .ref aG, .ref aI, .ref hB, .int lo, .ref aK, .ref aL, .ref aQ, .int (nI Ch), .int ct])), (aB, .inl ((D.1 101), 25, .inl fB)), (aS, .inl ((D.1 101), 25, .inl fS)), (aN, .inl ((D.1 101), 25, .inl fN)), (aM, .inl ((D.1 101), 25, .inl fM)), (aCn, .inl ((D.1 101), 25, .inl fCn)), (aE, .inl ((D.1 101), 25, .inl fE)), (aLE, .inl ((D.1 101), 25, .inl fLE)), (aG, .inl ((D.1 101), 25, .inl fG))]) [0, 1, 2, 3, 4, 5, 6, 7, 8, 9, 10, 11, 12] (by decide) rfl
          exact W.iret (v := F_X4_tellOf fi di he dn fB fS fN fM fCn fE fLE fG x1.toNatClampNeg x2.toNatClampNeg) hx hb hr (fun t ht hW => ⟨⟨F_X4_tellOf fi di he dn fB fS fN fM fCn fE fLE fG x1.toNatClampNeg x2.toNatClampNeg, (), rfl, ⟨(by rw [hE]), hE9⟩, (by (try rw [hE]); rw [ht]; exact hP9), (by (try rw [hE]); exact hD9)⟩, hS.F ht⟩) hS.2.2 dX4_of_47
        · subst hQe
          subst hAe
          obtain ⟨sa, hstr⟩ := hN.2 _ (List.mem_of_getElem? (i := 11) rfl)
          have hE9 : (E_X4_of K x1 x2) = 1 := (by unfold E_X4_of; rw [if_neg c_2, if_neg c_3, if_neg c_4])
          exact vx_throwS (own := RX4) (cls := "java/lang/IllegalArgumentException") (text := "what is 0 to 10") (names := ["java/lang/RuntimeException", "java/lang/Exception"]) hx hb hst hown (by decide +kernel) (by decide +kernel) (hts _ q_863) (hts _ q_102) hstr (at_1_hat hts hN.1) at_1_ot hZ.2.2.1 hZ.2.2.2 (va_S_up hS hA) (hl.1.trans hml.symm) dX4_of_31 dX4_of_34 dX4_of_35 dX4_of_37 dX4_of_40 (fun x h => (hno x h).elim) (Nat.le_of_ble_eq_true rfl) (Nat.le_of_ble_eq_true rfl) (show 0 + 1 ≤ 1 from by omega) (show 0 + 6 ≤ 6 from by omega) hlocks (fun t hv hz hk => ⟨(), trivial, ⟨by rw [hE9]; decide, by rw [hE9]; rfl⟩, Nat.le_trans hS.1 hz, fun q h1 h2 => (hk q (Nat.lt_of_lt_of_le h1 hS.1)).trans (hS.2.1 q h1 h2)⟩) (fun z hz => Or.inr (hS.2.2 z hz)) (show 0 + 1 ≤ 1 from by omega) (show 0 + 6 ≤ 6 from by omega)
    · subst hQe
      subst hAe
      obtain ⟨sa, hstr⟩ := hN.2 _ (List.mem_of_getElem? (i := 1) rfl)
      have hE9 : (E_X4_of K x1 x2) = 2 := (by unfold E_X4_of; rw [if_pos c_2])
      exact vx_throwS (own := RX4) (cls := "java/lang/IndexOutOfBoundsException") (text := "no such key") (names := ["java/lang/RuntimeException", "java/lang/Exception"]) hx hb hst hown (by decide +kernel) (by decide +kernel) (hts _ q_878) (hts _ q_92) hstr (at_2_hat hts hN.1) at_2_ot hZ.2.2.1 hZ.2.2.2 (va_S_up hS hA) (hl.1.trans hml.symm) dX4_of_11 dX4_of_14 dX4_of_15 dX4_of_17 dX4_of_20 (fun x h => (hno x h).elim) (Nat.le_of_ble_eq_true rfl) (Nat.le_of_ble_eq_true rfl) (show 0 + 1 ≤ 1 from by omega) (show 0 + 6 ≤ 6 from by omega) hlocks (fun t hv hz hk => ⟨(), trivial, ⟨by rw [hE9]; decide, by rw [hE9]; rfl⟩, Nat.le_trans hS.1 hz, fun q h1 h2 => (hk q (Nat.lt_of_lt_of_le h1 hS.1)).trans (hS.2.1 q h1 h2)⟩) (fun z hz => Or.inr (hS.2.2 z hz)) (show 0 + 1 ≤ 1 from by omega) (show 0 + 6 ≤ 6 from by omega)
  rw [hHe, hLe] at hgoal
  exact hgoal

def E_X4_set (x1 : Int32) : Nat := (if x1 < 0 then 1 else (if x1 ≤ 5 then 0 else 1))
def F_X4_set (cl : Int32) (se : Int32) (fi : Int32) (he : Int32) (dn : Int32) (x1 : Int32) : Int32 := (if x1 < 0 then 0 else (if x1 ≤ 5 then F_X4_tellSet cl se fi he dn x1.toNatClampNeg else 0))
set_option maxHeartbeats 4000000 in
set_option maxRecDepth 100000 in
theorem c_X4_set (l : Launch) (D : va_G) (hX : Nat) (hW : Nat) (hF : Nat) (hA_ : Nat) (hT : Nat) (sc : Nat) (pa : Int32) (gu : Int32) (cl : Int32) (se : Int32) (rf : Int32) (R : Nat) (C : Nat) (K : Nat) (fi : Int32) (di : Int32) (br : Int32) (li : Int32) (aB : Nat) (aS : Nat) (aN : Nat) (aM : Nat) (he : Int32) (lu : Int32) (aCn : Nat) (aE : Nat) (aLE : Nat) (dn : Int32) (ea : Int32) (x1 : Int32) (sz : Nat) (hst : l.stackTraces = false)  : vx_Met l yX4_set (Cond.code yX4_set cX4_set 2 (some .int) :: lwAll) ({ frames := 6, cells := 1, slots := 6, locals := 90 } : Room) (va_Pc [.ref hX, .int x1] (cPre D (lwTY D) [(hX, .inr (11, [.ref hW, .ref hF, .ref hA_, .ref hT, .int (nI sc), .int pa, .int gu, .int cl, .int se, .int rf])), (hW, .inr (10, [.int (nI R), .int (nI C), .int (nI K), .int fi, .int di, .int br, .int li])), (hF, .inr (7, [.ref aB, .ref aS, .ref aN, .ref aM, .int he, .int lu])), (hA_, .inr (9, [.ref aCn, .ref aE, .ref aLE, .int dn, .int ea]))] sz)) (va_Qi (fun (r : Int32) (_ : Unit) => r = (F_X4_set cl se fi he dn x1) ∧ (E_X4_set x1) = 0) (fun (_ : Unit) t => va_P D vwCl [(hX, .inr (11, [.ref hW, .ref hF, .ref hA_, .ref hT, .int (nI sc), .int pa, .int gu, .int cl, .int se, .int rf])), (hW, .inr (10, [.int (nI R), .int (nI C), .int (nI K), .int fi, .int di, .int br, .int li])), (hF, .inr (7, [.ref aB, .ref aS, .ref aN, .ref aM, .int he, .int lu])), (hA_, .inr (9, [.ref aCn, .ref aE, .ref aLE, .int dn, .int ea]))] t.heap ∧ va_D (va_A [(hX, .inr (11, [.ref hW, .ref hF, .ref hA_, .ref hT, .int (nI sc), .int pa, .int gu, .int cl, .int se, .int rf])), (hW, .inr (10, [.int (nI R), .int (nI C), .int (nI K), .int fi, .int di, .int br, .int li])), (hF, .inr (7, [.ref aB, .ref aS, .ref aN, .ref aM, .int he, .int lu])), (hA_, .inr (9, [.ref aCn, .ref aE, .ref aLE, .int dn, .int ea]))] sz) [(hX, .inr (11, [.ref hW, .ref hF, .ref hA_, .ref hT, .int (nI sc), .int pa, .int gu, .int cl, .int se, .int rf])), (hW, .inr (10, [.int (nI R), .int (nI C), .int (nI K), .int fi, .int di, .int br, .int li])), (hF, .inr (7, [.ref aB, .ref aS, .ref aN, .ref aM, .int he, .int lu])), (hA_, .inr (9, [.ref aCn, .ref aE, .ref aLE, .int dn, .int ea]))]) (va_A [(hX, .inr (11, [.ref hW, .ref hF, .ref hA_, .ref hT, .int (nI sc), .int pa, .int gu, .int cl, .int se, .int rf])), (hW, .inr (10, [.int (nI R), .int (nI C), .int (nI K), .int fi, .int di, .int br, .int li])), (hF, .inr (7, [.ref aB, .ref aS, .ref aN, .ref aM, .int he, .int lu])), (hA_, .inr (9, [.ref aCn, .ref aE, .ref aLE, .int dn, .int ea]))] sz)) (vx_X (fun _ : Unit => True) (fun (E : String) (_ : Unit) (_ : State) => (E_X4_set x1) ≠ 0 ∧ E = xname (E_X4_set x1)) (fun q : Nat => sz ≤ q)) 1 6 (va_A [(hX, .inr (11, [.ref hW, .ref hF, .ref hA_, .ref hT, .int (nI sc), .int pa, .int gu, .int cl, .int se, .int rf])), (hW, .inr (10, [.int (nI R), .int (nI C), .int (nI K), .int fi, .int di, .int br, .int li])), (hF, .inr (7, [.ref aB, .ref aS, .ref aN, .ref aM, .int he, .int lu])), (hA_, .inr (9, [.ref aCn, .ref aE, .ref aLE, .int dn, .int ea]))] sz) := by
  refine vx_ofW (cc := cX4_set) (maxL := 2) (ret := (some .int)) (by decide) rfl ?_
  intro p e s m args below meth c s₁ B hml hno hv
  obtain ⟨rfl, hsz, hP, hK, hD0, hN, hZ⟩ := hv
  have hx := B.exec
  have hb := B.bytes
  have hr := B.returns
  have hts : ∀ wd ∈ lwAll, wd.before ([.ref hX, .int x1] : List Value).toArray s = true := fun wd h => atoms_spec (ws := (Cond.code yX4_set cX4_set 2 (some .int) :: lwAll)) B.pre wd (List.mem_cons_of_mem _ h)
  have hown : s.vm.findClass RX4 = some m.cls := findClass_of_methodNamed B.named
  have hlocks := B.notSynchronized
  subst hsz
  have hD := hD0.self (sz := s.heap.size)
  have hl := lv_entry ([.ref hX, .int x1]) (n := 2) (Nat.le_of_ble_eq_true rfl)
  rw [lg_entry_eq]
  generalize (lg_sl ([.ref hX, .int x1]) ++ List.replicate (2 - (lg_sl ([.ref hX, .int x1])).length) Slot.unset).toArray = ls at hl ⊢
  have hl : lv_has ls 2 [(0, .ref hX), (1, .int x1)] := hl
  have hS : va_S (fun q : Nat => s.heap.size ≤ q) s.heap s.heap [] := va_S.rf
  generalize hQe : vx_MQ below (va_Qi (fun (r : Int32) (_ : Unit) => r = (F_X4_set cl se fi he dn x1) ∧ (E_X4_set x1) = 0) (fun (_ : Unit) t => va_P D vwCl [(hX, .inr (11, [.ref hW, .ref hF, .ref hA_, .ref hT, .int (nI sc), .int pa, .int gu, .int cl, .int se, .int rf])), (hW, .inr (10, [.int (nI R), .int (nI C), .int (nI K), .int fi, .int di, .int br, .int li])), (hF, .inr (7, [.ref aB, .ref aS, .ref aN, .ref aM, .int he, .int lu])), (hA_, .inr (9, [.ref aCn, .ref aE, .ref aLE, .int dn, .int ea]))] t.heap ∧ va_D (va_A [(hX, .inr (11, [.ref hW, .ref hF, .ref hA_, .ref hT, .int (nI sc), .int pa, .int gu, .int cl, .int se, .int rf])), (hW, .inr (10, [.int (nI R), .int (nI C), .int (nI K), .int fi, .int di, .int br, .int li])), (hF, .inr (7, [.ref aB, .ref aS, .ref aN, .ref aM, .int he, .int lu])), (hA_, .inr (9, [.ref aCn, .ref aE, .ref aLE, .int dn, .int ea]))] s.heap.size) [(hX, .inr (11, [.ref hW, .ref hF, .ref hA_, .ref hT, .int (nI sc), .int pa, .int gu, .int cl, .int se, .int rf])), (hW, .inr (10, [.int (nI R), .int (nI C), .int (nI K), .int fi, .int di, .int br, .int li])), (hF, .inr (7, [.ref aB, .ref aS, .ref aN, .ref aM, .int he, .int lu])), (hA_, .inr (9, [.ref aCn, .ref aE, .ref aLE, .int dn, .int ea]))]) (va_A [(hX, .inr (11, [.ref hW, .ref hF, .ref hA_, .ref hT, .int (nI sc), .int pa, .int gu, .int cl, .int se, .int rf])), (hW, .inr (10, [.int (nI R), .int (nI C), .int (nI K), .int fi, .int di, .int br, .int li])), (hF, .inr (7, [.ref aB, .ref aS, .ref aN, .ref aM, .int he, .int lu])), (hA_, .inr (9, [.ref aCn, .ref aE, .ref aLE, .int dn, .int ea]))] s.heap.size)) (vx_X (fun _ : Unit => True) (fun (E : String) (_ : Unit) (_ : State) => (E_X4_set x1) ≠ 0 ∧ E = xname (E_X4_set x1)) (fun q : Nat => s.heap.size ≤ q)) ([.ref hX, .int x1] : List Value).toArray s 1 6 (va_A [(hX, .inr (11, [.ref hW, .ref hF, .ref hA_, .ref hT, .int (nI sc), .int pa, .int gu, .int cl, .int se, .int rf])), (hW, .inr (10, [.int (nI R), .int (nI C), .int (nI K), .int fi, .int di, .int br, .int li])), (hF, .inr (7, [.ref aB, .ref aS, .ref aN, .ref aM, .int he, .int lu])), (hA_, .inr (9, [.ref aCn, .ref aE, .ref aLE, .int dn, .int ea]))] s.heap.size) = Q
  have hP : va_P D vwCl [(hX, .inr (11, [.ref hW, .ref hF, .ref hA_, .ref hT, .int (nI sc), .int pa, .int gu, .int cl, .int se, .int rf])), (hW, .inr (10, [.int (nI R), .int (nI C), .int (nI K), .int fi, .int di, .int br, .int li])), (hF, .inr (7, [.ref aB, .ref aS, .ref aN, .ref aM, .int he, .int lu])), (hA_, .inr (9, [.ref aCn, .ref aE, .ref aLE, .int dn, .int ea]))] s.heap := hP
  obtain ⟨A, hAe⟩ : ∃ A, A = va_A [(hX, .inr (11, [.ref hW, .ref hF, .ref hA_, .ref hT, .int (nI sc), .int pa, .int gu, .int cl, .int se, .int rf])), (hW, .inr (10, [.int (nI R), .int (nI C), .int (nI K), .int fi, .int di, .int br, .int li])), (hF, .inr (7, [.ref aB, .ref aS, .ref aN, .ref aM, .int he, .int lu])), (hA_, .inr (9, [.ref aCn, .ref aE, .ref aLE, .int dn, .int ea]))] s.heap.size := ⟨_, rfl⟩
  rw [← hAe] at hD hZ
  have hA : ∀ q : Nat, s.heap.size ≤ q → A q := fun q h => by rw [hAe]; exact Or.inr h
  obtain ⟨H, hHe⟩ : ∃ H, H = s.heap := ⟨_, rfl⟩
  obtain ⟨locs, hLe⟩ : ∃ L : List Loc, L = [] := ⟨_, rfl⟩
  have hP : va_P D vwCl [(hX, .inr (11, [.ref hW, .ref hF, .ref hA_, .ref hT, .int (nI sc), .int pa, .int gu, .int cl, .int se, .int rf])), (hW, .inr (10, [.int (nI R), .int (nI C), .int (nI K), .int fi, .int di, .int br, .int li])), (hF, .inr (7, [.ref aB, .ref aS, .ref aN, .ref aM, .int he, .int lu])), (hA_, .inr (9, [.ref aCn, .ref aE, .ref aLE, .int dn, .int ea]))] H := by rw [hHe]; exact hP
  have hS : va_S (fun q : Nat => s.heap.size ≤ q) s.heap H locs := by rw [hHe, hLe]; exact hS
  have hgoal : W p l e ({ frames := 6, cells := 1, slots := 6, locals := 90 } : Room) s m ([.ref hX, .int x1] : List Value).toArray below meth c H locs 0 0 Q (F0 m 0 ls []) := by
    clear hHe hLe
    refine lv_iload_n hx hb dX4_set_0 rfl (lv_at hl 1 rfl) ?_
    refine lv_if_lt (tgt := 9) hx hb dX4_set_1 (by decide) (fun c_1 => ?_) (fun c_1 => ?_)
    · subst hQe
      subst hAe
      obtain ⟨sa, hstr⟩ := hN.2 _ (List.mem_of_getElem? (i := 12) rfl)
      have hE9 : (E_X4_set x1) = 1 := (by unfold E_X4_set; rw [if_pos c_1])
      exact vx_throwS (own := RX4) (cls := "java/lang/IllegalArgumentException") (text := "what is 0 to 5") (names := ["java/lang/RuntimeException", "java/lang/Exception"]) hx hb hst hown (by decide +kernel) (by decide +kernel) (hts _ q_863) (hts _ q_102) hstr (at_1_hat hts hN.1) at_1_ot hZ.2.2.1 hZ.2.2.2 (va_S_up hS hA) (hl.1.trans hml.symm) dX4_set_9 dX4_set_12 dX4_set_13 dX4_set_15 dX4_set_18 (fun x h => (hno x h).elim) (Nat.le_of_ble_eq_true rfl) (Nat.le_of_ble_eq_true rfl) (show 0 + 1 ≤ 1 from by omega) (show 0 + 6 ≤ 6 from by omega) hlocks (fun t hv hz hk => ⟨(), trivial, ⟨by rw [hE9]; decide, by rw [hE9]; rfl⟩, Nat.le_trans hS.1 hz, fun q h1 h2 => (hk q (Nat.lt_of_lt_of_le h1 hS.1)).trans (hS.2.1 q h1 h2)⟩) (fun z hz => Or.inr (hS.2.2 z hz)) (show 0 + 1 ≤ 1 from by omega) (show 0 + 6 ≤ 6 from by omega)
    · refine lv_iload_n hx hb dX4_set_4 rfl (lv_at hl 1 rfl) ?_
      refine lv_iconst (v := 5) hx hb dX4_set_5 (by decide) ?_
      refine lv_icmp_le (tgt := 19) hx hb dX4_set_6 (by decide) (fun c_2 => ?_) (fun c_2 => ?_)
      · refine lv_aload_n hx hb dX4_set_19 rfl (lv_at hl 0 rfl) ?_
        refine lv_iload_n hx hb dX4_set_20 rfl (lv_at hl 1 rfl) ?_
        have hPc := hP.sub (ws' := [(hX, .inr (11, [.ref hW, .ref hF, .ref hA_, .ref hT, .int (nI sc), .int pa, .int gu, .int cl, .int se, .int rf])), (hW, .inr (10, [.int (nI R), .int (nI C), .int (nI K), .int fi, .int di, .int br, .int li])), (hF, .inr (7, [.ref aB, .ref aS, .ref aN, .ref aM, .int he, .int lu])), (hA_, .inr (9, [.ref aCn, .ref aE, .ref aLE, .int dn, .int ea]))]) [0, 1, 2, 3] rfl
        have hDc := hD.sub (ws' := [(hX, .inr (11, [.ref hW, .ref hF, .ref hA_, .ref hT, .int (nI sc), .int pa, .int gu, .int cl, .int se, .int rf])), (hW, .inr (10, [.int (nI R), .int (nI C), .int (nI K), .int fi, .int di, .int br, .int li])), (hF, .inr (7, [.ref aB, .ref aS, .ref aN, .ref aM, .int he, .int lu])), (hA_, .inr (9, [.ref aCn, .ref aE, .ref aLE, .int dn, .int ea]))]) [0, 1, 2, 3] (by decide) rfl
        have hFc := va_free (wc := [(hX, .inr (11, [.ref hW, .ref hF, .ref hA_, .ref hT, .int (nI sc), .int pa, .int gu, .int cl, .int se, .int rf])), (hW, .inr (10, [.int (nI R), .int (nI C), .int (nI K), .int fi, .int di, .int br, .int li])), (hF, .inr (7, [.ref aB, .ref aS, .ref aN, .ref aM, .int he, .int lu])), (hA_, .inr (9, [.ref aCn, .ref aE, .ref aLE, .int dn, .int ea]))]) hD (va_S_up hS hA) hA [0, 1, 2, 3] rfl
        refine va_calli (va_runV (As := [.int x1]) (rest := []) ⟨hx, hb, hml, hown, hts⟩ (c_X4_tellSet l D hX hW hF hA_ hT sc pa gu cl se rf R C K fi di br li aB aS aN aM he lu aCn aE aLE dn ea x1.toNatClampNeg x1 H.size (show x1.toNatClampNeg ≤ 5 from (rng_ok (y := 5) (n := 5) rfl (by decide) (by assumption) (by assumption)).2) (show x1 = nI x1.toNatClampNeg from (rng_ok (y := 5) (n := 5) rfl (by decide) (by assumption) (by assumption)).1)) (cwV 1 hts (gi_V q_793 q_795 q_22 q_80 q_796) rfl rfl rfl (by decide +kernel) ⟨Nat.le_of_ble_eq_true rfl, Nat.le_of_ble_eq_true rfl⟩) ⟨cPre_blind, va_recv hK hP (ci := 11) (q0 := 0) rfl rfl, cPre_mk hPc hK hDc hN (lwZ_for hZ (va_S_up hS hA) hFc)⟩ rfl rfl hl.1 rfl (lv_room (Nat.le_of_ble_eq_true rfl)) dX4_set_21 ⟨(show 0 + 0 ≤ 1 from (by omega)), (show 0 + 0 ≤ 6 from (by omega))⟩) hS (fun q h1 h2 => absurd h2 (Nat.not_le.mpr h1)) (fun q h => Nat.le_trans hS.1 h) (fun r_21 u t H1 locs ht hvm hw hBk hz1 hk1 hS => ?_)
        have hP := va_P_ro hP hk1
        subst hw
        clear hBk hvm ht u hz1 hk1
        clear hPc hDc hFc; clear t
        generalize H1 = H at hP hS ⊢
        subst hQe
        refine vx_ret ?_
        have hS := va_S_up hS hA
        subst hAe
        have hE : (F_X4_set cl se fi he dn x1) = F_X4_tellSet cl se fi he dn x1.toNatClampNeg := (by unfold F_X4_set; rw [if_neg c_1, if_pos c_2])
        have hE9 : (E_X4_set x1) = 0 := (by unfold E_X4_set; rw [if_neg c_1, if_pos c_2])
        refine W.widen (k := 1) (n := 6) (by omega) (by omega) ?_
        have hP9 := hP.sub (ws' := [(hX, .inr (11, [.ref hW, .ref hF, .ref hA_, .ref hT, .int (nI sc), .int pa, .int gu, .int cl, .int se, .int rf])), (hW, .inr (10, [.int (nI R), .int (nI C), .int (nI K), .int fi, .int di, .int br, .int li])), (hF, .inr (7, [.ref aB, .ref aS, .ref aN, .ref aM, .int he, .int lu])), (hA_, .inr (9, [.ref aCn, .ref aE, .ref aLE, .int dn, .int ea]))]) [0, 1, 2, 3] rfl
        have hD9 := hD.sub (ws' := [(hX, .inr (11, [.ref hW, .ref hF, .ref hA_, .ref hT, .int (nI sc), .int pa, .int gu, .int cl, .int se, .int rf])), (hW, .inr (10, [.int (nI R), .int (nI C), .int (nI K), .int fi, .int di, .int br, .int li])), (hF, .inr (7, [.ref aB, .ref aS, .ref aN, .ref aM, .int he, .int lu])), (hA_, .inr (9, [.ref aCn, .ref aE, .ref aLE, .int dn, .int ea]))]) [0, 1, 2, 3] (by decide) rfl
        exact W.iret (v := F_X4_tellSet cl se fi he dn x1.toNatClampNeg) hx hb hr (fun t ht hW => ⟨⟨F_X4_tellSet cl se fi he dn x1.toNatClampNeg, (), rfl, ⟨(by rw [hE]), hE9⟩, (by (try rw [hE]); rw [ht]; exact hP9), (by (try rw [hE]); exact hD9)⟩, hS.F ht⟩) hS.2.2 dX4_set_24
      · subst hQe
        subst hAe
        obtain ⟨sa, hstr⟩ := hN.2 _ (List.mem_of_getElem? (i := 12) rfl)
        have hE9 : (E_X4_set x1) = 1 := (by unfold E_X4_set; rw [if_neg c_1, if_neg c_2])
        exact vx_throwS (own := RX4) (cls := "java/lang/IllegalArgumentException") (text := "what is 0 to 5") (names := ["java/lang/RuntimeException", "java/lang/Exception"]) hx hb hst hown (by decide +kernel) (by decide +kernel) (hts _ q_863) (hts _ q_102) hstr (at_1_hat hts hN.1) at_1_ot hZ.2.2.1 hZ.2.2.2 (va_S_up hS hA) (hl.1.trans hml.symm) dX4_set_9 dX4_set_12 dX4_set_13 dX4_set_15 dX4_set_18 (fun x h => (hno x h).elim) (Nat.le_of_ble_eq_true rfl) (Nat.le_of_ble_eq_true rfl) (show 0 + 1 ≤ 1 from by omega) (show 0 + 6 ≤ 6 from by omega) hlocks (fun t hv hz hk => ⟨(), trivial, ⟨by rw [hE9]; decide, by rw [hE9]; rfl⟩, Nat.le_trans hS.1 hz, fun q h1 h2 => (hk q (Nat.lt_of_lt_of_le h1 hS.1)).trans (hS.2.1 q h1 h2)⟩) (fun z hz => Or.inr (hS.2.2 z hz)) (show 0 + 1 ≤ 1 from by omega) (show 0 + 6 ≤ 6 from by omega)
  rw [hHe, hLe] at hgoal
  exact hgoal

def E_X4_board (x1 : Int32) : Nat := (if x1 < 0 then 1 else (if x1 ≤ 14 then 0 else 1))
def F_X4_board (sc : Nat) (pa : Int32) (gu : Int32) (rf : Int32) (R : Nat) (C : Nat) (K : Nat) (fi : Int32) (di : Int32) (br : Int32) (li : Int32) (lu : Int32) (ea : Int32) (lo : Int32) (Ch : Nat) (ct : Int32) (fG : Nat → Int32) (x1 : Int32) : Int32 := (if x1 < 0 then 0 else (if x1 ≤ 14 then F_X4_tellBoard sc pa gu rf R C K fi di br li lu ea lo Ch ct fG x1.toNatClampNeg else 0))
set_option maxHeartbeats 4000000 in
set_option maxRecDepth 100000 in
theorem c_X4_board (l : Launch) (D : va_G) (hX : Nat) (hW : Nat) (hF : Nat) (hA_ : Nat) (hT : Nat) (sc : Nat) (pa : Int32) (gu : Int32) (cl : Int32) (se : Int32) (rf : Int32) (R : Nat) (C : Nat) (K : Nat) (fi : Int32) (di : Int32) (br : Int32) (li : Int32) (aB : Nat) (aS : Nat) (aN : Nat) (aM : Nat) (he : Int32) (lu : Int32) (aCn : Nat) (aE : Nat) (aLE : Nat) (dn : Int32) (ea : Int32) (aC : Nat) (aG : Nat) (aI : Nat) (hB : Nat) (aK : Nat) (aL : Nat) (aQ : Nat) (lo : Int32) (Ch : Nat) (ct : Int32) (fG : Nat → Int32) (x1 : Int32) (sz : Nat) (hst : l.stackTraces = false) (hR : R ≤ 5) (hKb : K ≤ 25) (hgu : gu = 0 ∨ gu = 1) : vx_Met l yX4_board (Cond.code yX4_board cX4_board 2 (some .int) :: lwAll) ({ frames := 6, cells := 1, slots := 6, locals := 123 } : Room) (va_Pc [.ref hX, .int x1] (cPre D (lwTY D) [(hX, .inr (11, [.ref hW, .ref hF, .ref hA_, .ref hT, .int (nI sc), .int pa, .int gu, .int cl, .int se, .int rf])), (hW, .inr (10, [.int (nI R), .int (nI C), .int (nI K), .int fi, .int di, .int br, .int li])), (hF, .inr (7, [.ref aB, .ref aS, .ref aN, .ref aM, .int he, .int lu])), (hA_, .inr (9, [.ref aCn, .ref aE, .ref aLE, .int dn, .int ea])), (hT, .inr (8, [.ref aC, .ref aG, .ref aI, .ref hB, .int lo, .ref aK, .ref aL, .ref aQ, .int (nI Ch), .int ct])), (aG, .inl ((D.1 101), 25, .inl fG))] sz)) (va_Qi (fun (r : Int32) (_ : Unit) => r = (F_X4_board sc pa gu rf R C K fi di br li lu ea lo Ch ct fG x1) ∧ (E_X4_board x1) = 0) (fun (_ : Unit) t => va_P D vwCl [(hX, .inr (11, [.ref hW, .ref hF, .ref hA_, .ref hT, .int (nI sc), .int pa, .int gu, .int cl, .int se, .int rf])), (hW, .inr (10, [.int (nI R), .int (nI C), .int (nI K), .int fi, .int di, .int br, .int li])), (hF, .inr (7, [.ref aB, .ref aS, .ref aN, .ref aM, .int he, .int lu])), (hA_, .inr (9, [.ref aCn, .ref aE, .ref aLE, .int dn, .int ea])), (hT, .inr (8, [.ref aC, .ref aG, .ref aI, .ref hB, .int lo, .ref aK, .ref aL, .ref aQ, .int (nI Ch), .int ct])), (aG, .inl ((D.1 101), 25, .inl fG))] t.heap ∧ va_D (va_A [(hX, .inr (11, [.ref hW, .ref hF, .ref hA_, .ref hT, .int (nI sc), .int pa, .int gu, .int cl, .int se, .int rf])), (hW, .inr (10, [.int (nI R), .int (nI C), .int (nI K), .int fi, .int di, .int br, .int li])), (hF, .inr (7, [.ref aB, .ref aS, .ref aN, .ref aM, .int he, .int lu])), (hA_, .inr (9, [.ref aCn, .ref aE, .ref aLE, .int dn, .int ea])), (hT, .inr (8, [.ref aC, .ref aG, .ref aI, .ref hB, .int lo, .ref aK, .ref aL, .ref aQ, .int (nI Ch), .int ct])), (aG, .inl ((D.1 101), 25, .inl fG))] sz) [(hX, .inr (11, [.ref hW, .ref hF, .ref hA_, .ref hT, .int (nI sc), .int pa, .int gu, .int cl, .int se, .int rf])), (hW, .inr (10, [.int (nI R), .int (nI C), .int (nI K), .int fi, .int di, .int br, .int li])), (hF, .inr (7, [.ref aB, .ref aS, .ref aN, .ref aM, .int he, .int lu])), (hA_, .inr (9, [.ref aCn, .ref aE, .ref aLE, .int dn, .int ea])), (hT, .inr (8, [.ref aC, .ref aG, .ref aI, .ref hB, .int lo, .ref aK, .ref aL, .ref aQ, .int (nI Ch), .int ct])), (aG, .inl ((D.1 101), 25, .inl fG))]) (va_A [(hX, .inr (11, [.ref hW, .ref hF, .ref hA_, .ref hT, .int (nI sc), .int pa, .int gu, .int cl, .int se, .int rf])), (hW, .inr (10, [.int (nI R), .int (nI C), .int (nI K), .int fi, .int di, .int br, .int li])), (hF, .inr (7, [.ref aB, .ref aS, .ref aN, .ref aM, .int he, .int lu])), (hA_, .inr (9, [.ref aCn, .ref aE, .ref aLE, .int dn, .int ea])), (hT, .inr (8, [.ref aC, .ref aG, .ref aI, .ref hB, .int lo, .ref aK, .ref aL, .ref aQ, .int (nI Ch), .int ct])), (aG, .inl ((D.1 101), 25, .inl fG))] sz)) (vx_X (fun _ : Unit => True) (fun (E : String) (_ : Unit) (_ : State) => (E_X4_board x1) ≠ 0 ∧ E = xname (E_X4_board x1)) (fun q : Nat => sz ≤ q)) 1 6 (va_A [(hX, .inr (11, [.ref hW, .ref hF, .ref hA_, .ref hT, .int (nI sc), .int pa, .int gu, .int cl, .int se, .int rf])), (hW, .inr (10, [.int (nI R), .int (nI C), .int (nI K), .int fi, .int di, .int br, .int li])), (hF, .inr (7, [.ref aB, .ref aS, .ref aN, .ref aM, .int he, .int lu])), (hA_, .inr (9, [.ref aCn, .ref aE, .ref aLE, .int dn, .int ea])), (hT, .inr (8, [.ref aC, .ref aG, .ref aI, .ref hB, .int lo, .ref aK, .ref aL, .ref aQ, .int (nI Ch), .int ct])), (aG, .inl ((D.1 101), 25, .inl fG))] sz) := by
  refine vx_ofW (cc := cX4_board) (maxL := 2) (ret := (some .int)) (by decide) rfl ?_
  intro p e s m args below meth c s₁ B hml hno hv
  obtain ⟨rfl, hsz, hP, hK, hD0, hN, hZ⟩ := hv
  have hx := B.exec
  have hb := B.bytes
  have hr := B.returns
  have hts : ∀ wd ∈ lwAll, wd.before ([.ref hX, .int x1] : List Value).toArray s = true := fun wd h => atoms_spec (ws := (Cond.code yX4_board cX4_board 2 (some .int) :: lwAll)) B.pre wd (List.mem_cons_of_mem _ h)
  have hown : s.vm.findClass RX4 = some m.cls := findClass_of_methodNamed B.named
  have hlocks := B.notSynchronized
  subst hsz
  have hD := hD0.self (sz := s.heap.size)
  have hl := lv_entry ([.ref hX, .int x1]) (n := 2) (Nat.le_of_ble_eq_true rfl)
  rw [lg_entry_eq]
  generalize (lg_sl ([.ref hX, .int x1]) ++ List.replicate (2 - (lg_sl ([.ref hX, .int x1])).length) Slot.unset).toArray = ls at hl ⊢
  have hl : lv_has ls 2 [(0, .ref hX), (1, .int x1)] := hl
  have hS : va_S (fun q : Nat => s.heap.size ≤ q) s.heap s.heap [] := va_S.rf
  generalize hQe : vx_MQ below (va_Qi (fun (r : Int32) (_ : Unit) => r = (F_X4_board sc pa gu rf R C K fi di br li lu ea lo Ch ct fG x1) ∧ (E_X4_board x1) = 0) (fun (_ : Unit) t => va_P D vwCl [(hX, .inr (11, [.ref hW, .ref hF, .ref hA_, .ref hT, .int (nI sc), .int pa, .int gu, .int cl, .int se, .int rf])), (hW, .inr (10, [.int (nI R), .int (nI C), .int (nI K), .int fi, .int di, .int br, .int li])), (hF, .inr (7, [.ref aB, .ref aS, .ref aN, .ref aM, .int he, .int lu])), (hA_, .inr (9, [.ref aCn, .ref aE, .ref aLE, .int dn, .int ea])), (hT, .inr (8, [.ref aC, .ref aG, .ref aI, .ref hB, .int lo, .ref aK, .ref aL, .ref aQ, .int (nI Ch), .int ct])), (aG, .inl ((D.1 101), 25, .inl fG))] t.heap ∧ va_D (va_A [(hX, .inr (11, [.ref hW, .ref hF, .ref hA_, .ref hT, .int (nI sc), .int pa, .int gu, .int cl, .int se, .int rf])), (hW, .inr (10, [.int (nI R), .int (nI C), .int (nI K), .int fi, .int di, .int br, .int li])), (hF, .inr (7, [.ref aB, .ref aS, .ref aN, .ref aM, .int he, .int lu])), (hA_, .inr (9, [.ref aCn, .ref aE, .ref aLE, .int dn, .int ea])), (hT, .inr (8, [.ref aC, .ref aG, .ref aI, .ref hB, .int lo, .ref aK, .ref aL, .ref aQ, .int (nI Ch), .int ct])), (aG, .inl ((D.1 101), 25, .inl fG))] s.heap.size) [(hX, .inr (11, [.ref hW, .ref hF, .ref hA_, .ref hT, .int (nI sc), .int pa, .int gu, .int cl, .int se, .int rf])), (hW, .inr (10, [.int (nI R), .int (nI C), .int (nI K), .int fi, .int di, .int br, .int li])), (hF, .inr (7, [.ref aB, .ref aS, .ref aN, .ref aM, .int he, .int lu])), (hA_, .inr (9, [.ref aCn, .ref aE, .ref aLE, .int dn, .int ea])), (hT, .inr (8, [.ref aC, .ref aG, .ref aI, .ref hB, .int lo, .ref aK, .ref aL, .ref aQ, .int (nI Ch), .int ct])), (aG, .inl ((D.1 101), 25, .inl fG))]) (va_A [(hX, .inr (11, [.ref hW, .ref hF, .ref hA_, .ref hT, .int (nI sc), .int pa, .int gu, .int cl, .int se, .int rf])), (hW, .inr (10, [.int (nI R), .int (nI C), .int (nI K), .int fi, .int di, .int br, .int li])), (hF, .inr (7, [.ref aB, .ref aS, .ref aN, .ref aM, .int he, .int lu])), (hA_, .inr (9, [.ref aCn, .ref aE, .ref aLE, .int dn, .int ea])), (hT, .inr (8, [.ref aC, .ref aG, .ref aI, .ref hB, .int lo, .ref aK, .ref aL, .ref aQ, .int (nI Ch), .int ct])), (aG, .inl ((D.1 101), 25, .inl fG))] s.heap.size)) (vx_X (fun _ : Unit => True) (fun (E : String) (_ : Unit) (_ : State) => (E_X4_board x1) ≠ 0 ∧ E = xname (E_X4_board x1)) (fun q : Nat => s.heap.size ≤ q)) ([.ref hX, .int x1] : List Value).toArray s 1 6 (va_A [(hX, .inr (11, [.ref hW, .ref hF, .ref hA_, .ref hT, .int (nI sc), .int pa, .int gu, .int cl, .int se, .int rf])), (hW, .inr (10, [.int (nI R), .int (nI C), .int (nI K), .int fi, .int di, .int br, .int li])), (hF, .inr (7, [.ref aB, .ref aS, .ref aN, .ref aM, .int he, .int lu])), (hA_, .inr (9, [.ref aCn, .ref aE, .ref aLE, .int dn, .int ea])), (hT, .inr (8, [.ref aC, .ref aG, .ref aI, .ref hB, .int lo, .ref aK, .ref aL, .ref aQ, .int (nI Ch), .int ct])), (aG, .inl ((D.1 101), 25, .inl fG))] s.heap.size) = Q
  have hP : va_P D vwCl [(hX, .inr (11, [.ref hW, .ref hF, .ref hA_, .ref hT, .int (nI sc), .int pa, .int gu, .int cl, .int se, .int rf])), (hW, .inr (10, [.int (nI R), .int (nI C), .int (nI K), .int fi, .int di, .int br, .int li])), (hF, .inr (7, [.ref aB, .ref aS, .ref aN, .ref aM, .int he, .int lu])), (hA_, .inr (9, [.ref aCn, .ref aE, .ref aLE, .int dn, .int ea])), (hT, .inr (8, [.ref aC, .ref aG, .ref aI, .ref hB, .int lo, .ref aK, .ref aL, .ref aQ, .int (nI Ch), .int ct])), (aG, .inl ((D.1 101), 25, .inl fG))] s.heap := hP
  obtain ⟨A, hAe⟩ : ∃ A, A = va_A [(hX, .inr (11, [.ref hW, .ref hF, .ref hA_, .ref hT, .int (nI sc), .int pa, .int gu, .int cl, .int se, .int rf])), (hW, .inr (10, [.int (nI R), .int (nI C), .int (nI K), .int fi, .int di, .int br, .int li])), (hF, .inr (7, [.ref aB, .ref aS, .ref aN, .ref aM, .int he, .int lu])), (hA_, .inr (9, [.ref aCn, .ref aE, .ref aLE, .int dn, .int ea])), (hT, .inr (8, [.ref aC, .ref aG, .ref aI, .ref hB, .int lo, .ref aK, .ref aL, .ref aQ, .int (nI Ch), .int ct])), (aG, .inl ((D.1 101), 25, .inl fG))] s.heap.size := ⟨_, rfl⟩
  rw [← hAe] at hD hZ
  have hA : ∀ q : Nat, s.heap.size ≤ q → A q := fun q h => by rw [hAe]; exact Or.inr h
  obtain ⟨H, hHe⟩ : ∃ H, H = s.heap := ⟨_, rfl⟩
  obtain ⟨locs, hLe⟩ : ∃ L : List Loc, L = [] := ⟨_, rfl⟩
  have hP : va_P D vwCl [(hX, .inr (11, [.ref hW, .ref hF, .ref hA_, .ref hT, .int (nI sc), .int pa, .int gu, .int cl, .int se, .int rf])), (hW, .inr (10, [.int (nI R), .int (nI C), .int (nI K), .int fi, .int di, .int br, .int li])), (hF, .inr (7, [.ref aB, .ref aS, .ref aN, .ref aM, .int he, .int lu])), (hA_, .inr (9, [.ref aCn, .ref aE, .ref aLE, .int dn, .int ea])), (hT, .inr (8, [.ref aC, .ref aG, .ref aI, .ref hB, .int lo, .ref aK, .ref aL, .ref aQ, .int (nI Ch), .int ct])), (aG, .inl ((D.1 101), 25, .inl fG))] H := by rw [hHe]; exact hP
  have hS : va_S (fun q : Nat => s.heap.size ≤ q) s.heap H locs := by rw [hHe, hLe]; exact hS
  have hgoal : W p l e ({ frames := 6, cells := 1, slots := 6, locals := 123 } : Room) s m ([.ref hX, .int x1] : List Value).toArray below meth c H locs 0 0 Q (F0 m 0 ls []) := by
    clear hHe hLe
    refine lv_iload_n hx hb dX4_board_0 rfl (lv_at hl 1 rfl) ?_
    refine lv_if_lt (tgt := 10) hx hb dX4_board_1 (by decide) (fun c_1 => ?_) (fun c_1 => ?_)
    · subst hQe
      subst hAe
      obtain ⟨sa, hstr⟩ := hN.2 _ (List.mem_of_getElem? (i := 13) rfl)
      have hE9 : (E_X4_board x1) = 1 := (by unfold E_X4_board; rw [if_pos c_1])
      exact vx_throwS (own := RX4) (cls := "java/lang/IllegalArgumentException") (text := "what is 0 to 14") (names := ["java/lang/RuntimeException", "java/lang/Exception"]) hx hb hst hown (by decide +kernel) (by decide +kernel) (hts _ q_863) (hts _ q_102) hstr (at_1_hat hts hN.1) at_1_ot hZ.2.2.1 hZ.2.2.2 (va_S_up hS hA) (hl.1.trans hml.symm) dX4_board_10 dX4_board_13 dX4_board_14 dX4_board_16 dX4_board_19 (fun x h => (hno x h).elim) (Nat.le_of_ble_eq_true rfl) (Nat.le_of_ble_eq_true rfl) (show 0 + 1 ≤ 1 from by omega) (show 0 + 6 ≤ 6 from by omega) hlocks (fun t hv hz hk => ⟨(), trivial, ⟨by rw [hE9]; decide, by rw [hE9]; rfl⟩, Nat.le_trans hS.1 hz, fun q h1 h2 => (hk q (Nat.lt_of_lt_of_le h1 hS.1)).trans (hS.2.1 q h1 h2)⟩) (fun z hz => Or.inr (hS.2.2 z hz)) (show 0 + 1 ≤ 1 from by omega) (show 0 + 6 ≤ 6 from by omega)
    · refine lv_iload_n hx hb dX4_board_4 rfl (lv_at hl 1 rfl) ?_
      refine lv_bipush (v := 14) hx hb dX4_board_5 (by decide) ?_
      refine lv_icmp_le (tgt := 20) hx hb dX4_board_7 (by decide) (fun c_2 => ?_) (fun c_2 => ?_)
      · refine lv_aload_n hx hb dX4_board_20 rfl (lv_at hl 0 rfl) ?_
        refine lv_iload_n hx hb dX4_board_21 rfl (lv_at hl 1 rfl) ?_
        have hPc := hP.sub (ws' := [(hX, .inr (11, [.ref hW, .ref hF, .ref hA_, .ref hT, .int (nI sc), .int pa, .int gu, .int cl, .int se, .int rf])), (hW, .inr (10, [.int (nI R), .int (nI C), .int (nI K), .int fi, .int di, .int br, .int li])), (hF, .inr (7, [.ref aB, .ref aS, .ref aN, .ref aM, .int he, .int lu])), (hA_, .inr (9, [.ref aCn, .ref aE, .ref aLE, .int dn, .int ea])), (hT, .inr (8, [.ref aC, .ref aG, .ref aI, .ref hB, .int lo, .ref aK, .ref aL, .ref aQ, .int (nI Ch), .int ct])), (aG, .inl ((D.1 101), 25, .inl fG))]) [0, 1, 2, 3, 4, 5] rfl
        have hDc := hD.sub (ws' := [(hX, .inr (11, [.ref hW, .ref hF, .ref hA_, .ref hT, .int (nI sc), .int pa, .int gu, .int cl, .int se, .int rf])), (hW, .inr (10, [.int (nI R), .int (nI C), .int (nI K), .int fi, .int di, .int br, .int li])), (hF, .inr (7, [.ref aB, .ref aS, .ref aN, .ref aM, .int he, .int lu])), (hA_, .inr (9, [.ref aCn, .ref aE, .ref aLE, .int dn, .int ea])), (hT, .inr (8, [.ref aC, .ref aG, .ref aI, .ref hB, .int lo, .ref aK, .ref aL, .ref aQ, .int (nI Ch), .int ct])), (aG, .inl ((D.1 101), 25, .inl fG))]) [0, 1, 2, 3, 4, 5] (by decide) rfl
        have hFc := va_free (wc := [(hX, .inr (11, [.ref hW, .ref hF, .ref hA_, .ref hT, .int (nI sc), .int pa, .int gu, .int cl, .int se, .int rf])), (hW, .inr (10, [.int (nI R), .int (nI C), .int (nI K), .int fi, .int di, .int br, .int li])), (hF, .inr (7, [.ref aB, .ref aS, .ref aN, .ref aM, .int he, .int lu])), (hA_, .inr (9, [.ref aCn, .ref aE, .ref aLE, .int dn, .int ea])), (hT, .inr (8, [.ref aC, .ref aG, .ref aI, .ref hB, .int lo, .ref aK, .ref aL, .ref aQ, .int (nI Ch), .int ct])), (aG, .inl ((D.1 101), 25, .inl fG))]) hD (va_S_up hS hA) hA [0, 1, 2, 3, 4, 5] rfl
        refine va_calli (va_runV (As := [.int x1]) (rest := []) ⟨hx, hb, hml, hown, hts⟩ (c_X4_tellBoard l D hX hW hF hA_ hT sc pa gu cl se rf R C K fi di br li aB aS aN aM he lu aCn aE aLE dn ea aC aG aI hB aK aL aQ lo Ch ct fG x1.toNatClampNeg x1 H.size (show R ≤ 5 from hR) (show K ≤ 25 from hKb) (show x1.toNatClampNeg ≤ 14 from (rng_ok (y := 14) (n := 14) rfl (by decide) (by assumption) (by assumption)).2) (show gu = 0 ∨ gu = 1 from (by assumption)) (show x1 = nI x1.toNatClampNeg from (rng_ok (y := 14) (n := 14) rfl (by decide) (by assumption) (by assumption)).1)) (cwV 1 hts (gi_V q_775 q_777 q_19 q_80 q_778) rfl rfl rfl (by decide +kernel) ⟨Nat.le_of_ble_eq_true rfl, Nat.le_of_ble_eq_true rfl⟩) ⟨cPre_blind, va_recv hK hP (ci := 11) (q0 := 0) rfl rfl, cPre_mk hPc hK hDc hN (lwZ_for hZ (va_S_up hS hA) hFc)⟩ rfl rfl hl.1 rfl (lv_room (Nat.le_of_ble_eq_true rfl)) dX4_board_22 ⟨(show 0 + 0 ≤ 1 from (by omega)), (show 0 + 0 ≤ 6 from (by omega))⟩) hS (fun q h1 h2 => absurd h2 (Nat.not_le.mpr h1)) (fun q h => Nat.le_trans hS.1 h) (fun r_22 u t H1 locs ht hvm hw hBk hz1 hk1 hS => ?_)
        have hP := va_P_ro hP hk1
        subst hw
        clear hBk hvm ht u hz1 hk1
        clear hPc hDc hFc; clear t
        generalize H1 = H at hP hS ⊢
        subst hQe
        refine vx_ret ?_
        have hS := va_S_up hS hA
        subst hAe
        have hE : (F_X4_board sc pa gu rf R C K fi di br li lu ea lo Ch ct fG x1) = F_X4_tellBoard sc pa gu rf R C K fi di br li lu ea lo Ch ct fG x1.toNatClampNeg := (by unfold F_X4_board; rw [if_neg c_1, if_pos c_2])
        have hE9 : (E_X4_board x1) = 0 := (by unfold E_X4_board; rw [if_neg c_1, if_pos c_2])
        refine W.widen (k := 1) (n := 6) (by omega) (by omega) ?_
        have hP9 := hP.sub (ws' := [(hX, .inr (11, [.ref hW, .ref hF, .ref hA_, .ref hT, .int (nI sc), .int pa, .int gu, .int cl, .int se, .int rf])), (hW, .inr (10, [.int (nI R), .int (nI C), .int (nI K), .int fi, .int di, .int br, .int li])), (hF, .inr (7, [.ref aB, .ref aS, .ref aN, .ref aM, .int he, .int lu])), (hA_, .inr (9, [.ref aCn, .ref aE, .ref aLE, .int dn, .int ea])), (hT, .inr (8, [.ref aC, .ref aG, .ref aI, .ref hB, .int lo, .ref aK, .ref aL, .ref aQ, .int (nI Ch), .int ct])), (aG, .inl ((D.1 101), 25, .inl fG))]) [0, 1, 2, 3, 4, 5] rfl
        have hD9 := hD.sub (ws' := [(hX, .inr (11, [.ref hW, .ref hF, .ref hA_, .ref hT, .int (nI sc), .int pa, .int gu, .int cl, .int se, .int rf])), (hW, .inr (10, [.int (nI R), .int (nI C), .int (nI K), .int fi, .int di, .int br, .int li])), (hF, .inr (7, [.ref aB, .ref aS, .ref aN, .ref aM, .int he, .int lu])), (hA_, .inr (9, [.ref aCn, .ref aE, .ref aLE, .int dn, .int ea])), (hT, .inr (8, [.ref aC, .ref aG, .ref aI, .ref hB, .int lo, .ref aK, .ref aL, .ref aQ, .int (nI Ch), .int ct])), (aG, .inl ((D.1 101), 25, .inl fG))]) [0, 1, 2, 3, 4, 5] (by decide) rfl
        exact W.iret (v := F_X4_tellBoard sc pa gu rf R C K fi di br li lu ea lo Ch ct fG x1.toNatClampNeg) hx hb hr (fun t ht hW => ⟨⟨F_X4_tellBoard sc pa gu rf R C K fi di br li lu ea lo Ch ct fG x1.toNatClampNeg, (), rfl, ⟨(by rw [hE]), hE9⟩, (by (try rw [hE]); rw [ht]; exact hP9), (by (try rw [hE]); exact hD9)⟩, hS.F ht⟩) hS.2.2 dX4_board_25
      · subst hQe
        subst hAe
        obtain ⟨sa, hstr⟩ := hN.2 _ (List.mem_of_getElem? (i := 13) rfl)
        have hE9 : (E_X4_board x1) = 1 := (by unfold E_X4_board; rw [if_neg c_1, if_neg c_2])
        exact vx_throwS (own := RX4) (cls := "java/lang/IllegalArgumentException") (text := "what is 0 to 14") (names := ["java/lang/RuntimeException", "java/lang/Exception"]) hx hb hst hown (by decide +kernel) (by decide +kernel) (hts _ q_863) (hts _ q_102) hstr (at_1_hat hts hN.1) at_1_ot hZ.2.2.1 hZ.2.2.2 (va_S_up hS hA) (hl.1.trans hml.symm) dX4_board_10 dX4_board_13 dX4_board_14 dX4_board_16 dX4_board_19 (fun x h => (hno x h).elim) (Nat.le_of_ble_eq_true rfl) (Nat.le_of_ble_eq_true rfl) (show 0 + 1 ≤ 1 from by omega) (show 0 + 6 ≤ 6 from by omega) hlocks (fun t hv hz hk => ⟨(), trivial, ⟨by rw [hE9]; decide, by rw [hE9]; rfl⟩, Nat.le_trans hS.1 hz, fun q h1 h2 => (hk q (Nat.lt_of_lt_of_le h1 hS.1)).trans (hS.2.1 q h1 h2)⟩) (fun z hz => Or.inr (hS.2.2 z hz)) (show 0 + 1 ≤ 1 from by omega) (show 0 + 6 ≤ 6 from by omega)
  rw [hHe, hLe] at hgoal
  exact hgoal

def E_X4_seen (K : Nat) (x1 : Int32) : Nat := (if (F_X3_isSet K x1) = 0 then 1 else 0)
def F_X4_seen (R : Nat) (C : Nat) (K : Nat) (fi : Int32) (di : Int32) (li : Int32) (x1 : Int32) : Int32 := (if (F_X3_isSet K x1) = 0 then 0 else F_X3_seenIf R C fi di li x1)
set_option maxHeartbeats 4000000 in
set_option maxRecDepth 100000 in
theorem c_X4_seen (l : Launch) (D : va_G) (hX : Nat) (hW : Nat) (hF : Nat) (hA_ : Nat) (hT : Nat) (sc : Nat) (pa : Int32) (gu : Int32) (cl : Int32) (se : Int32) (rf : Int32) (R : Nat) (C : Nat) (K : Nat) (fi : Int32) (di : Int32) (br : Int32) (li : Int32) (x1 : Int32) (sz : Nat) (hst : l.stackTraces = false) (hR : R ≤ 5) : vx_Met l yX4_seen (Cond.code yX4_seen cX4_seen 2 (some .int) :: lwAll) ({ frames := 6, cells := 1, slots := 6, locals := 90 } : Room) (va_Pc [.ref hX, .int x1] (cPre D (lwTY D) [(hX, .inr (11, [.ref hW, .ref hF, .ref hA_, .ref hT, .int (nI sc), .int pa, .int gu, .int cl, .int se, .int rf])), (hW, .inr (10, [.int (nI R), .int (nI C), .int (nI K), .int fi, .int di, .int br, .int li]))] sz)) (va_Qi (fun (r : Int32) (_ : Unit) => r = (F_X4_seen R C K fi di li x1) ∧ (E_X4_seen K x1) = 0) (fun (_ : Unit) t => va_P D vwCl [(hX, .inr (11, [.ref hW, .ref hF, .ref hA_, .ref hT, .int (nI sc), .int pa, .int gu, .int cl, .int se, .int rf])), (hW, .inr (10, [.int (nI R), .int (nI C), .int (nI K), .int fi, .int di, .int br, .int li]))] t.heap ∧ va_D (va_A [(hX, .inr (11, [.ref hW, .ref hF, .ref hA_, .ref hT, .int (nI sc), .int pa, .int gu, .int cl, .int se, .int rf])), (hW, .inr (10, [.int (nI R), .int (nI C), .int (nI K), .int fi, .int di, .int br, .int li]))] sz) [(hX, .inr (11, [.ref hW, .ref hF, .ref hA_, .ref hT, .int (nI sc), .int pa, .int gu, .int cl, .int se, .int rf])), (hW, .inr (10, [.int (nI R), .int (nI C), .int (nI K), .int fi, .int di, .int br, .int li]))]) (va_A [(hX, .inr (11, [.ref hW, .ref hF, .ref hA_, .ref hT, .int (nI sc), .int pa, .int gu, .int cl, .int se, .int rf])), (hW, .inr (10, [.int (nI R), .int (nI C), .int (nI K), .int fi, .int di, .int br, .int li]))] sz)) (vx_X (fun _ : Unit => True) (fun (E : String) (_ : Unit) (_ : State) => (E_X4_seen K x1) ≠ 0 ∧ E = xname (E_X4_seen K x1)) (fun q : Nat => sz ≤ q)) 1 6 (va_A [(hX, .inr (11, [.ref hW, .ref hF, .ref hA_, .ref hT, .int (nI sc), .int pa, .int gu, .int cl, .int se, .int rf])), (hW, .inr (10, [.int (nI R), .int (nI C), .int (nI K), .int fi, .int di, .int br, .int li]))] sz) := by
  refine vx_ofW (cc := cX4_seen) (maxL := 2) (ret := (some .int)) (by decide) rfl ?_
  intro p e s m args below meth c s₁ B hml hno hv
  obtain ⟨rfl, hsz, hP, hK, hD0, hN, hZ⟩ := hv
  have hx := B.exec
  have hb := B.bytes
  have hr := B.returns
  have hts : ∀ wd ∈ lwAll, wd.before ([.ref hX, .int x1] : List Value).toArray s = true := fun wd h => atoms_spec (ws := (Cond.code yX4_seen cX4_seen 2 (some .int) :: lwAll)) B.pre wd (List.mem_cons_of_mem _ h)
  have hown : s.vm.findClass RX4 = some m.cls := findClass_of_methodNamed B.named
  have hlocks := B.notSynchronized
  subst hsz
  have hD := hD0.self (sz := s.heap.size)
  have hl := lv_entry ([.ref hX, .int x1]) (n := 2) (Nat.le_of_ble_eq_true rfl)
  rw [lg_entry_eq]
  generalize (lg_sl ([.ref hX, .int x1]) ++ List.replicate (2 - (lg_sl ([.ref hX, .int x1])).length) Slot.unset).toArray = ls at hl ⊢
  have hl : lv_has ls 2 [(0, .ref hX), (1, .int x1)] := hl
  have hS : va_S (fun q : Nat => s.heap.size ≤ q) s.heap s.heap [] := va_S.rf
  generalize hQe : vx_MQ below (va_Qi (fun (r : Int32) (_ : Unit) => r = (F_X4_seen R C K fi di li x1) ∧ (E_X4_seen K x1) = 0) (fun (_ : Unit) t => va_P D vwCl [(hX, .inr (11, [.ref hW, .ref hF, .ref hA_, .ref hT, .int (nI sc), .int pa, .int gu, .int cl, .int se, .int rf])), (hW, .inr (10, [.int (nI R), .int (nI C), .int (nI K), .int fi, .int di, .int br, .int li]))] t.heap ∧ va_D (va_A [(hX, .inr (11, [.ref hW, .ref hF, .ref hA_, .ref hT, .int (nI sc), .int pa, .int gu, .int cl, .int se, .int rf])), (hW, .inr (10, [.int (nI R), .int (nI C), .int (nI K), .int fi, .int di, .int br, .int li]))] s.heap.size) [(hX, .inr (11, [.ref hW, .ref hF, .ref hA_, .ref hT, .int (nI sc), .int pa, .int gu, .int cl, .int se, .int rf])), (hW, .inr (10, [.int (nI R), .int (nI C), .int (nI K), .int fi, .int di, .int br, .int li]))]) (va_A [(hX, .inr (11, [.ref hW, .ref hF, .ref hA_, .ref hT, .int (nI sc), .int pa, .int gu, .int cl, .int se, .int rf])), (hW, .inr (10, [.int (nI R), .int (nI C), .int (nI K), .int fi, .int di, .int br, .int li]))] s.heap.size)) (vx_X (fun _ : Unit => True) (fun (E : String) (_ : Unit) (_ : State) => (E_X4_seen K x1) ≠ 0 ∧ E = xname (E_X4_seen K x1)) (fun q : Nat => s.heap.size ≤ q)) ([.ref hX, .int x1] : List Value).toArray s 1 6 (va_A [(hX, .inr (11, [.ref hW, .ref hF, .ref hA_, .ref hT, .int (nI sc), .int pa, .int gu, .int cl, .int se, .int rf])), (hW, .inr (10, [.int (nI R), .int (nI C), .int (nI K), .int fi, .int di, .int br, .int li]))] s.heap.size) = Q
  have hP : va_P D vwCl [(hX, .inr (11, [.ref hW, .ref hF, .ref hA_, .ref hT, .int (nI sc), .int pa, .int gu, .int cl, .int se, .int rf])), (hW, .inr (10, [.int (nI R), .int (nI C), .int (nI K), .int fi, .int di, .int br, .int li]))] s.heap := hP
  obtain ⟨A, hAe⟩ : ∃ A, A = va_A [(hX, .inr (11, [.ref hW, .ref hF, .ref hA_, .ref hT, .int (nI sc), .int pa, .int gu, .int cl, .int se, .int rf])), (hW, .inr (10, [.int (nI R), .int (nI C), .int (nI K), .int fi, .int di, .int br, .int li]))] s.heap.size := ⟨_, rfl⟩
  rw [← hAe] at hD hZ
  have hA : ∀ q : Nat, s.heap.size ≤ q → A q := fun q h => by rw [hAe]; exact Or.inr h
  obtain ⟨H, hHe⟩ : ∃ H, H = s.heap := ⟨_, rfl⟩
  obtain ⟨locs, hLe⟩ : ∃ L : List Loc, L = [] := ⟨_, rfl⟩
  have hP : va_P D vwCl [(hX, .inr (11, [.ref hW, .ref hF, .ref hA_, .ref hT, .int (nI sc), .int pa, .int gu, .int cl, .int se, .int rf])), (hW, .inr (10, [.int (nI R), .int (nI C), .int (nI K), .int fi, .int di, .int br, .int li]))] H := by rw [hHe]; exact hP
  have hS : va_S (fun q : Nat => s.heap.size ≤ q) s.heap H locs := by rw [hHe, hLe]; exact hS
  have hgoal : W p l e ({ frames := 6, cells := 1, slots := 6, locals := 90 } : Room) s m ([.ref hX, .int x1] : List Value).toArray below meth c H locs 0 0 Q (F0 m 0 ls []) := by
    clear hHe hLe
    refine lv_aload_n hx hb dX4_seen_0 rfl (lv_at hl 0 rfl) ?_
    refine va_get (D := D) (ci := 11) (v := .ref hW) (C := RX4) (T := TX4) (N := 10) hx hb hts in_X4 hown hK hP 0 rfl rfl 0 (by decide) (hts _ q_655) (fun _ h9 => h9) rfl dX4_seen_1 ?_
    refine lv_iload_n hx hb dX4_seen_4 rfl (lv_at hl 1 rfl) ?_
    have hPc := hP.sub (ws' := [(hW, .inr (10, [.int (nI R), .int (nI C), .int (nI K), .int fi, .int di, .int br, .int li]))]) [1] rfl
    have hDc := hD.sub (ws' := [(hW, .inr (10, [.int (nI R), .int (nI C), .int (nI K), .int fi, .int di, .int br, .int li]))]) [1] (by decide) rfl
    have hFc := va_free (wc := [(hW, .inr (10, [.int (nI R), .int (nI C), .int (nI K), .int fi, .int di, .int br, .int li]))]) hD (va_S_up hS hA) hA [1] rfl
    refine va_calli (va_runVN (As := [.int x1]) (rest := []) ⟨hx, hb, hml, hown, hts⟩ (c_X3_isSet l D hW R C K fi di br li x1 H.size ) ⟨va_cnB 1 hts (gi_sub q_832) rfl rfl rfl (hN.1 _ n_941) (hts _ q_81) (by decide +kernel) ⟨Nat.le_of_ble_eq_true rfl, Nat.le_of_ble_eq_true rfl⟩, (hts _ q_831), (hts _ q_27)⟩ ⟨cPre_blind, va_recv hK hP (ci := 10) (q0 := 1) rfl rfl, cPre_mk hPc hK hDc hN (lwZ_for hZ (va_S_up hS hA) hFc)⟩ rfl rfl hl.1 rfl (lv_room (Nat.le_of_ble_eq_true rfl)) dX4_seen_5 ⟨(show 0 + 0 ≤ 1 from (by omega)), (show 0 + 0 ≤ 6 from (by omega))⟩) hS (fun q h1 h2 => absurd h2 (Nat.not_le.mpr h1)) (fun q h => Nat.le_trans hS.1 h) (fun r_5 u t H1 locs ht hvm hw hBk hz1 hk1 hS => ?_)
    have hP := va_P_ro hP hk1
    obtain ⟨hw, z_1⟩ := hw
    rw [hw] at z_1
    subst hw
    clear hBk hvm ht u hz1 hk1
    clear hPc hDc hFc; clear t
    generalize H1 = H at hP hS ⊢
    refine lv_if_ne (tgt := 22) hx hb dX4_seen_8 (by decide) (fun c_2 => ?_) (fun c_2 => ?_)
    · refine lv_aload_n hx hb dX4_seen_22 rfl (lv_at hl 0 rfl) ?_
      refine va_get (D := D) (ci := 11) (v := .ref hW) (C := RX4) (T := TX4) (N := 10) hx hb hts in_X4 hown hK hP 0 rfl rfl 0 (by decide) (hts _ q_655) (fun _ h9 => h9) rfl dX4_seen_23 ?_
      refine lv_iload_n hx hb dX4_seen_26 rfl (lv_at hl 1 rfl) ?_
      have hPc := hP.sub (ws' := [(hW, .inr (10, [.int (nI R), .int (nI C), .int (nI K), .int fi, .int di, .int br, .int li]))]) [1] rfl
      have hDc := hD.sub (ws' := [(hW, .inr (10, [.int (nI R), .int (nI C), .int (nI K), .int fi, .int di, .int br, .int li]))]) [1] (by decide) rfl
      have hFc := va_free (wc := [(hW, .inr (10, [.int (nI R), .int (nI C), .int (nI K), .int fi, .int di, .int br, .int li]))]) hD (va_S_up hS hA) hA [1] rfl
      refine va_calli (va_runVN (As := [.int x1]) (rest := []) ⟨hx, hb, hml, hown, hts⟩ (c_X3_seenIf l D hW R C K fi di br li x1 H.size (show R ≤ 5 from hR)) ⟨va_cnB 1 hts (gi_sub q_744) rfl rfl rfl (hN.1 _ n_992) (hts _ q_81) (by decide +kernel) ⟨Nat.le_of_ble_eq_true rfl, Nat.le_of_ble_eq_true rfl⟩, (hts _ q_743), (hts _ q_12)⟩ ⟨cPre_blind, va_recv hK hP (ci := 10) (q0 := 1) rfl rfl, cPre_mk hPc hK hDc hN (lwZ_for hZ (va_S_up hS hA) hFc)⟩ rfl rfl hl.1 rfl (lv_room (Nat.le_of_ble_eq_true rfl)) dX4_seen_27 ⟨(show 0 + 0 ≤ 1 from (by omega)), (show 0 + 0 ≤ 6 from (by omega))⟩) hS (fun q h1 h2 => absurd h2 (Nat.not_le.mpr h1)) (fun q h => Nat.le_trans hS.1 h) (fun r_27 u t H1 locs ht hvm hw hBk hz1 hk1 hS => ?_)
      have hP := va_P_ro hP hk1
      subst hw
      clear hBk hvm ht u hz1 hk1
      clear hPc hDc hFc; clear t
      generalize H1 = H at hP hS ⊢
      subst hQe
      refine vx_ret ?_
      have hS := va_S_up hS hA
      subst hAe
      have hE : (F_X4_seen R C K fi di li x1) = F_X3_seenIf R C fi di li x1 := (by unfold F_X4_seen; rw [if_neg c_2])
      have hE9 : (E_X4_seen K x1) = 0 := (by unfold E_X4_seen; rw [if_neg c_2])
      refine W.widen (k := 1) (n := 6) (by omega) (by omega) ?_
      have hP9 := hP.sub (ws' := [(hX, .inr (11, [.ref hW, .ref hF, .ref hA_, .ref hT, .int (nI sc), .int pa, .int gu, .int cl, .int se, .int rf])), (hW, .inr (10, [.int (nI R), .int (nI C), .int (nI K), .int fi, .int di, .int br, .int li]))]) [0, 1] rfl
      have hD9 := hD.sub (ws' := [(hX, .inr (11, [.ref hW, .ref hF, .ref hA_, .ref hT, .int (nI sc), .int pa, .int gu, .int cl, .int se, .int rf])), (hW, .inr (10, [.int (nI R), .int (nI C), .int (nI K), .int fi, .int di, .int br, .int li]))]) [0, 1] (by decide) rfl
      exact W.iret (v := F_X3_seenIf R C fi di li x1) hx hb hr (fun t ht hW => ⟨⟨F_X3_seenIf R C fi di li x1, (), rfl, ⟨(by rw [hE]), hE9⟩, (by (try rw [hE]); rw [ht]; exact hP9), (by (try rw [hE]); exact hD9)⟩, hS.F ht⟩) hS.2.2 dX4_seen_30
    · subst hQe
      subst hAe
      obtain ⟨sa, hstr⟩ := hN.2 _ (List.mem_of_getElem? (i := 15) rfl)
      have hE9 : (E_X4_seen K x1) = 1 := (by unfold E_X4_seen; rw [if_pos c_2])
      exact vx_throwSW (own := RX4) (cls := "java/lang/IllegalArgumentException") (text := "no set of keys") (names := ["java/lang/RuntimeException", "java/lang/Exception"]) hx hb hst hown (by decide +kernel) (by decide +kernel) (hts _ q_863) (hts _ q_102) hstr (at_1_hat hts hN.1) at_1_ot hZ.2.2.1 hZ.2.2.2 (va_S_up hS hA) (hl.1.trans hml.symm) dX4_seen_11 dX4_seen_14 dX4_seen_15 dX4_seen_18 dX4_seen_21 (fun x h => (hno x h).elim) (Nat.le_of_ble_eq_true rfl) (Nat.le_of_ble_eq_true rfl) (show 0 + 1 ≤ 1 from by omega) (show 0 + 6 ≤ 6 from by omega) hlocks (fun t hv hz hk => ⟨(), trivial, ⟨by rw [hE9]; decide, by rw [hE9]; rfl⟩, Nat.le_trans hS.1 hz, fun q h1 h2 => (hk q (Nat.lt_of_lt_of_le h1 hS.1)).trans (hS.2.1 q h1 h2)⟩) (fun z hz => Or.inr (hS.2.2 z hz)) (show 0 + 1 ≤ 1 from by omega) (show 0 + 6 ≤ 6 from by omega)
  rw [hHe, hLe] at hgoal
  exact hgoal

def E_X4_exact (K : Nat) (x1 : Int32) : Nat := (if (F_X3_isSet K x1) = 0 then 1 else 0)
def F_X4_exact (R : Nat) (C : Nat) (K : Nat) (fi : Int32) (di : Int32) (li : Int32) (x1 : Int32) : Int32 := (if (F_X3_isSet K x1) = 0 then 0 else F_X3_isExact R C fi di li x1)
set_option maxHeartbeats 4000000 in
set_option maxRecDepth 100000 in
theorem c_X4_exact (l : Launch) (D : va_G) (hX : Nat) (hW : Nat) (hF : Nat) (hA_ : Nat) (hT : Nat) (sc : Nat) (pa : Int32) (gu : Int32) (cl : Int32) (se : Int32) (rf : Int32) (R : Nat) (C : Nat) (K : Nat) (fi : Int32) (di : Int32) (br : Int32) (li : Int32) (x1 : Int32) (sz : Nat) (hst : l.stackTraces = false) (hR : R ≤ 5) : vx_Met l yX4_exact (Cond.code yX4_exact cX4_exact 2 (some .boolean) :: lwAll) ({ frames := 6, cells := 1, slots := 6, locals := 97 } : Room) (va_Pc [.ref hX, .int x1] (cPre D (lwTY D) [(hX, .inr (11, [.ref hW, .ref hF, .ref hA_, .ref hT, .int (nI sc), .int pa, .int gu, .int cl, .int se, .int rf])), (hW, .inr (10, [.int (nI R), .int (nI C), .int (nI K), .int fi, .int di, .int br, .int li]))] sz)) (va_Qi (fun (r : Int32) (_ : Unit) => r = (F_X4_exact R C K fi di li x1) ∧ (r = 0 ∨ r = 1) ∧ (E_X4_exact K x1) = 0) (fun (_ : Unit) t => va_P D vwCl [(hX, .inr (11, [.ref hW, .ref hF, .ref hA_, .ref hT, .int (nI sc), .int pa, .int gu, .int cl, .int se, .int rf])), (hW, .inr (10, [.int (nI R), .int (nI C), .int (nI K), .int fi, .int di, .int br, .int li]))] t.heap ∧ va_D (va_A [(hX, .inr (11, [.ref hW, .ref hF, .ref hA_, .ref hT, .int (nI sc), .int pa, .int gu, .int cl, .int se, .int rf])), (hW, .inr (10, [.int (nI R), .int (nI C), .int (nI K), .int fi, .int di, .int br, .int li]))] sz) [(hX, .inr (11, [.ref hW, .ref hF, .ref hA_, .ref hT, .int (nI sc), .int pa, .int gu, .int cl, .int se, .int rf])), (hW, .inr (10, [.int (nI R), .int (nI C), .int (nI K), .int fi, .int di, .int br, .int li]))]) (va_A [(hX, .inr (11, [.ref hW, .ref hF, .ref hA_, .ref hT, .int (nI sc), .int pa, .int gu, .int cl, .int se, .int rf])), (hW, .inr (10, [.int (nI R), .int (nI C), .int (nI K), .int fi, .int di, .int br, .int li]))] sz)) (vx_X (fun _ : Unit => True) (fun (E : String) (_ : Unit) (_ : State) => (E_X4_exact K x1) ≠ 0 ∧ E = xname (E_X4_exact K x1)) (fun q : Nat => sz ≤ q)) 1 6 (va_A [(hX, .inr (11, [.ref hW, .ref hF, .ref hA_, .ref hT, .int (nI sc), .int pa, .int gu, .int cl, .int se, .int rf])), (hW, .inr (10, [.int (nI R), .int (nI C), .int (nI K), .int fi, .int di, .int br, .int li]))] sz) := by
  refine vx_ofW (cc := cX4_exact) (maxL := 2) (ret := (some .boolean)) (by decide) rfl ?_
  intro p e s m args below meth c s₁ B hml hno hv
  obtain ⟨rfl, hsz, hP, hK, hD0, hN, hZ⟩ := hv
  have hx := B.exec
  have hb := B.bytes
  have hr := B.returns
  have hts : ∀ wd ∈ lwAll, wd.before ([.ref hX, .int x1] : List Value).toArray s = true := fun wd h => atoms_spec (ws := (Cond.code yX4_exact cX4_exact 2 (some .boolean) :: lwAll)) B.pre wd (List.mem_cons_of_mem _ h)
  have hown : s.vm.findClass RX4 = some m.cls := findClass_of_methodNamed B.named
  have hlocks := B.notSynchronized
  subst hsz
  have hD := hD0.self (sz := s.heap.size)
  have hl := lv_entry ([.ref hX, .int x1]) (n := 2) (Nat.le_of_ble_eq_true rfl)
  rw [lg_entry_eq]
  generalize (lg_sl ([.ref hX, .int x1]) ++ List.replicate (2 - (lg_sl ([.ref hX, .int x1])).length) Slot.unset).toArray = ls at hl ⊢
  have hl : lv_has ls 2 [(0, .ref hX), (1, .int x1)] := hl
  have hS : va_S (fun q : Nat => s.heap.size ≤ q) s.heap s.heap [] := va_S.rf
  generalize hQe : vx_MQ below (va_Qi (fun (r : Int32) (_ : Unit) => r = (F_X4_exact R C K fi di li x1) ∧ (r = 0 ∨ r = 1) ∧ (E_X4_exact K x1) = 0) (fun (_ : Unit) t => va_P D vwCl [(hX, .inr (11, [.ref hW, .ref hF, .ref hA_, .ref hT, .int (nI sc), .int pa, .int gu, .int cl, .int se, .int rf])), (hW, .inr (10, [.int (nI R), .int (nI C), .int (nI K), .int fi, .int di, .int br, .int li]))] t.heap ∧ va_D (va_A [(hX, .inr (11, [.ref hW, .ref hF, .ref hA_, .ref hT, .int (nI sc), .int pa, .int gu, .int cl, .int se, .int rf])), (hW, .inr (10, [.int (nI R), .int (nI C), .int (nI K), .int fi, .int di, .int br, .int li]))] s.heap.size) [(hX, .inr (11, [.ref hW, .ref hF, .ref hA_, .ref hT, .int (nI sc), .int pa, .int gu, .int cl, .int se, .int rf])), (hW, .inr (10, [.int (nI R), .int (nI C), .int (nI K), .int fi, .int di, .int br, .int li]))]) (va_A [(hX, .inr (11, [.ref hW, .ref hF, .ref hA_, .ref hT, .int (nI sc), .int pa, .int gu, .int cl, .int se, .int rf])), (hW, .inr (10, [.int (nI R), .int (nI C), .int (nI K), .int fi, .int di, .int br, .int li]))] s.heap.size)) (vx_X (fun _ : Unit => True) (fun (E : String) (_ : Unit) (_ : State) => (E_X4_exact K x1) ≠ 0 ∧ E = xname (E_X4_exact K x1)) (fun q : Nat => s.heap.size ≤ q)) ([.ref hX, .int x1] : List Value).toArray s 1 6 (va_A [(hX, .inr (11, [.ref hW, .ref hF, .ref hA_, .ref hT, .int (nI sc), .int pa, .int gu, .int cl, .int se, .int rf])), (hW, .inr (10, [.int (nI R), .int (nI C), .int (nI K), .int fi, .int di, .int br, .int li]))] s.heap.size) = Q
  have hP : va_P D vwCl [(hX, .inr (11, [.ref hW, .ref hF, .ref hA_, .ref hT, .int (nI sc), .int pa, .int gu, .int cl, .int se, .int rf])), (hW, .inr (10, [.int (nI R), .int (nI C), .int (nI K), .int fi, .int di, .int br, .int li]))] s.heap := hP
  obtain ⟨A, hAe⟩ : ∃ A, A = va_A [(hX, .inr (11, [.ref hW, .ref hF, .ref hA_, .ref hT, .int (nI sc), .int pa, .int gu, .int cl, .int se, .int rf])), (hW, .inr (10, [.int (nI R), .int (nI C), .int (nI K), .int fi, .int di, .int br, .int li]))] s.heap.size := ⟨_, rfl⟩
  rw [← hAe] at hD hZ
  have hA : ∀ q : Nat, s.heap.size ≤ q → A q := fun q h => by rw [hAe]; exact Or.inr h
  obtain ⟨H, hHe⟩ : ∃ H, H = s.heap := ⟨_, rfl⟩
  obtain ⟨locs, hLe⟩ : ∃ L : List Loc, L = [] := ⟨_, rfl⟩
  have hP : va_P D vwCl [(hX, .inr (11, [.ref hW, .ref hF, .ref hA_, .ref hT, .int (nI sc), .int pa, .int gu, .int cl, .int se, .int rf])), (hW, .inr (10, [.int (nI R), .int (nI C), .int (nI K), .int fi, .int di, .int br, .int li]))] H := by rw [hHe]; exact hP
  have hS : va_S (fun q : Nat => s.heap.size ≤ q) s.heap H locs := by rw [hHe, hLe]; exact hS
  have hgoal : W p l e ({ frames := 6, cells := 1, slots := 6, locals := 97 } : Room) s m ([.ref hX, .int x1] : List Value).toArray below meth c H locs 0 0 Q (F0 m 0 ls []) := by
    clear hHe hLe
    refine lv_aload_n hx hb dX4_exact_0 rfl (lv_at hl 0 rfl) ?_
    refine va_get (D := D) (ci := 11) (v := .ref hW) (C := RX4) (T := TX4) (N := 10) hx hb hts in_X4 hown hK hP 0 rfl rfl 0 (by decide) (hts _ q_655) (fun _ h9 => h9) rfl dX4_exact_1 ?_
    refine lv_iload_n hx hb dX4_exact_4 rfl (lv_at hl 1 rfl) ?_
    have hPc := hP.sub (ws' := [(hW, .inr (10, [.int (nI R), .int (nI C), .int (nI K), .int fi, .int di, .int br, .int li]))]) [1] rfl
    have hDc := hD.sub (ws' := [(hW, .inr (10, [.int (nI R), .int (nI C), .int (nI K), .int fi, .int di, .int br, .int li]))]) [1] (by decide) rfl
    have hFc := va_free (wc := [(hW, .inr (10, [.int (nI R), .int (nI C), .int (nI K), .int fi, .int di, .int br, .int li]))]) hD (va_S_up hS hA) hA [1] rfl
    refine va_calli (va_runVN (As := [.int x1]) (rest := []) ⟨hx, hb, hml, hown, hts⟩ (c_X3_isSet l D hW R C K fi di br li x1 H.size ) ⟨va_cnB 1 hts (gi_sub q_832) rfl rfl rfl (hN.1 _ n_941) (hts _ q_81) (by decide +kernel) ⟨Nat.le_of_ble_eq_true rfl, Nat.le_of_ble_eq_true rfl⟩, (hts _ q_831), (hts _ q_27)⟩ ⟨cPre_blind, va_recv hK hP (ci := 10) (q0 := 1) rfl rfl, cPre_mk hPc hK hDc hN (lwZ_for hZ (va_S_up hS hA) hFc)⟩ rfl rfl hl.1 rfl (lv_room (Nat.le_of_ble_eq_true rfl)) dX4_exact_5 ⟨(show 0 + 0 ≤ 1 from (by omega)), (show 0 + 0 ≤ 6 from (by omega))⟩) hS (fun q h1 h2 => absurd h2 (Nat.not_le.mpr h1)) (fun q h => Nat.le_trans hS.1 h) (fun r_5 u t H1 locs ht hvm hw hBk hz1 hk1 hS => ?_)
    have hP := va_P_ro hP hk1
    obtain ⟨hw, z_1⟩ := hw
    rw [hw] at z_1
    subst hw
    clear hBk hvm ht u hz1 hk1
    clear hPc hDc hFc; clear t
    generalize H1 = H at hP hS ⊢
    refine lv_if_ne (tgt := 22) hx hb dX4_exact_8 (by decide) (fun c_2 => ?_) (fun c_2 => ?_)
    · refine lv_aload_n hx hb dX4_exact_22 rfl (lv_at hl 0 rfl) ?_
      refine va_get (D := D) (ci := 11) (v := .ref hW) (C := RX4) (T := TX4) (N := 10) hx hb hts in_X4 hown hK hP 0 rfl rfl 0 (by decide) (hts _ q_655) (fun _ h9 => h9) rfl dX4_exact_23 ?_
      refine lv_iload_n hx hb dX4_exact_26 rfl (lv_at hl 1 rfl) ?_
      have hPc := hP.sub (ws' := [(hW, .inr (10, [.int (nI R), .int (nI C), .int (nI K), .int fi, .int di, .int br, .int li]))]) [1] rfl
      have hDc := hD.sub (ws' := [(hW, .inr (10, [.int (nI R), .int (nI C), .int (nI K), .int fi, .int di, .int br, .int li]))]) [1] (by decide) rfl
      have hFc := va_free (wc := [(hW, .inr (10, [.int (nI R), .int (nI C), .int (nI K), .int fi, .int di, .int br, .int li]))]) hD (va_S_up hS hA) hA [1] rfl
      refine va_calli (va_runVN (As := [.int x1]) (rest := []) ⟨hx, hb, hml, hown, hts⟩ (c_X3_isExact l D hW R C K fi di br li x1 H.size (show R ≤ 5 from hR)) ⟨va_cnB 1 hts (gi_sub q_752) rfl rfl rfl (hN.1 _ n_1108) (hts _ q_81) (by decide +kernel) ⟨Nat.le_of_ble_eq_true rfl, Nat.le_of_ble_eq_true rfl⟩, (hts _ q_751), (hts _ q_14)⟩ ⟨cPre_blind, va_recv hK hP (ci := 10) (q0 := 1) rfl rfl, cPre_mk hPc hK hDc hN (lwZ_for hZ (va_S_up hS hA) hFc)⟩ rfl rfl hl.1 rfl (lv_room (Nat.le_of_ble_eq_true rfl)) dX4_exact_27 ⟨(show 0 + 0 ≤ 1 from (by omega)), (show 0 + 0 ≤ 6 from (by omega))⟩) hS (fun q h1 h2 => absurd h2 (Nat.not_le.mpr h1)) (fun q h => Nat.le_trans hS.1 h) (fun r_27 u t H1 locs ht hvm hw hBk hz1 hk1 hS => ?_)
      have hP := va_P_ro hP hk1
      obtain ⟨hw, z_3⟩ := hw
      rw [hw] at z_3
      subst hw
      clear hBk hvm ht u hz1 hk1
      clear hPc hDc hFc; clear t
      generalize H1 = H at hP hS ⊢
      subst hQe
      refine vx_ret ?_
      have hS := va_S_up hS hA
      subst hAe
      have hE : (F_X4_exact R C K fi di li x1) = F_X3_isExact R C fi di li x1 := (by unfold F_X4_exact; rw [if_neg c_2])
      have hE9 : (E_X4_exact K x1) = 0 := (by unfold E_X4_exact; rw [if_neg c_2])
      refine W.widen (k := 1) (n := 6) (by omega) (by omega) ?_
      have hP9 := hP.sub (ws' := [(hX, .inr (11, [.ref hW, .ref hF, .ref hA_, .ref hT, .int (nI sc), .int pa, .int gu, .int cl, .int se, .int rf])), (hW, .inr (10, [.int (nI R), .int (nI C), .int (nI K), .int fi, .int di, .int br, .int li]))]) [0, 1] rfl
      have hD9 := hD.sub (ws' := [(hX, .inr (11, [.ref hW, .ref hF, .ref hA_, .ref hT, .int (nI sc), .int pa, .int gu, .int cl, .int se, .int rf])), (hW, .inr (10, [.int (nI R), .int (nI C), .int (nI K), .int fi, .int di, .int br, .int li]))]) [0, 1] (by decide) rfl
      exact W.zret (ty := .boolean) (v := F_X3_isExact R C fi di li x1) hx hb hr (zb_narrow (by assumption)) (fun t ht hW => ⟨⟨F_X3_isExact R C fi di li x1, (), rfl, ⟨(by rw [hE]), ⟨(by assumption), hE9⟩⟩, (by (try rw [hE]); rw [ht]; exact hP9), (by (try rw [hE]); exact hD9)⟩, hS.F ht⟩) hS.2.2 dX4_exact_30
    · subst hQe
      subst hAe
      obtain ⟨sa, hstr⟩ := hN.2 _ (List.mem_of_getElem? (i := 15) rfl)
      have hE9 : (E_X4_exact K x1) = 1 := (by unfold E_X4_exact; rw [if_pos c_2])
      exact vx_throwSW (own := RX4) (cls := "java/lang/IllegalArgumentException") (text := "no set of keys") (names := ["java/lang/RuntimeException", "java/lang/Exception"]) hx hb hst hown (by decide +kernel) (by decide +kernel) (hts _ q_863) (hts _ q_102) hstr (at_1_hat hts hN.1) at_1_ot hZ.2.2.1 hZ.2.2.2 (va_S_up hS hA) (hl.1.trans hml.symm) dX4_exact_11 dX4_exact_14 dX4_exact_15 dX4_exact_18 dX4_exact_21 (fun x h => (hno x h).elim) (Nat.le_of_ble_eq_true rfl) (Nat.le_of_ble_eq_true rfl) (show 0 + 1 ≤ 1 from by omega) (show 0 + 6 ≤ 6 from by omega) hlocks (fun t hv hz hk => ⟨(), trivial, ⟨by rw [hE9]; decide, by rw [hE9]; rfl⟩, Nat.le_trans hS.1 hz, fun q h1 h2 => (hk q (Nat.lt_of_lt_of_le h1 hS.1)).trans (hS.2.1 q h1 h2)⟩) (fun z hz => Or.inr (hS.2.2 z hz)) (show 0 + 1 ≤ 1 from by omega) (show 0 + 6 ≤ 6 from by omega)
  rw [hHe, hLe] at hgoal
  exact hgoal

def E_X4_wouldHelp (K : Nat) (x1 : Int32) : Nat := (if (F_X3_hasKey K x1) = 0 then 2 else 0)
def F_X4_wouldHelp (R : Nat) (C : Nat) (K : Nat) (di : Int32) (li : Int32) (x1 : Int32) : Int32 := (if (F_X3_hasKey K x1) = 0 then 0 else F_X3_leastKeys R C K li (di ||| ((1 : Int32) <<< (x1 &&& 31))))
set_option maxHeartbeats 4000000 in
set_option maxRecDepth 100000 in
theorem c_X4_wouldHelp (l : Launch) (D : va_G) (hX : Nat) (hW : Nat) (hF : Nat) (hA_ : Nat) (hT : Nat) (sc : Nat) (pa : Int32) (gu : Int32) (cl : Int32) (se : Int32) (rf : Int32) (R : Nat) (C : Nat) (K : Nat) (fi : Int32) (di : Int32) (br : Int32) (li : Int32) (x1 : Int32) (sz : Nat) (hst : l.stackTraces = false) (hR : R ≤ 5) (hKb : K ≤ 25) : vx_Met l yX4_wouldHelp (Cond.code yX4_wouldHelp cX4_wouldHelp 2 (some .int) :: lwAll) ({ frames := 6, cells := 1, slots := 6, locals := 102 } : Room) (va_Pc [.ref hX, .int x1] (cPre D (lwTY D) [(hX, .inr (11, [.ref hW, .ref hF, .ref hA_, .ref hT, .int (nI sc), .int pa, .int gu, .int cl, .int se, .int rf])), (hW, .inr (10, [.int (nI R), .int (nI C), .int (nI K), .int fi, .int di, .int br, .int li]))] sz)) (va_Qi (fun (r : Int32) (_ : Unit) => r = (F_X4_wouldHelp R C K di li x1) ∧ (E_X4_wouldHelp K x1) = 0) (fun (_ : Unit) t => va_P D vwCl [(hX, .inr (11, [.ref hW, .ref hF, .ref hA_, .ref hT, .int (nI sc), .int pa, .int gu, .int cl, .int se, .int rf])), (hW, .inr (10, [.int (nI R), .int (nI C), .int (nI K), .int fi, .int di, .int br, .int li]))] t.heap ∧ va_D (va_A [(hX, .inr (11, [.ref hW, .ref hF, .ref hA_, .ref hT, .int (nI sc), .int pa, .int gu, .int cl, .int se, .int rf])), (hW, .inr (10, [.int (nI R), .int (nI C), .int (nI K), .int fi, .int di, .int br, .int li]))] sz) [(hX, .inr (11, [.ref hW, .ref hF, .ref hA_, .ref hT, .int (nI sc), .int pa, .int gu, .int cl, .int se, .int rf])), (hW, .inr (10, [.int (nI R), .int (nI C), .int (nI K), .int fi, .int di, .int br, .int li]))]) (va_A [(hX, .inr (11, [.ref hW, .ref hF, .ref hA_, .ref hT, .int (nI sc), .int pa, .int gu, .int cl, .int se, .int rf])), (hW, .inr (10, [.int (nI R), .int (nI C), .int (nI K), .int fi, .int di, .int br, .int li]))] sz)) (vx_X (fun _ : Unit => True) (fun (E : String) (_ : Unit) (_ : State) => (E_X4_wouldHelp K x1) ≠ 0 ∧ E = xname (E_X4_wouldHelp K x1)) (fun q : Nat => sz ≤ q)) 1 6 (va_A [(hX, .inr (11, [.ref hW, .ref hF, .ref hA_, .ref hT, .int (nI sc), .int pa, .int gu, .int cl, .int se, .int rf])), (hW, .inr (10, [.int (nI R), .int (nI C), .int (nI K), .int fi, .int di, .int br, .int li]))] sz) := by
  refine vx_ofW (cc := cX4_wouldHelp) (maxL := 2) (ret := (some .int)) (by decide) rfl ?_
  intro p e s m args below meth c s₁ B hml hno hv
  obtain ⟨rfl, hsz, hP, hK, hD0, hN, hZ⟩ := hv
  have hx := B.exec
  have hb := B.bytes
  have hr := B.returns
  have hts : ∀ wd ∈ lwAll, wd.before ([.ref hX, .int x1] : List Value).toArray s = true := fun wd h => atoms_spec (ws := (Cond.code yX4_wouldHelp cX4_wouldHelp 2 (some .int) :: lwAll)) B.pre wd (List.mem_cons_of_mem _ h)
  have hown : s.vm.findClass RX4 = some m.cls := findClass_of_methodNamed B.named
  have hlocks := B.notSynchronized
  subst hsz
  have hD := hD0.self (sz := s.heap.size)
  have hl := lv_entry ([.ref hX, .int x1]) (n := 2) (Nat.le_of_ble_eq_true rfl)
  rw [lg_entry_eq]
  generalize (lg_sl ([.ref hX, .int x1]) ++ List.replicate (2 - (lg_sl ([.ref hX, .int x1])).length) Slot.unset).toArray = ls at hl ⊢
  have hl : lv_has ls 2 [(0, .ref hX), (1, .int x1)] := hl
  have hS : va_S (fun q : Nat => s.heap.size ≤ q) s.heap s.heap [] := va_S.rf
  generalize hQe : vx_MQ below (va_Qi (fun (r : Int32) (_ : Unit) => r = (F_X4_wouldHelp R C K di li x1) ∧ (E_X4_wouldHelp K x1) = 0) (fun (_ : Unit) t => va_P D vwCl [(hX, .inr (11, [.ref hW, .ref hF, .ref hA_, .ref hT, .int (nI sc), .int pa, .int gu, .int cl, .int se, .int rf])), (hW, .inr (10, [.int (nI R), .int (nI C), .int (nI K), .int fi, .int di, .int br, .int li]))] t.heap ∧ va_D (va_A [(hX, .inr (11, [.ref hW, .ref hF, .ref hA_, .ref hT, .int (nI sc), .int pa, .int gu, .int cl, .int se, .int rf])), (hW, .inr (10, [.int (nI R), .int (nI C), .int (nI K), .int fi, .int di, .int br, .int li]))] s.heap.size) [(hX, .inr (11, [.ref hW, .ref hF, .ref hA_, .ref hT, .int (nI sc), .int pa, .int gu, .int cl, .int se, .int rf])), (hW, .inr (10, [.int (nI R), .int (nI C), .int (nI K), .int fi, .int di, .int br, .int li]))]) (va_A [(hX, .inr (11, [.ref hW, .ref hF, .ref hA_, .ref hT, .int (nI sc), .int pa, .int gu, .int cl, .int se, .int rf])), (hW, .inr (10, [.int (nI R), .int (nI C), .int (nI K), .int fi, .int di, .int br, .int li]))] s.heap.size)) (vx_X (fun _ : Unit => True) (fun (E : String) (_ : Unit) (_ : State) => (E_X4_wouldHelp K x1) ≠ 0 ∧ E = xname (E_X4_wouldHelp K x1)) (fun q : Nat => s.heap.size ≤ q)) ([.ref hX, .int x1] : List Value).toArray s 1 6 (va_A [(hX, .inr (11, [.ref hW, .ref hF, .ref hA_, .ref hT, .int (nI sc), .int pa, .int gu, .int cl, .int se, .int rf])), (hW, .inr (10, [.int (nI R), .int (nI C), .int (nI K), .int fi, .int di, .int br, .int li]))] s.heap.size) = Q
  have hP : va_P D vwCl [(hX, .inr (11, [.ref hW, .ref hF, .ref hA_, .ref hT, .int (nI sc), .int pa, .int gu, .int cl, .int se, .int rf])), (hW, .inr (10, [.int (nI R), .int (nI C), .int (nI K), .int fi, .int di, .int br, .int li]))] s.heap := hP
  obtain ⟨A, hAe⟩ : ∃ A, A = va_A [(hX, .inr (11, [.ref hW, .ref hF, .ref hA_, .ref hT, .int (nI sc), .int pa, .int gu, .int cl, .int se, .int rf])), (hW, .inr (10, [.int (nI R), .int (nI C), .int (nI K), .int fi, .int di, .int br, .int li]))] s.heap.size := ⟨_, rfl⟩
  rw [← hAe] at hD hZ
  have hA : ∀ q : Nat, s.heap.size ≤ q → A q := fun q h => by rw [hAe]; exact Or.inr h
  obtain ⟨H, hHe⟩ : ∃ H, H = s.heap := ⟨_, rfl⟩
  obtain ⟨locs, hLe⟩ : ∃ L : List Loc, L = [] := ⟨_, rfl⟩
  have hP : va_P D vwCl [(hX, .inr (11, [.ref hW, .ref hF, .ref hA_, .ref hT, .int (nI sc), .int pa, .int gu, .int cl, .int se, .int rf])), (hW, .inr (10, [.int (nI R), .int (nI C), .int (nI K), .int fi, .int di, .int br, .int li]))] H := by rw [hHe]; exact hP
  have hS : va_S (fun q : Nat => s.heap.size ≤ q) s.heap H locs := by rw [hHe, hLe]; exact hS
  have hgoal : W p l e ({ frames := 6, cells := 1, slots := 6, locals := 102 } : Room) s m ([.ref hX, .int x1] : List Value).toArray below meth c H locs 0 0 Q (F0 m 0 ls []) := by
    clear hHe hLe
    refine lv_aload_n hx hb dX4_wouldHelp_0 rfl (lv_at hl 0 rfl) ?_
    refine va_get (D := D) (ci := 11) (v := .ref hW) (C := RX4) (T := TX4) (N := 10) hx hb hts in_X4 hown hK hP 0 rfl rfl 0 (by decide) (hts _ q_655) (fun _ h9 => h9) rfl dX4_wouldHelp_1 ?_
    refine lv_iload_n hx hb dX4_wouldHelp_4 rfl (lv_at hl 1 rfl) ?_
    have hPc := hP.sub (ws' := [(hW, .inr (10, [.int (nI R), .int (nI C), .int (nI K), .int fi, .int di, .int br, .int li]))]) [1] rfl
    have hDc := hD.sub (ws' := [(hW, .inr (10, [.int (nI R), .int (nI C), .int (nI K), .int fi, .int di, .int br, .int li]))]) [1] (by decide) rfl
    have hFc := va_free (wc := [(hW, .inr (10, [.int (nI R), .int (nI C), .int (nI K), .int fi, .int di, .int br, .int li]))]) hD (va_S_up hS hA) hA [1] rfl
    refine va_calli (va_runVN (As := [.int x1]) (rest := []) ⟨hx, hb, hml, hown, hts⟩ (c_X3_hasKey l D hW R C K fi di br li x1 H.size ) ⟨va_cnB 1 hts (gi_sub q_877) rfl rfl rfl (hN.1 _ n_874) (hts _ q_81) (by decide +kernel) ⟨Nat.le_of_ble_eq_true rfl, Nat.le_of_ble_eq_true rfl⟩, (hts _ q_876), (hts _ q_28)⟩ ⟨cPre_blind, va_recv hK hP (ci := 10) (q0 := 1) rfl rfl, cPre_mk hPc hK hDc hN (lwZ_for hZ (va_S_up hS hA) hFc)⟩ rfl rfl hl.1 rfl (lv_room (Nat.le_of_ble_eq_true rfl)) dX4_wouldHelp_5 ⟨(show 0 + 0 ≤ 1 from (by omega)), (show 0 + 0 ≤ 6 from (by omega))⟩) hS (fun q h1 h2 => absurd h2 (Nat.not_le.mpr h1)) (fun q h => Nat.le_trans hS.1 h) (fun r_5 u t H1 locs ht hvm hw hBk hz1 hk1 hS => ?_)
    have hP := va_P_ro hP hk1
    obtain ⟨hw, z_1⟩ := hw
    rw [hw] at z_1
    subst hw
    clear hBk hvm ht u hz1 hk1
    clear hPc hDc hFc; clear t
    generalize H1 = H at hP hS ⊢
    refine lv_if_ne (tgt := 21) hx hb dX4_wouldHelp_8 (by decide) (fun c_2 => ?_) (fun c_2 => ?_)
    · refine lv_aload_n hx hb dX4_wouldHelp_21 rfl (lv_at hl 0 rfl) ?_
      refine va_get (D := D) (ci := 11) (v := .ref hW) (C := RX4) (T := TX4) (N := 10) hx hb hts in_X4 hown hK hP 0 rfl rfl 0 (by decide) (hts _ q_655) (fun _ h9 => h9) rfl dX4_wouldHelp_22 ?_
      refine lv_aload_n hx hb dX4_wouldHelp_25 rfl (lv_at hl 0 rfl) ?_
      refine va_get (D := D) (ci := 11) (v := .ref hW) (C := RX4) (T := TX4) (N := 10) hx hb hts in_X4 hown hK hP 0 rfl rfl 0 (by decide) (hts _ q_655) (fun _ h9 => h9) rfl dX4_wouldHelp_26 ?_
      refine va_getN (D := D) (ci := 10) (v := .int di) (C := RX3) (T := TX3) (N := 7) hx hb hts in_X3 hown hK hP 1 rfl rfl 4 (by decide) (va_Nw.use rfl (hN.1 _ n_137)) (fun _ h9 => h9) rfl dX4_wouldHelp_29 ?_
      refine lv_iconst (v := 1) hx hb dX4_wouldHelp_32 (by decide) ?_
      refine lv_iload_n hx hb dX4_wouldHelp_33 rfl (lv_at hl 1 rfl) ?_
      refine lv_ishl hx hb dX4_wouldHelp_34 ?_
      refine lv_ior hx hb dX4_wouldHelp_35 ?_
      have hPc := hP.sub (ws' := [(hW, .inr (10, [.int (nI R), .int (nI C), .int (nI K), .int fi, .int di, .int br, .int li]))]) [1] rfl
      have hDc := hD.sub (ws' := [(hW, .inr (10, [.int (nI R), .int (nI C), .int (nI K), .int fi, .int di, .int br, .int li]))]) [1] (by decide) rfl
      have hFc := va_free (wc := [(hW, .inr (10, [.int (nI R), .int (nI C), .int (nI K), .int fi, .int di, .int br, .int li]))]) hD (va_S_up hS hA) hA [1] rfl
      refine va_calli (va_runVN (As := [.int (di ||| ((1 : Int32) <<< (x1 &&& 31)))]) (rest := []) ⟨hx, hb, hml, hown, hts⟩ (c_X3_leastKeys l D hW R C K fi di br li (di ||| ((1 : Int32) <<< (x1 &&& 31))) H.size (show R ≤ 5 from hR) (show K ≤ 25 from hKb)) ⟨va_cnB 1 hts (gi_sub q_760) rfl rfl rfl (hN.1 _ n_791) (hts _ q_81) (by decide +kernel) ⟨Nat.le_of_ble_eq_true rfl, Nat.le_of_ble_eq_true rfl⟩, (hts _ q_759), (hts _ q_16)⟩ ⟨cPre_blind, va_recv hK hP (ci := 10) (q0 := 1) rfl rfl, cPre_mk hPc hK hDc hN (lwZ_for hZ (va_S_up hS hA) hFc)⟩ rfl rfl hl.1 rfl (lv_room (Nat.le_of_ble_eq_true rfl)) dX4_wouldHelp_36 ⟨(show 0 + 0 ≤ 1 from (by omega)), (show 0 + 0 ≤ 6 from (by omega))⟩) hS (fun q h1 h2 => absurd h2 (Nat.not_le.mpr h1)) (fun q h => Nat.le_trans hS.1 h) (fun r_36 u t H1 locs ht hvm hw hBk hz1 hk1 hS => ?_)
      have hP := va_P_ro hP hk1
      subst hw
      clear hBk hvm ht u hz1 hk1
      clear hPc hDc hFc; clear t
      generalize H1 = H at hP hS ⊢
      subst hQe
      refine vx_ret ?_
      have hS := va_S_up hS hA
      subst hAe
      have hE : (F_X4_wouldHelp R C K di li x1) = F_X3_leastKeys R C K li (di ||| ((1 : Int32) <<< (x1 &&& 31))) := (by unfold F_X4_wouldHelp; rw [if_neg c_2])
      have hE9 : (E_X4_wouldHelp K x1) = 0 := (by unfold E_X4_wouldHelp; rw [if_neg c_2])
      refine W.widen (k := 1) (n := 6) (by omega) (by omega) ?_
      have hP9 := hP.sub (ws' := [(hX, .inr (11, [.ref hW, .ref hF, .ref hA_, .ref hT, .int (nI sc), .int pa, .int gu, .int cl, .int se, .int rf])), (hW, .inr (10, [.int (nI R), .int (nI C), .int (nI K), .int fi, .int di, .int br, .int li]))]) [0, 1] rfl
      have hD9 := hD.sub (ws' := [(hX, .inr (11, [.ref hW, .ref hF, .ref hA_, .ref hT, .int (nI sc), .int pa, .int gu, .int cl, .int se, .int rf])), (hW, .inr (10, [.int (nI R), .int (nI C), .int (nI K), .int fi, .int di, .int br, .int li]))]) [0, 1] (by decide) rfl
      exact W.iret (v := F_X3_leastKeys R C K li (di ||| ((1 : Int32) <<< (x1 &&& 31)))) hx hb hr (fun t ht hW => ⟨⟨F_X3_leastKeys R C K li (di ||| ((1 : Int32) <<< (x1 &&& 31))), (), rfl, ⟨(by rw [hE]), hE9⟩, (by (try rw [hE]); rw [ht]; exact hP9), (by (try rw [hE]); exact hD9)⟩, hS.F ht⟩) hS.2.2 dX4_wouldHelp_39
    · subst hQe
      subst hAe
      obtain ⟨sa, hstr⟩ := hN.2 _ (List.mem_of_getElem? (i := 1) rfl)
      have hE9 : (E_X4_wouldHelp K x1) = 2 := (by unfold E_X4_wouldHelp; rw [if_pos c_2])
      exact vx_throwS (own := RX4) (cls := "java/lang/IndexOutOfBoundsException") (text := "no such key") (names := ["java/lang/RuntimeException", "java/lang/Exception"]) hx hb hst hown (by decide +kernel) (by decide +kernel) (hts _ q_878) (hts _ q_92) hstr (at_2_hat hts hN.1) at_2_ot hZ.2.2.1 hZ.2.2.2 (va_S_up hS hA) (hl.1.trans hml.symm) dX4_wouldHelp_11 dX4_wouldHelp_14 dX4_wouldHelp_15 dX4_wouldHelp_17 dX4_wouldHelp_20 (fun x h => (hno x h).elim) (Nat.le_of_ble_eq_true rfl) (Nat.le_of_ble_eq_true rfl) (show 0 + 1 ≤ 1 from by omega) (show 0 + 6 ≤ 6 from by omega) hlocks (fun t hv hz hk => ⟨(), trivial, ⟨by rw [hE9]; decide, by rw [hE9]; rfl⟩, Nat.le_trans hS.1 hz, fun q h1 h2 => (hk q (Nat.lt_of_lt_of_le h1 hS.1)).trans (hS.2.1 q h1 h2)⟩) (fun z hz => Or.inr (hS.2.2 z hz)) (show 0 + 1 ≤ 1 from by omega) (show 0 + 6 ≤ 6 from by omega)
  rw [hHe, hLe] at hgoal
  exact hgoal

def E_X4_wouldGhost (K : Nat) (x1 : Int32) : Nat := (if (F_X3_hasKey K x1) = 0 then 2 else 0)
def F_X4_wouldGhost (cl : Int32) (R : Nat) (C : Nat) (K : Nat) (fi : Int32) (di : Int32) (li : Int32) (x1 : Int32) : Int32 := (if (F_X3_hasKey K x1) = 0 then 0 else F_X4_ghostsWith cl R C fi di li x1.toNatClampNeg)
set_option maxHeartbeats 4000000 in
set_option maxRecDepth 100000 in
theorem c_X4_wouldGhost (l : Launch) (D : va_G) (hX : Nat) (hW : Nat) (hF : Nat) (hA_ : Nat) (hT : Nat) (sc : Nat) (pa : Int32) (gu : Int32) (cl : Int32) (se : Int32) (rf : Int32) (R : Nat) (C : Nat) (K : Nat) (fi : Int32) (di : Int32) (br : Int32) (li : Int32) (x1 : Int32) (sz : Nat) (hst : l.stackTraces = false) (hR : R ≤ 5) (hKb : K ≤ 25) : vx_Met l yX4_wouldGhost (Cond.code yX4_wouldGhost cX4_wouldGhost 2 (some .int) :: lwAll) ({ frames := 6, cells := 1, slots := 6, locals := 118 } : Room) (va_Pc [.ref hX, .int x1] (cPre D (lwTY D) [(hX, .inr (11, [.ref hW, .ref hF, .ref hA_, .ref hT, .int (nI sc), .int pa, .int gu, .int cl, .int se, .int rf])), (hW, .inr (10, [.int (nI R), .int (nI C), .int (nI K), .int fi, .int di, .int br, .int li]))] sz)) (va_Qi (fun (r : Int32) (_ : Unit) => r = (F_X4_wouldGhost cl R C K fi di li x1) ∧ (E_X4_wouldGhost K x1) = 0) (fun (_ : Unit) t => va_P D vwCl [(hX, .inr (11, [.ref hW, .ref hF, .ref hA_, .ref hT, .int (nI sc), .int pa, .int gu, .int cl, .int se, .int rf])), (hW, .inr (10, [.int (nI R), .int (nI C), .int (nI K), .int fi, .int di, .int br, .int li]))] t.heap ∧ va_D (va_A [(hX, .inr (11, [.ref hW, .ref hF, .ref hA_, .ref hT, .int (nI sc), .int pa, .int gu, .int cl, .int se, .int rf])), (hW, .inr (10, [.int (nI R), .int (nI C), .int (nI K), .int fi, .int di, .int br, .int li]))] sz) [(hX, .inr (11, [.ref hW, .ref hF, .ref hA_, .ref hT, .int (nI sc), .int pa, .int gu, .int cl, .int se, .int rf])), (hW, .inr (10, [.int (nI R), .int (nI C), .int (nI K), .int fi, .int di, .int br, .int li]))]) (va_A [(hX, .inr (11, [.ref hW, .ref hF, .ref hA_, .ref hT, .int (nI sc), .int pa, .int gu, .int cl, .int se, .int rf])), (hW, .inr (10, [.int (nI R), .int (nI C), .int (nI K), .int fi, .int di, .int br, .int li]))] sz)) (vx_X (fun _ : Unit => True) (fun (E : String) (_ : Unit) (_ : State) => (E_X4_wouldGhost K x1) ≠ 0 ∧ E = xname (E_X4_wouldGhost K x1)) (fun q : Nat => sz ≤ q)) 1 6 (va_A [(hX, .inr (11, [.ref hW, .ref hF, .ref hA_, .ref hT, .int (nI sc), .int pa, .int gu, .int cl, .int se, .int rf])), (hW, .inr (10, [.int (nI R), .int (nI C), .int (nI K), .int fi, .int di, .int br, .int li]))] sz) := by
  refine vx_ofW (cc := cX4_wouldGhost) (maxL := 2) (ret := (some .int)) (by decide) rfl ?_
  intro p e s m args below meth c s₁ B hml hno hv
  obtain ⟨rfl, hsz, hP, hK, hD0, hN, hZ⟩ := hv
  have hx := B.exec
  have hb := B.bytes
  have hr := B.returns
  have hts : ∀ wd ∈ lwAll, wd.before ([.ref hX, .int x1] : List Value).toArray s = true := fun wd h => atoms_spec (ws := (Cond.code yX4_wouldGhost cX4_wouldGhost 2 (some .int) :: lwAll)) B.pre wd (List.mem_cons_of_mem _ h)
  have hown : s.vm.findClass RX4 = some m.cls := findClass_of_methodNamed B.named
  have hlocks := B.notSynchronized
  subst hsz
  have hD := hD0.self (sz := s.heap.size)
  have hl := lv_entry ([.ref hX, .int x1]) (n := 2) (Nat.le_of_ble_eq_true rfl)
  rw [lg_entry_eq]
  generalize (lg_sl ([.ref hX, .int x1]) ++ List.replicate (2 - (lg_sl ([.ref hX, .int x1])).length) Slot.unset).toArray = ls at hl ⊢
  have hl : lv_has ls 2 [(0, .ref hX), (1, .int x1)] := hl
  have hS : va_S (fun q : Nat => s.heap.size ≤ q) s.heap s.heap [] := va_S.rf
  generalize hQe : vx_MQ below (va_Qi (fun (r : Int32) (_ : Unit) => r = (F_X4_wouldGhost cl R C K fi di li x1) ∧ (E_X4_wouldGhost K x1) = 0) (fun (_ : Unit) t => va_P D vwCl [(hX, .inr (11, [.ref hW, .ref hF, .ref hA_, .ref hT, .int (nI sc), .int pa, .int gu, .int cl, .int se, .int rf])), (hW, .inr (10, [.int (nI R), .int (nI C), .int (nI K), .int fi, .int di, .int br, .int li]))] t.heap ∧ va_D (va_A [(hX, .inr (11, [.ref hW, .ref hF, .ref hA_, .ref hT, .int (nI sc), .int pa, .int gu, .int cl, .int se, .int rf])), (hW, .inr (10, [.int (nI R), .int (nI C), .int (nI K), .int fi, .int di, .int br, .int li]))] s.heap.size) [(hX, .inr (11, [.ref hW, .ref hF, .ref hA_, .ref hT, .int (nI sc), .int pa, .int gu, .int cl, .int se, .int rf])), (hW, .inr (10, [.int (nI R), .int (nI C), .int (nI K), .int fi, .int di, .int br, .int li]))]) (va_A [(hX, .inr (11, [.ref hW, .ref hF, .ref hA_, .ref hT, .int (nI sc), .int pa, .int gu, .int cl, .int se, .int rf])), (hW, .inr (10, [.int (nI R), .int (nI C), .int (nI K), .int fi, .int di, .int br, .int li]))] s.heap.size)) (vx_X (fun _ : Unit => True) (fun (E : String) (_ : Unit) (_ : State) => (E_X4_wouldGhost K x1) ≠ 0 ∧ E = xname (E_X4_wouldGhost K x1)) (fun q : Nat => s.heap.size ≤ q)) ([.ref hX, .int x1] : List Value).toArray s 1 6 (va_A [(hX, .inr (11, [.ref hW, .ref hF, .ref hA_, .ref hT, .int (nI sc), .int pa, .int gu, .int cl, .int se, .int rf])), (hW, .inr (10, [.int (nI R), .int (nI C), .int (nI K), .int fi, .int di, .int br, .int li]))] s.heap.size) = Q
  have hP : va_P D vwCl [(hX, .inr (11, [.ref hW, .ref hF, .ref hA_, .ref hT, .int (nI sc), .int pa, .int gu, .int cl, .int se, .int rf])), (hW, .inr (10, [.int (nI R), .int (nI C), .int (nI K), .int fi, .int di, .int br, .int li]))] s.heap := hP
  obtain ⟨A, hAe⟩ : ∃ A, A = va_A [(hX, .inr (11, [.ref hW, .ref hF, .ref hA_, .ref hT, .int (nI sc), .int pa, .int gu, .int cl, .int se, .int rf])), (hW, .inr (10, [.int (nI R), .int (nI C), .int (nI K), .int fi, .int di, .int br, .int li]))] s.heap.size := ⟨_, rfl⟩
  rw [← hAe] at hD hZ
  have hA : ∀ q : Nat, s.heap.size ≤ q → A q := fun q h => by rw [hAe]; exact Or.inr h
  obtain ⟨H, hHe⟩ : ∃ H, H = s.heap := ⟨_, rfl⟩
  obtain ⟨locs, hLe⟩ : ∃ L : List Loc, L = [] := ⟨_, rfl⟩
  have hP : va_P D vwCl [(hX, .inr (11, [.ref hW, .ref hF, .ref hA_, .ref hT, .int (nI sc), .int pa, .int gu, .int cl, .int se, .int rf])), (hW, .inr (10, [.int (nI R), .int (nI C), .int (nI K), .int fi, .int di, .int br, .int li]))] H := by rw [hHe]; exact hP
  have hS : va_S (fun q : Nat => s.heap.size ≤ q) s.heap H locs := by rw [hHe, hLe]; exact hS
  have hgoal : W p l e ({ frames := 6, cells := 1, slots := 6, locals := 118 } : Room) s m ([.ref hX, .int x1] : List Value).toArray below meth c H locs 0 0 Q (F0 m 0 ls []) := by
    clear hHe hLe
    refine lv_aload_n hx hb dX4_wouldGhost_0 rfl (lv_at hl 0 rfl) ?_
    refine va_get (D := D) (ci := 11) (v := .ref hW) (C := RX4) (T := TX4) (N := 10) hx hb hts in_X4 hown hK hP 0 rfl rfl 0 (by decide) (hts _ q_655) (fun _ h9 => h9) rfl dX4_wouldGhost_1 ?_
    refine lv_iload_n hx hb dX4_wouldGhost_4 rfl (lv_at hl 1 rfl) ?_
    have hPc := hP.sub (ws' := [(hW, .inr (10, [.int (nI R), .int (nI C), .int (nI K), .int fi, .int di, .int br, .int li]))]) [1] rfl
    have hDc := hD.sub (ws' := [(hW, .inr (10, [.int (nI R), .int (nI C), .int (nI K), .int fi, .int di, .int br, .int li]))]) [1] (by decide) rfl
    have hFc := va_free (wc := [(hW, .inr (10, [.int (nI R), .int (nI C), .int (nI K), .int fi, .int di, .int br, .int li]))]) hD (va_S_up hS hA) hA [1] rfl
    refine va_calli (va_runVN (As := [.int x1]) (rest := []) ⟨hx, hb, hml, hown, hts⟩ (c_X3_hasKey l D hW R C K fi di br li x1 H.size ) ⟨va_cnB 1 hts (gi_sub q_877) rfl rfl rfl (hN.1 _ n_874) (hts _ q_81) (by decide +kernel) ⟨Nat.le_of_ble_eq_true rfl, Nat.le_of_ble_eq_true rfl⟩, (hts _ q_876), (hts _ q_28)⟩ ⟨cPre_blind, va_recv hK hP (ci := 10) (q0 := 1) rfl rfl, cPre_mk hPc hK hDc hN (lwZ_for hZ (va_S_up hS hA) hFc)⟩ rfl rfl hl.1 rfl (lv_room (Nat.le_of_ble_eq_true rfl)) dX4_wouldGhost_5 ⟨(show 0 + 0 ≤ 1 from (by omega)), (show 0 + 0 ≤ 6 from (by omega))⟩) hS (fun q h1 h2 => absurd h2 (Nat.not_le.mpr h1)) (fun q h => Nat.le_trans hS.1 h) (fun r_5 u t H1 locs ht hvm hw hBk hz1 hk1 hS => ?_)
    have hP := va_P_ro hP hk1
    obtain ⟨hw, z_1⟩ := hw
    rw [hw] at z_1
    subst hw
    clear hBk hvm ht u hz1 hk1
    clear hPc hDc hFc; clear t
    generalize H1 = H at hP hS ⊢
    refine lv_if_ne (tgt := 21) hx hb dX4_wouldGhost_8 (by decide) (fun c_2 => ?_) (fun c_2 => ?_)
    · refine lv_aload_n hx hb dX4_wouldGhost_21 rfl (lv_at hl 0 rfl) ?_
      refine lv_iload_n hx hb dX4_wouldGhost_22 rfl (lv_at hl 1 rfl) ?_
      have hPc := hP.sub (ws' := [(hX, .inr (11, [.ref hW, .ref hF, .ref hA_, .ref hT, .int (nI sc), .int pa, .int gu, .int cl, .int se, .int rf])), (hW, .inr (10, [.int (nI R), .int (nI C), .int (nI K), .int fi, .int di, .int br, .int li]))]) [0, 1] rfl
      have hDc := hD.sub (ws' := [(hX, .inr (11, [.ref hW, .ref hF, .ref hA_, .ref hT, .int (nI sc), .int pa, .int gu, .int cl, .int se, .int rf])), (hW, .inr (10, [.int (nI R), .int (nI C), .int (nI K), .int fi, .int di, .int br, .int li]))]) [0, 1] (by decide) rfl
      have hFc := va_free (wc := [(hX, .inr (11, [.ref hW, .ref hF, .ref hA_, .ref hT, .int (nI sc), .int pa, .int gu, .int cl, .int se, .int rf])), (hW, .inr (10, [.int (nI R), .int (nI C), .int (nI K), .int fi, .int di, .int br, .int li]))]) hD (va_S_up hS hA) hA [0, 1] rfl
      refine va_calli (va_runV (As := [.int x1]) (rest := []) ⟨hx, hb, hml, hown, hts⟩ (c_X4_ghostsWith l D hX hW hF hA_ hT sc pa gu cl se rf R C K fi di br li x1.toNatClampNeg x1 H.size (show R ≤ 5 from hR) (show x1 = nI x1.toNatClampNeg from (hasKey_ok (by assumption) hKb).1)) (cwV 1 hts (gi_V q_802 q_804 q_24 q_80 q_805) rfl rfl rfl (by decide +kernel) ⟨Nat.le_of_ble_eq_true rfl, Nat.le_of_ble_eq_true rfl⟩) ⟨cPre_blind, va_recv hK hP (ci := 11) (q0 := 0) rfl rfl, cPre_mk hPc hK hDc hN (lwZ_for hZ (va_S_up hS hA) hFc)⟩ rfl rfl hl.1 rfl (lv_room (Nat.le_of_ble_eq_true rfl)) dX4_wouldGhost_23 ⟨(show 0 + 0 ≤ 1 from (by omega)), (show 0 + 0 ≤ 6 from (by omega))⟩) hS (fun q h1 h2 => absurd h2 (Nat.not_le.mpr h1)) (fun q h => Nat.le_trans hS.1 h) (fun r_23 u t H1 locs ht hvm hw hBk hz1 hk1 hS => ?_)
      have hP := va_P_ro hP hk1
      subst hw
      clear hBk hvm ht u hz1 hk1
      clear hPc hDc hFc; clear t
      generalize H1 = H at hP hS ⊢
      subst hQe
      refine vx_ret ?_
      have hS := va_S_up hS hA
      subst hAe
      have hE : (F_X4_wouldGhost cl R C K fi di li x1) = F_X4_ghostsWith cl R C fi di li x1.toNatClampNeg := (by unfold F_X4_wouldGhost; rw [if_neg c_2])
      have hE9 : (E_X4_wouldGhost K x1) = 0 := (by unfold E_X4_wouldGhost; rw [if_neg c_2])
      refine W.widen (k := 1) (n := 6) (by omega) (by omega) ?_
      have hP9 := hP.sub (ws' := [(hX, .inr (11, [.ref hW, .ref hF, .ref hA_, .ref hT, .int (nI sc), .int pa, .int gu, .int cl, .int se, .int rf])), (hW, .inr (10, [.int (nI R), .int (nI C), .int (nI K), .int fi, .int di, .int br, .int li]))]) [0, 1] rfl
      have hD9 := hD.sub (ws' := [(hX, .inr (11, [.ref hW, .ref hF, .ref hA_, .ref hT, .int (nI sc), .int pa, .int gu, .int cl, .int se, .int rf])), (hW, .inr (10, [.int (nI R), .int (nI C), .int (nI K), .int fi, .int di, .int br, .int li]))]) [0, 1] (by decide) rfl
      exact W.iret (v := F_X4_ghostsWith cl R C fi di li x1.toNatClampNeg) hx hb hr (fun t ht hW => ⟨⟨F_X4_ghostsWith cl R C fi di li x1.toNatClampNeg, (), rfl, ⟨(by rw [hE]), hE9⟩, (by (try rw [hE]); rw [ht]; exact hP9), (by (try rw [hE]); exact hD9)⟩, hS.F ht⟩) hS.2.2 dX4_wouldGhost_26
    · subst hQe
      subst hAe
      obtain ⟨sa, hstr⟩ := hN.2 _ (List.mem_of_getElem? (i := 1) rfl)
      have hE9 : (E_X4_wouldGhost K x1) = 2 := (by unfold E_X4_wouldGhost; rw [if_pos c_2])
      exact vx_throwS (own := RX4) (cls := "java/lang/IndexOutOfBoundsException") (text := "no such key") (names := ["java/lang/RuntimeException", "java/lang/Exception"]) hx hb hst hown (by decide +kernel) (by decide +kernel) (hts _ q_878) (hts _ q_92) hstr (at_2_hat hts hN.1) at_2_ot hZ.2.2.1 hZ.2.2.2 (va_S_up hS hA) (hl.1.trans hml.symm) dX4_wouldGhost_11 dX4_wouldGhost_14 dX4_wouldGhost_15 dX4_wouldGhost_17 dX4_wouldGhost_20 (fun x h => (hno x h).elim) (Nat.le_of_ble_eq_true rfl) (Nat.le_of_ble_eq_true rfl) (show 0 + 1 ≤ 1 from by omega) (show 0 + 6 ≤ 6 from by omega) hlocks (fun t hv hz hk => ⟨(), trivial, ⟨by rw [hE9]; decide, by rw [hE9]; rfl⟩, Nat.le_trans hS.1 hz, fun q h1 h2 => (hk q (Nat.lt_of_lt_of_le h1 hS.1)).trans (hS.2.1 q h1 h2)⟩) (fun z hz => Or.inr (hS.2.2 z hz)) (show 0 + 1 ≤ 1 from by omega) (show 0 + 6 ≤ 6 from by omega)
  rw [hHe, hLe] at hgoal
  exact hgoal

def F_X4_bestDiode (R : Nat) (C : Nat) (K : Nat) (fi : Int32) (di : Int32) (li : Int32) : Int32 := F_X3_diodeToAdd R C K fi di li
set_option maxHeartbeats 4000000 in
set_option maxRecDepth 100000 in
theorem c_X4_bestDiode (l : Launch) (D : va_G) (hX : Nat) (hW : Nat) (hF : Nat) (hA_ : Nat) (hT : Nat) (sc : Nat) (pa : Int32) (gu : Int32) (cl : Int32) (se : Int32) (rf : Int32) (R : Nat) (C : Nat) (K : Nat) (fi : Int32) (di : Int32) (br : Int32) (li : Int32) (sz : Nat) (hR : R ≤ 5) (hKb : K ≤ 25) : Met l yX4_bestDiode (Cond.code yX4_bestDiode cX4_bestDiode 1 (some .int) :: lwAll) ({ frames := 3, cells := 0, slots := 0, locals := 73 } : Room) (va_Pc [.ref hX] (cPre D (lwTY D) [(hX, .inr (11, [.ref hW, .ref hF, .ref hA_, .ref hT, .int (nI sc), .int pa, .int gu, .int cl, .int se, .int rf])), (hW, .inr (10, [.int (nI R), .int (nI C), .int (nI K), .int fi, .int di, .int br, .int li]))] sz)) (va_Qi (fun (r : Int32) (_ : Unit) => r = (F_X4_bestDiode R C K fi di li)) (fun _ _ => True) (fun q : Nat => sz ≤ q)) 0 0 (fun q : Nat => sz ≤ q) := by
  refine Met.ofW (cc := cX4_bestDiode) (maxL := 1) (ret := (some .int)) (by decide) rfl ?_
  intro p e s m args below meth c s₁ B hml hv
  obtain ⟨rfl, hsz, hP, hK, hD0, hN, hZ⟩ := hv
  have hx := B.exec
  have hb := B.bytes
  have hr := B.returns
  have hts : ∀ wd ∈ lwAll, wd.before ([.ref hX] : List Value).toArray s = true := fun wd h => atoms_spec (ws := (Cond.code yX4_bestDiode cX4_bestDiode 1 (some .int) :: lwAll)) B.pre wd (List.mem_cons_of_mem _ h)
  have hown : s.vm.findClass RX4 = some m.cls := findClass_of_methodNamed B.named
  have hlocks := B.notSynchronized
  subst hsz
  have hD := hD0.self (sz := s.heap.size)
  have hl := lv_entry ([.ref hX]) (n := 1) (Nat.le_of_ble_eq_true rfl)
  rw [lg_entry_eq]
  generalize (lg_sl ([.ref hX]) ++ List.replicate (1 - (lg_sl ([.ref hX])).length) Slot.unset).toArray = ls at hl ⊢
  have hl : lv_has ls 1 [(0, .ref hX)] := hl
  have hS : va_S (fun q : Nat => s.heap.size ≤ q) s.heap s.heap [] := va_S.rf
  generalize hQe : MQ below (va_Qi (fun (r : Int32) (_ : Unit) => r = (F_X4_bestDiode R C K fi di li)) (fun _ _ => True) (fun q : Nat => s.heap.size ≤ q)) ([.ref hX] : List Value).toArray s 0 0 (fun q : Nat => s.heap.size ≤ q) = Q
  have hP : va_P D vwCl [(hX, .inr (11, [.ref hW, .ref hF, .ref hA_, .ref hT, .int (nI sc), .int pa, .int gu, .int cl, .int se, .int rf])), (hW, .inr (10, [.int (nI R), .int (nI C), .int (nI K), .int fi, .int di, .int br, .int li]))] s.heap := hP
  obtain ⟨A, hAe⟩ : ∃ A, A = va_A [(hX, .inr (11, [.ref hW, .ref hF, .ref hA_, .ref hT, .int (nI sc), .int pa, .int gu, .int cl, .int se, .int rf])), (hW, .inr (10, [.int (nI R), .int (nI C), .int (nI K), .int fi, .int di, .int br, .int li]))] s.heap.size := ⟨_, rfl⟩
  rw [← hAe] at hD hZ
  have hA : ∀ q : Nat, s.heap.size ≤ q → A q := fun q h => by rw [hAe]; exact Or.inr h
  obtain ⟨H, hHe⟩ : ∃ H, H = s.heap := ⟨_, rfl⟩
  obtain ⟨locs, hLe⟩ : ∃ L : List Loc, L = [] := ⟨_, rfl⟩
  have hP : va_P D vwCl [(hX, .inr (11, [.ref hW, .ref hF, .ref hA_, .ref hT, .int (nI sc), .int pa, .int gu, .int cl, .int se, .int rf])), (hW, .inr (10, [.int (nI R), .int (nI C), .int (nI K), .int fi, .int di, .int br, .int li]))] H := by rw [hHe]; exact hP
  have hS : va_S (fun q : Nat => s.heap.size ≤ q) s.heap H locs := by rw [hHe, hLe]; exact hS
  have hgoal : W p l e ({ frames := 3, cells := 0, slots := 0, locals := 73 } : Room) s m ([.ref hX] : List Value).toArray below meth c H locs 0 0 Q (F0 m 0 ls []) := by
    clear hHe hLe
    refine lv_aload_n hx hb dX4_bestDiode_0 rfl (lv_at hl 0 rfl) ?_
    refine va_get (D := D) (ci := 11) (v := .ref hW) (C := RX4) (T := TX4) (N := 10) hx hb hts in_X4 hown hK hP 0 rfl rfl 0 (by decide) (hts _ q_655) (fun _ h9 => h9) rfl dX4_bestDiode_1 ?_
    have hPc := hP.sub (ws' := [(hW, .inr (10, [.int (nI R), .int (nI C), .int (nI K), .int fi, .int di, .int br, .int li]))]) [1] rfl
    have hDc := hD.sub (ws' := [(hW, .inr (10, [.int (nI R), .int (nI C), .int (nI K), .int fi, .int di, .int br, .int li]))]) [1] (by decide) rfl
    have hFc := va_free (wc := [(hW, .inr (10, [.int (nI R), .int (nI C), .int (nI K), .int fi, .int di, .int br, .int li]))]) hD (va_S_up hS hA) hA [1] rfl
    refine va_calli (va_runVN (As := []) (rest := []) ⟨hx, hb, hml, hown, hts⟩ (c_X3_diodeToAdd l D hW R C K fi di br li H.size (show R ≤ 5 from hR) (show K ≤ 25 from hKb)) ⟨va_cnB 0 hts (gi_sub q_710) rfl rfl rfl (hN.1 _ n_707) (hts _ q_81) (by decide +kernel) ⟨Nat.le_of_ble_eq_true rfl, Nat.le_of_ble_eq_true rfl⟩, (hts _ q_709), (hts _ q_7)⟩ ⟨cPre_blind, va_recv hK hP (ci := 10) (q0 := 1) rfl rfl, cPre_mk hPc hK hDc hN (lwZ_for hZ (va_S_up hS hA) hFc)⟩ rfl rfl hl.1 rfl (lv_room (Nat.le_of_ble_eq_true rfl)) dX4_bestDiode_4 ⟨(Nat.le_of_ble_eq_true rfl), (Nat.le_of_ble_eq_true rfl)⟩) hS (fun q h1 h2 => absurd h2 (Nat.not_le.mpr h1)) (fun q h => Nat.le_trans hS.1 h) (fun r_4 u t H1 locs ht hvm hw hBk hz1 hk1 hS => ?_)
    have hP := va_P_ro hP hk1
    subst hw
    clear hBk hvm ht u hz1 hk1
    clear hPc hDc hFc; clear t
    generalize H1 = H at hP hS ⊢
    subst hQe
    exact W.iret (v := F_X3_diodeToAdd R C K fi di li) hx hb hr (fun t ht hW => ⟨⟨F_X3_diodeToAdd R C K fi di li, (), rfl, (by rfl), trivial⟩, hS.F ht⟩) hS.2.2 dX4_bestDiode_7
  rw [hHe, hLe] at hgoal
  exact hgoal
