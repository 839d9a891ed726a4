def F_L_cell (L : Nat) (xs : Nat → Int32) (x1 : Int32) : Int32 := if nI L ≤ x1 then 790386105 * (x1 + 3) else xs x1.toNatClampNeg
/-- a state in which cell may begin: the script lies at b -/
def xPre (D : va_G) (b L : Nat) (xs : Nat → Int32) (sz : Nat) : State → Prop := fun U => cPre D (lwTY D) [] sz U ∧ va_X b L xs U U.heap ∧ b < U.heap.size
theorem xPre_blind {D : va_G} {b L : Nat} {xs : Nat → Int32} {sz : Nat} {av : List Value} : FrameBlind (va_Pc av (xPre D b L xs sz)) := fun a U g mk q => by
  obtain ⟨q0, q1, q2, q3⟩ := q
  have h1 := cPre_blind (D := D) (ty := lwTY D) (ws := []) (sz := sz) (av := av) a U g mk ⟨q0, q1⟩
  exact ⟨h1.1, h1.2, va_X.moved (u := U) (U := U.calling g mk a) (Vm.Alike.refl U.vm) q2, q3⟩
theorem xPre_mk {D : va_G} {s : State} {H : Heap} {A : Nat → Prop} {locs : List Loc} {b L : Nat} {xs : Nat → Int32} {av : List Value} (hX : va_X b L xs s s.heap) (hbl : b < s.heap.size) (hbA : ¬ A b) (hS : va_S A s.heap H locs) (hP : va_P D vwCl [] H) (hK : va_K D vwCl (lwTY D) s) (hD : va_D A []) (hN : (∀ w ∈ lwNest, va_Nw w s) ∧ lwTx s) (hZ : lwZ (va_A [] H.size) s H) : ∀ U : State, U.heap = H → s.WarmedH U.vm → va_Pc av (xPre D b L xs H.size) av.toArray U :=
  fun U hU hW => by
    obtain ⟨h0, h1⟩ := cPre_mk (av := av) hP hK hD hN hZ U hU hW
    refine ⟨h0, h1, ?_, ?_⟩
    · rw [hU]; exact va_X.moved hW.alike (hX.kept (hS.2.1 b hbl hbA))
    · rw [hU]; exact Nat.lt_of_lt_of_le hbl hS.1
set_option maxHeartbeats 4000000 in
set_option maxRecDepth 100000 in
theorem c_L_cell (l : Launch) (D : va_G) (b L : Nat) (xs : Nat → Int32) (x1 : Int32) (sz : Nat) (hL : L ≤ 260) (hx0 : ¬ x1 < 0) : Met l yL_cell (Cond.code yL_cell cL_cell 2 (some .int) :: lwAll) ({ frames := 0, cells := 0, slots := 0, locals := 0 } : Room) (va_Pc [.ref b, .int x1] (xPre D b L xs sz)) (va_Qi (fun (r : Int32) (_ : Unit) => r = (F_L_cell L xs x1)) (fun _ _ => True) (fun q : Nat => sz ≤ q)) 0 0 (fun q : Nat => sz ≤ q) := by
  refine Met.ofW (cc := cL_cell) (maxL := 2) (ret := (some .int)) (by decide) rfl ?_
  intro p e s m args below meth c s₁ B hml hv
  obtain ⟨rfl, ⟨hsz, hP, hK, hD0, hN, hZ⟩, hX, hbl⟩ := hv
  have hx := B.exec
  have hb := B.bytes
  have hr := B.returns
  have hts : ∀ wd ∈ lwAll, wd.before ([.ref b, .int x1] : List Value).toArray s = true := fun wd h => atoms_spec (ws := (Cond.code yL_cell cL_cell 2 (some .int) :: lwAll)) B.pre wd (List.mem_cons_of_mem _ h)
  have hown : s.vm.findClass RL = some m.cls := findClass_of_methodNamed B.named
  subst hsz
  have hl := lv_entry ([.ref b, .int x1]) (n := 2) (Nat.le_of_ble_eq_true rfl)
  rw [lg_entry_eq]
  generalize (lg_sl ([.ref b, .int x1]) ++ List.replicate (2 - (lg_sl ([.ref b, .int x1])).length) Slot.unset).toArray = ls at hl ⊢
  have hl : lv_has ls 2 [(0, .ref b), (1, .int x1)] := hl
  have hS : va_S (fun q : Nat => s.heap.size ≤ q) s.heap s.heap [] := va_S.rf
  generalize hQe : MQ below (va_Qi (fun (r : Int32) (_ : Unit) => r = (F_L_cell L xs x1)) (fun _ _ => True) (fun q : Nat => s.heap.size ≤ q)) ([.ref b, .int x1] : List Value).toArray s 0 0 (fun q : Nat => s.heap.size ≤ q) = Q
  have hbA : ¬ (s.heap.size ≤ b) := Nat.not_le.mpr hbl
  have hnL : Int32.ofNat L = nI L := rfl
  refine lv_iload_n hx hb dL_cell_0 rfl (lv_at hl 1 rfl) ?_
  refine lv_aload_n hx hb dL_cell_1 rfl (lv_at hl 0 rfl) ?_
  refine va_slen hx hb hX hbl hbA hS dL_cell_2 ?_
  rw [hnL]
  refine lv_icmp_ge (tgt := 12) hx hb dL_cell_3 (by decide) (fun c_1 => ?_) (fun c_1 => ?_)
  · refine lv_ldc (v := 790386105) hx hb hown (hts _ q_706) dL_cell_12 ?_
    refine lv_iload_n hx hb dL_cell_14 rfl (lv_at hl 1 rfl) ?_
    refine lv_iconst (v := 3) hx hb dL_cell_15 (by decide) ?_
    refine lv_iadd hx hb dL_cell_16 ?_
    refine lv_imul hx hb dL_cell_17 ?_
    subst hQe
    exact W.iret (v := 790386105 * (x1 + 3)) hx hb hr (fun t ht hW => ⟨⟨790386105 * (x1 + 3), (), rfl, (by unfold F_L_cell; rw [if_pos c_1]), trivial⟩, hS.F ht⟩) hS.2.2 dL_cell_18
  · refine lv_aload_n hx hb dL_cell_6 rfl (lv_at hl 0 rfl) ?_
    refine lv_iload_n hx hb dL_cell_7 rfl (lv_at hl 1 rfl) ?_
    have hin : vp_in x1 L := by
      rw [vp_in_iff]
      rw [Int32.lt_iff_toInt_lt] at hx0
      rw [Int32.le_iff_toInt_le, nI_toInt (by omega)] at c_1
      have h0 : (0 : Int32).toInt = 0 := by decide
      rw [h0] at hx0
      omega
    refine va_sld hx hb hX hbl hbA hS hin dL_cell_8 ?_
    refine lv_goto (tgt := 18) hx hb dL_cell_9 (by decide) ?_
    subst hQe
    exact W.iret (v := xs x1.toNatClampNeg) hx hb hr (fun t ht hW => ⟨⟨xs x1.toNatClampNeg, (), rfl, (by unfold F_L_cell; rw [if_neg c_1]), trivial⟩, hS.F ht⟩) hS.2.2 dL_cell_18
