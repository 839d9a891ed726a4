theorem plc_step {x : Int32} (h : ∃ p : Nat, p ≤ 18 ∧ x = nI p) (c : ¬ nI 18 ≤ x) : ∃ p : Nat, p ≤ 18 ∧ x + 1 = nI p := by
  obtain ⟨p, hp, rfl⟩ := h
  have h1 : ¬ 18 ≤ p := fun h2 => c (nI_le h2 (by omega))
  exact ⟨p + 1, by omega, nI_1 p⟩
theorem plc_in {x : Int32} (h : ∃ p : Nat, p ≤ 18 ∧ x = nI p) (c : ¬ nI 18 ≤ x) : vp_in x 18 := by
  obtain ⟨p, hp, rfl⟩ := h
  have h1 : ¬ 18 ≤ p := fun h2 => c (nI_le h2 (by omega))
  exact vp_in_nI (by omega) (by decide)
theorem plc_0 {c : Nat} (h : c < 6) : ∃ p : Nat, p ≤ 18 ∧ nI c * 3 = nI p := ⟨c * 3, by omega, pk_mul c 3⟩
theorem vp_c3 {a b : Nat} (ha : a < 6) (hb : b < 3) : vp_in (nI a * 3 + nI b) 18 := by
  rw [show (3 : Int32) = nI 3 from rfl, pk_mul, nI_add]
  exact vp_in_nI (by omega) (by decide)

def L_X1_isDownWith_2 (fG : Nat → Int32) (x1 : Int32) : Nat → Nat → (Unit) → Int32
  | 0, i0, a0 => 0
  | n0 + 1, i0, a0 => (if (fG i0) = x1 then 1 else L_X1_isDownWith_2 fG x1 n0 (i0 + 1) ())
def F_X1_isDownWith (fG : Nat → Int32) (x1 : Int32) : Int32 := L_X1_isDownWith_2 fG x1 25 0 ()
set_option maxHeartbeats 4000000 in
set_option maxRecDepth 100000 in
theorem c_X1_isDownWith (l : Launch) (D : va_G) (hT : Nat) (aC : Nat) (aG : Nat) (aI : Nat) (hB : Nat) (aK : Nat) (aL : Nat) (aQ : Nat) (lo : Int32) (Ch : Nat) (ct : Int32) (fG : Nat → Int32) (x1 : Int32) (sz : Nat)  : Met l yX1_isDownWith (Cond.code yX1_isDownWith cX1_isDownWith 3 (some .boolean) :: lwAll) ({ frames := 0, cells := 0, slots := 0, locals := 0 } : Room) (va_Pc [.ref hT, .int x1] (cPre D (lwTY D) [(hT, .inr (8, [.ref aC, .ref aG, .ref aI, .ref hB, .int lo, .ref aK, .ref aL, .ref aQ, .int (nI Ch), .int ct])), (aG, .inl ((D.1 101), 25, .inl fG))] sz)) (va_Qi (fun (r : Int32) (_ : Unit) => r = (F_X1_isDownWith fG x1) ∧ (r = 0 ∨ r = 1)) (fun _ _ => True) (fun q : Nat => sz ≤ q)) 0 0 (fun q : Nat => sz ≤ q) := by
  refine Met.ofW (cc := cX1_isDownWith) (maxL := 3) (ret := (some .boolean)) (by decide) rfl ?_
  intro p e s m args below meth c s₁ B hml hv
  obtain ⟨rfl, hsz, hP, hK, hD0, hN, hZ⟩ := hv
  have hx := B.exec
  have hb := B.bytes
  have hr := B.returns
  have hts : ∀ wd ∈ lwAll, wd.before ([.ref hT, .int x1] : List Value).toArray s = true := fun wd h => atoms_spec (ws := (Cond.code yX1_isDownWith cX1_isDownWith 3 (some .boolean) :: lwAll)) B.pre wd (List.mem_cons_of_mem _ h)
  have hown : s.vm.findClass RX1 = some m.cls := findClass_of_methodNamed B.named
  have hlocks := B.notSynchronized
  subst hsz
  have hD := hD0.self (sz := s.heap.size)
  have hl := lv_entry ([.ref hT, .int x1]) (n := 3) (Nat.le_of_ble_eq_true rfl)
  rw [lg_entry_eq]
  generalize (lg_sl ([.ref hT, .int x1]) ++ List.replicate (3 - (lg_sl ([.ref hT, .int x1])).length) Slot.unset).toArray = ls at hl ⊢
  have hl : lv_has ls 3 [(0, .ref hT), (1, .int x1)] := hl
  have hS : va_S (fun q : Nat => s.heap.size ≤ q) s.heap s.heap [] := va_S.rf
  generalize hQe : MQ below (va_Qi (fun (r : Int32) (_ : Unit) => r = (F_X1_isDownWith fG x1) ∧ (r = 0 ∨ r = 1)) (fun _ _ => True) (fun q : Nat => s.heap.size ≤ q)) ([.ref hT, .int x1] : List Value).toArray s 0 0 (fun q : Nat => s.heap.size ≤ q) = Q
  have hP : va_P D vwCl [(hT, .inr (8, [.ref aC, .ref aG, .ref aI, .ref hB, .int lo, .ref aK, .ref aL, .ref aQ, .int (nI Ch), .int ct])), (aG, .inl ((D.1 101), 25, .inl fG))] s.heap := hP
  obtain ⟨A, hAe⟩ : ∃ A, A = va_A [(hT, .inr (8, [.ref aC, .ref aG, .ref aI, .ref hB, .int lo, .ref aK, .ref aL, .ref aQ, .int (nI Ch), .int ct])), (aG, .inl ((D.1 101), 25, .inl fG))] s.heap.size := ⟨_, rfl⟩
  rw [← hAe] at hD hZ
  have hA : ∀ q : Nat, s.heap.size ≤ q → A q := fun q h => by rw [hAe]; exact Or.inr h
  obtain ⟨H, hHe⟩ : ∃ H, H = s.heap := ⟨_, rfl⟩
  obtain ⟨locs, hLe⟩ : ∃ L : List Loc, L = [] := ⟨_, rfl⟩
  have hP : va_P D vwCl [(hT, .inr (8, [.ref aC, .ref aG, .ref aI, .ref hB, .int lo, .ref aK, .ref aL, .ref aQ, .int (nI Ch), .int ct])), (aG, .inl ((D.1 101), 25, .inl fG))] H := by rw [hHe]; exact hP
  have hS : va_S (fun q : Nat => s.heap.size ≤ q) s.heap H locs := by rw [hHe, hLe]; exact hS
  have hgoal : W p l e ({ frames := 0, cells := 0, slots := 0, locals := 0 } : Room) s m ([.ref hT, .int x1] : List Value).toArray below meth c H locs 0 0 Q (F0 m 0 ls []) := by
    clear hHe hLe
    refine lv_iconst (v := 0) hx hb dX1_isDownWith_0 (by decide) ?_
    refine lv_istore_n (lv' := [(2, .int 0), (0, .ref hT), (1, .int x1)]) hx hb dX1_isDownWith_1 rfl hl (by decide) rfl (fun ls hl => ?_)
    have lp_2 : ∀ (n0 i0 : Nat), i0 + n0 = 25 → ∀ (a0 : Unit) (H : Heap) (locs : List Loc) (ls : Array Slot), va_P D vwCl [(hT, .inr (8, [.ref aC, .ref aG, .ref aI, .ref hB, .int lo, .ref aK, .ref aL, .ref aQ, .int (nI Ch), .int ct])), (aG, .inl ((D.1 101), 25, .inl fG))] H → va_D A [(hT, .inr (8, [.ref aC, .ref aG, .ref aI, .ref hB, .int lo, .ref aK, .ref aL, .ref aQ, .int (nI Ch), .int ct])), (aG, .inl ((D.1 101), 25, .inl fG))] → va_S (fun q : Nat => s.heap.size ≤ q) s.heap H locs → lv_has ls 3 [(0, .ref hT), (1, .int x1), (2, .int (nI i0))] → (F_X1_isDownWith fG x1) = L_X1_isDownWith_2 fG x1 n0 i0 a0 → W p l e ({ frames := 0, cells := 0, slots := 0, locals := 0 } : Room) s m ([.ref hT, .int x1] : List Value).toArray below meth c H locs 0 0 Q (F0 m 2 ls []) := by
      intro n0
      induction n0 with
      | zero =>
        intro i0 hi0 a0 H locs ls hP hD hS hl hE0
        have he0 : i0 = 25 := by omega
        refine lv_iload_n hx hb dX1_isDownWith_2 rfl (lv_at hl 2 rfl) ?_
        refine lv_bipush (v := 25) hx hb dX1_isDownWith_3 (by decide) ?_
        refine lv_icmp_ge (tgt := 26) hx hb dX1_isDownWith_5 (by decide) (fun c_1 => ?_) (fun c_1 => ?_)
        · refine lv_iconst (v := 0) hx hb dX1_isDownWith_26 (by decide) ?_
          subst hQe
          exact W.zret (ty := .boolean) (v := 0) hx hb hr (zb_narrow zb_0) (fun t ht hW => ⟨⟨0, (), rfl, ⟨(by rw [hE0, L_X1_isDownWith_2]), zb_0⟩, trivial⟩, hS.F ht⟩) hS.2.2 dX1_isDownWith_27
        · exact absurd (nI_le (a := 25) (b := i0) (by omega) (by omega)) c_1
      | succ n0 ih0 =>
        intro i0 hi0 a0 H locs ls hP hD hS hl hE0
        refine lv_iload_n hx hb dX1_isDownWith_2 rfl (lv_at hl 2 rfl) ?_
        refine lv_bipush (v := 25) hx hb dX1_isDownWith_3 (by decide) ?_
        refine lv_icmp_ge (tgt := 26) hx hb dX1_isDownWith_5 (by decide) (fun c_2 => ?_) (fun c_2 => ?_)
        · exact absurd c_2 (nI_ge (a := i0) (b := 25) (by omega) (by omega))
        · refine lv_aload_n hx hb dX1_isDownWith_8 rfl (lv_at hl 0 rfl) ?_
          refine va_get (D := D) (ci := 8) (v := .ref aG) (C := RX1) (T := TX1) (N := 10) hx hb hts in_X1 hown hK hP 0 rfl rfl 1 (by decide) (hts _ q_256) (fun _ h9 => h9) rfl dX1_isDownWith_9 ?_
          refine lv_iload_n hx hb dX1_isDownWith_12 rfl (lv_at hl 2 rfl) ?_
          refine va_iald hx hb hK hP 1 1 rfl rfl (vp_in_nI (by omega) (by omega)) dX1_isDownWith_13 ?_
          rw [nI_clamp (by omega)]
          refine lv_iload_n hx hb dX1_isDownWith_14 rfl (lv_at hl 1 rfl) ?_
          refine lv_icmp_ne (tgt := 20) hx hb dX1_isDownWith_15 (by decide) (fun c_3 => ?_) (fun c_3 => ?_)
          · refine lv_iinc (v := nI (i0 + 1)) (lv' := [(2, .int (nI (i0 + 1))), (0, .ref hT), (1, .int x1)]) hx hb dX1_isDownWith_20 hl (k := 2) rfl (nI_1 _) (by decide) rfl (fun ls hl => ?_)
            refine lv_goto (tgt := 2) hx hb dX1_isDownWith_23 (by decide) ?_
            have hl : lv_has ls 3 [(0, .ref hT), (1, .int x1), (2, .int (nI (i0 + 1)))] := lv_sub hl [1, 2, 0] rfl
            have hP := hP.sub (ws' := [(hT, .inr (8, [.ref aC, .ref aG, .ref aI, .ref hB, .int lo, .ref aK, .ref aL, .ref aQ, .int (nI Ch), .int ct])), (aG, .inl ((D.1 101), 25, .inl fG))]) [0, 1] rfl
            have hD := hD.sub (ws' := [(hT, .inr (8, [.ref aC, .ref aG, .ref aI, .ref hB, .int lo, .ref aK, .ref aL, .ref aQ, .int (nI Ch), .int ct])), (aG, .inl ((D.1 101), 25, .inl fG))]) [0, 1] (by decide) rfl
            exact ih0 (i0 + 1) (by omega) () H locs ls hP hD hS hl (by rw [hE0, L_X1_isDownWith_2, if_neg c_3])
          · refine lv_iconst (v := 1) hx hb dX1_isDownWith_18 (by decide) ?_
            subst hQe
            exact W.zret (ty := .boolean) (v := 1) hx hb hr (zb_narrow zb_1) (fun t ht hW => ⟨⟨1, (), rfl, ⟨(by rw [hE0, L_X1_isDownWith_2, if_pos c_3]), zb_1⟩, trivial⟩, hS.F ht⟩) hS.2.2 dX1_isDownWith_19
    have hl : lv_has ls 3 [(0, .ref hT), (1, .int x1), (2, .int (nI 0))] := lv_sub hl [1, 2, 0] rfl
    exact lp_2 25 0 (by omega) () H locs ls hP hD hS hl (by rfl)
  rw [hHe, hLe] at hgoal
  exact hgoal

def F_X1_layerNow (fG : Nat → Int32) : Int32 := (if (F_X1_isDownWith fG 30) = 0 then (if (F_X1_isDownWith fG 29) = 0 then 0 else 1) else 2)
set_option maxHeartbeats 4000000 in
set_option maxRecDepth 100000 in
theorem c_X1_layerNow (l : Launch) (D : va_G) (hT : Nat) (aC : Nat) (aG : Nat) (aI : Nat) (hB : Nat) (aK : Nat) (aL : Nat) (aQ : Nat) (lo : Int32) (Ch : Nat) (ct : Int32) (fG : Nat → Int32) (sz : Nat)  : Met l yX1_layerNow (Cond.code yX1_layerNow cX1_layerNow 1 (some .int) :: lwAll) ({ frames := 1, cells := 0, slots := 0, locals := 22 } : Room) (va_Pc [.ref hT] (cPre D (lwTY D) [(hT, .inr (8, [.ref aC, .ref aG, .ref aI, .ref hB, .int lo, .ref aK, .ref aL, .ref aQ, .int (nI Ch), .int ct])), (aG, .inl ((D.1 101), 25, .inl fG))] sz)) (va_Qi (fun (r : Int32) (_ : Unit) => r = (F_X1_layerNow fG)) (fun _ _ => True) (fun q : Nat => sz ≤ q)) 0 0 (fun q : Nat => sz ≤ q) := by
  refine Met.ofW (cc := cX1_layerNow) (maxL := 1) (ret := (some .int)) (by decide) rfl ?_
  intro p e s m args below meth c s₁ B hml hv
  obtain ⟨rfl, hsz, hP, hK, hD0, hN, hZ⟩ := hv
  have hx := B.exec
  have hb := B.bytes
  have hr := B.returns
  have hts : ∀ wd ∈ lwAll, wd.before ([.ref hT] : List Value).toArray s = true := fun wd h => atoms_spec (ws := (Cond.code yX1_layerNow cX1_layerNow 1 (some .int) :: lwAll)) B.pre wd (List.mem_cons_of_mem _ h)
  have hown : s.vm.findClass RX1 = some m.cls := findClass_of_methodNamed B.named
  have hlocks := B.notSynchronized
  subst hsz
  have hD := hD0.self (sz := s.heap.size)
  have hl := lv_entry ([.ref hT]) (n := 1) (Nat.le_of_ble_eq_true rfl)
  rw [lg_entry_eq]
  generalize (lg_sl ([.ref hT]) ++ List.replicate (1 - (lg_sl ([.ref hT])).length) Slot.unset).toArray = ls at hl ⊢
  have hl : lv_has ls 1 [(0, .ref hT)] := hl
  have hS : va_S (fun q : Nat => s.heap.size ≤ q) s.heap s.heap [] := va_S.rf
  generalize hQe : MQ below (va_Qi (fun (r : Int32) (_ : Unit) => r = (F_X1_layerNow fG)) (fun _ _ => True) (fun q : Nat => s.heap.size ≤ q)) ([.ref hT] : List Value).toArray s 0 0 (fun q : Nat => s.heap.size ≤ q) = Q
  have hP : va_P D vwCl [(hT, .inr (8, [.ref aC, .ref aG, .ref aI, .ref hB, .int lo, .ref aK, .ref aL, .ref aQ, .int (nI Ch), .int ct])), (aG, .inl ((D.1 101), 25, .inl fG))] s.heap := hP
  obtain ⟨A, hAe⟩ : ∃ A, A = va_A [(hT, .inr (8, [.ref aC, .ref aG, .ref aI, .ref hB, .int lo, .ref aK, .ref aL, .ref aQ, .int (nI Ch), .int ct])), (aG, .inl ((D.1 101), 25, .inl fG))] s.heap.size := ⟨_, rfl⟩
  rw [← hAe] at hD hZ
  have hA : ∀ q : Nat, s.heap.size ≤ q → A q := fun q h => by rw [hAe]; exact Or.inr h
  obtain ⟨H, hHe⟩ : ∃ H, H = s.heap := ⟨_, rfl⟩
  obtain ⟨locs, hLe⟩ : ∃ L : List Loc, L = [] := ⟨_, rfl⟩
  have hP : va_P D vwCl [(hT, .inr (8, [.ref aC, .ref aG, .ref aI, .ref hB, .int lo, .ref aK, .ref aL, .ref aQ, .int (nI Ch), .int ct])), (aG, .inl ((D.1 101), 25, .inl fG))] H := by rw [hHe]; exact hP
  have hS : va_S (fun q : Nat => s.heap.size ≤ q) s.heap H locs := by rw [hHe, hLe]; exact hS
  have hgoal : W p l e ({ frames := 1, cells := 0, slots := 0, locals := 22 } : Room) s m ([.ref hT] : List Value).toArray below meth c H locs 0 0 Q (F0 m 0 ls []) := by
    clear hHe hLe
    refine lv_aload_n hx hb dX1_layerNow_0 rfl (lv_at hl 0 rfl) ?_
    refine lv_bipush (v := 30) hx hb dX1_layerNow_1 (by decide) ?_
    have hPc := hP.sub (ws' := [(hT, .inr (8, [.ref aC, .ref aG, .ref aI, .ref hB, .int lo, .ref aK, .ref aL, .ref aQ, .int (nI Ch), .int ct])), (aG, .inl ((D.1 101), 25, .inl fG))]) [0, 1] rfl
    have hDc := hD.sub (ws' := [(hT, .inr (8, [.ref aC, .ref aG, .ref aI, .ref hB, .int lo, .ref aK, .ref aL, .ref aQ, .int (nI Ch), .int ct])), (aG, .inl ((D.1 101), 25, .inl fG))]) [0, 1] (by decide) rfl
    have hFc := va_free (wc := [(hT, .inr (8, [.ref aC, .ref aG, .ref aI, .ref hB, .int lo, .ref aK, .ref aL, .ref aQ, .int (nI Ch), .int ct])), (aG, .inl ((D.1 101), 25, .inl fG))]) hD (va_S_up hS hA) hA [0, 1] rfl
    refine va_calli (va_runV (As := [.int 30]) (rest := []) ⟨hx, hb, hml, hown, hts⟩ (c_X1_isDownWith l D hT aC aG aI hB aK aL aQ lo Ch ct fG 30 H.size ) (cwV 1 hts (gi_V q_786 q_788 q_21 q_84 q_789) rfl rfl rfl (by decide +kernel) ⟨Nat.le_of_ble_eq_true rfl, Nat.le_of_ble_eq_true rfl⟩) ⟨cPre_blind, va_recv hK hP (ci := 8) (q0 := 0) rfl rfl, cPre_mk hPc hK hDc hN (lwZ_for hZ (va_S_up hS hA) hFc)⟩ rfl rfl hl.1 rfl (lv_room (Nat.le_of_ble_eq_true rfl)) dX1_layerNow_3 ⟨(Nat.le_of_ble_eq_true rfl), (Nat.le_of_ble_eq_true rfl)⟩) hS (fun q h1 h2 => absurd h2 (Nat.not_le.mpr h1)) (fun q h => Nat.le_trans hS.1 h) (fun r_3 u t H1 locs ht hvm hw hBk hz1 hk1 hS => ?_)
    have hP := va_P_ro hP hk1
    obtain ⟨hw, z_1⟩ := hw
    rw [hw] at z_1
    subst hw
    clear hBk hvm ht u hz1 hk1
    clear hPc hDc hFc; clear t
    generalize H1 = H at hP hS ⊢
    refine lv_if_eq (tgt := 11) hx hb dX1_layerNow_6 (by decide) (fun c_2 => ?_) (fun c_2 => ?_)
    · refine lv_aload_n hx hb dX1_layerNow_11 rfl (lv_at hl 0 rfl) ?_
      refine lv_bipush (v := 29) hx hb dX1_layerNow_12 (by decide) ?_
      have hPc := hP.sub (ws' := [(hT, .inr (8, [.ref aC, .ref aG, .ref aI, .ref hB, .int lo, .ref aK, .ref aL, .ref aQ, .int (nI Ch), .int ct])), (aG, .inl ((D.1 101), 25, .inl fG))]) [0, 1] rfl
      have hDc := hD.sub (ws' := [(hT, .inr (8, [.ref aC, .ref aG, .ref aI, .ref hB, .int lo, .ref aK, .ref aL, .ref aQ, .int (nI Ch), .int ct])), (aG, .inl ((D.1 101), 25, .inl fG))]) [0, 1] (by decide) rfl
      have hFc := va_free (wc := [(hT, .inr (8, [.ref aC, .ref aG, .ref aI, .ref hB, .int lo, .ref aK, .ref aL, .ref aQ, .int (nI Ch), .int ct])), (aG, .inl ((D.1 101), 25, .inl fG))]) hD (va_S_up hS hA) hA [0, 1] rfl
      refine va_calli (va_runV (As := [.int 29]) (rest := []) ⟨hx, hb, hml, hown, hts⟩ (c_X1_isDownWith l D hT aC aG aI hB aK aL aQ lo Ch ct fG 29 H.size ) (cwV 1 hts (gi_V q_786 q_788 q_21 q_84 q_789) rfl rfl rfl (by decide +kernel) ⟨Nat.le_of_ble_eq_true rfl, Nat.le_of_ble_eq_true rfl⟩) ⟨cPre_blind, va_recv hK hP (ci := 8) (q0 := 0) rfl rfl, cPre_mk hPc hK hDc hN (lwZ_for hZ (va_S_up hS hA) hFc)⟩ rfl rfl hl.1 rfl (lv_room (Nat.le_of_ble_eq_true rfl)) dX1_layerNow_14 ⟨(Nat.le_of_ble_eq_true rfl), (Nat.le_of_ble_eq_true rfl)⟩) hS (fun q h1 h2 => absurd h2 (Nat.not_le.mpr h1)) (fun q h => Nat.le_trans hS.1 h) (fun r_14 u t H1 locs ht hvm hw hBk hz1 hk1 hS => ?_)
      have hP := va_P_ro hP hk1
      obtain ⟨hw, z_3⟩ := hw
      rw [hw] at z_3
      subst hw
      clear hBk hvm ht u hz1 hk1
      clear hPc hDc hFc; clear t
      generalize H1 = H at hP hS ⊢
      refine lv_if_eq (tgt := 24) hx hb dX1_layerNow_17 (by decide) (fun c_4 => ?_) (fun c_4 => ?_)
      · refine lv_iconst (v := 0) hx hb dX1_layerNow_24 (by decide) ?_
        subst hQe
        exact W.iret (v := 0) hx hb hr (fun t ht hW => ⟨⟨0, (), rfl, (by unfold F_X1_layerNow; rw [if_pos c_2, if_pos c_4]), trivial⟩, hS.F ht⟩) hS.2.2 dX1_layerNow_25
      · refine lv_iconst (v := 1) hx hb dX1_layerNow_20 (by decide) ?_
        refine lv_goto (tgt := 25) hx hb dX1_layerNow_21 (by decide) ?_
        subst hQe
        exact W.iret (v := 1) hx hb hr (fun t ht hW => ⟨⟨1, (), rfl, (by unfold F_X1_layerNow; rw [if_pos c_2, if_neg c_4]), trivial⟩, hS.F ht⟩) hS.2.2 dX1_layerNow_25
    · refine lv_iconst (v := 2) hx hb dX1_layerNow_9 (by decide) ?_
      subst hQe
      exact W.iret (v := 2) hx hb hr (fun t ht hW => ⟨⟨2, (), rfl, (by unfold F_X1_layerNow; rw [if_neg c_2]), trivial⟩, hS.F ht⟩) hS.2.2 dX1_layerNow_10
  rw [hHe, hLe] at hgoal
  exact hgoal

def F_X1_release (fG : Nat → Int32) (k : Nat) : (Nat → Int32) := upd fG k (-1)
set_option maxHeartbeats 4000000 in
set_option maxRecDepth 100000 in
theorem c_X1_release (l : Launch) (D : va_G) (hT : Nat) (aC : Nat) (aG : Nat) (aI : Nat) (hB : Nat) (aK : Nat) (aL : Nat) (aQ : Nat) (lo : Int32) (Ch : Nat) (ct : Int32) (fG : Nat → Int32) (k : Nat) (x1 : Int32) (sz : Nat) (hk : k < 25) (hx1 : x1 = nI k) : Met l yX1_release (Cond.code yX1_release cX1_release 2 none :: lwAll) ({ frames := 0, cells := 0, slots := 0, locals := 0 } : Room) (va_Pc [.ref hT, .int x1] (cPre D (lwTY D) [(hT, .inr (8, [.ref aC, .ref aG, .ref aI, .ref hB, .int lo, .ref aK, .ref aL, .ref aQ, .int (nI Ch), .int ct])), (aG, .inl ((D.1 101), 25, .inl fG))] sz)) (va_Qv (fun (_ : Unit) => True) (fun (_ : Unit) t => va_P D vwCl [(hT, .inr (8, [.ref aC, .ref aG, .ref aI, .ref hB, .int lo, .ref aK, .ref aL, .ref aQ, .int (nI Ch), .int ct])), (aG, .inl ((D.1 101), 25, .inl (F_X1_release fG k)))] t.heap ∧ va_D (va_A [(hT, .inr (8, [.ref aC, .ref aG, .ref aI, .ref hB, .int lo, .ref aK, .ref aL, .ref aQ, .int (nI Ch), .int ct])), (aG, .inl ((D.1 101), 25, .inl fG))] sz) [(hT, .inr (8, [.ref aC, .ref aG, .ref aI, .ref hB, .int lo, .ref aK, .ref aL, .ref aQ, .int (nI Ch), .int ct])), (aG, .inl ((D.1 101), 25, .inl (F_X1_release fG k)))]) (va_A [(hT, .inr (8, [.ref aC, .ref aG, .ref aI, .ref hB, .int lo, .ref aK, .ref aL, .ref aQ, .int (nI Ch), .int ct])), (aG, .inl ((D.1 101), 25, .inl fG))] sz)) 0 0 (va_A [(hT, .inr (8, [.ref aC, .ref aG, .ref aI, .ref hB, .int lo, .ref aK, .ref aL, .ref aQ, .int (nI Ch), .int ct])), (aG, .inl ((D.1 101), 25, .inl fG))] sz) := by
  subst hx1
  refine Met.ofW (cc := cX1_release) (maxL := 2) (ret := none) (by decide) rfl ?_
  intro p e s m args below meth c s₁ B hml hv
  obtain ⟨rfl, hsz, hP, hK, hD0, hN, hZ⟩ := hv
  have hx := B.exec
  have hb := B.bytes
  have hr := B.returns
  have hts : ∀ wd ∈ lwAll, wd.before ([.ref hT, .int (nI k)] : List Value).toArray s = true := fun wd h => atoms_spec (ws := (Cond.code yX1_release cX1_release 2 none :: lwAll)) B.pre wd (List.mem_cons_of_mem _ h)
  have hown : s.vm.findClass RX1 = some m.cls := findClass_of_methodNamed B.named
  have hlocks := B.notSynchronized
  subst hsz
  have hD := hD0.self (sz := s.heap.size)
  have hl := lv_entry ([.ref hT, .int (nI k)]) (n := 2) (Nat.le_of_ble_eq_true rfl)
  rw [lg_entry_eq]
  generalize (lg_sl ([.ref hT, .int (nI k)]) ++ List.replicate (2 - (lg_sl ([.ref hT, .int (nI k)])).length) Slot.unset).toArray = ls at hl ⊢
  have hl : lv_has ls 2 [(0, .ref hT), (1, .int (nI k))] := hl
  have hS : va_S (va_A [(hT, .inr (8, [.ref aC, .ref aG, .ref aI, .ref hB, .int lo, .ref aK, .ref aL, .ref aQ, .int (nI Ch), .int ct])), (aG, .inl ((D.1 101), 25, .inl fG))] s.heap.size) s.heap s.heap [] := va_S.rf
  generalize hQe : MQ below (va_Qv (fun (_ : Unit) => True) (fun (_ : Unit) t => va_P D vwCl [(hT, .inr (8, [.ref aC, .ref aG, .ref aI, .ref hB, .int lo, .ref aK, .ref aL, .ref aQ, .int (nI Ch), .int ct])), (aG, .inl ((D.1 101), 25, .inl (F_X1_release fG k)))] t.heap ∧ va_D (va_A [(hT, .inr (8, [.ref aC, .ref aG, .ref aI, .ref hB, .int lo, .ref aK, .ref aL, .ref aQ, .int (nI Ch), .int ct])), (aG, .inl ((D.1 101), 25, .inl fG))] s.heap.size) [(hT, .inr (8, [.ref aC, .ref aG, .ref aI, .ref hB, .int lo, .ref aK, .ref aL, .ref aQ, .int (nI Ch), .int ct])), (aG, .inl ((D.1 101), 25, .inl (F_X1_release fG k)))]) (va_A [(hT, .inr (8, [.ref aC, .ref aG, .ref aI, .ref hB, .int lo, .ref aK, .ref aL, .ref aQ, .int (nI Ch), .int ct])), (aG, .inl ((D.1 101), 25, .inl fG))] s.heap.size)) ([.ref hT, .int (nI k)] : List Value).toArray s 0 0 (va_A [(hT, .inr (8, [.ref aC, .ref aG, .ref aI, .ref hB, .int lo, .ref aK, .ref aL, .ref aQ, .int (nI Ch), .int ct])), (aG, .inl ((D.1 101), 25, .inl fG))] s.heap.size) = Q
  have hP : va_P D vwCl [(hT, .inr (8, [.ref aC, .ref aG, .ref aI, .ref hB, .int lo, .ref aK, .ref aL, .ref aQ, .int (nI Ch), .int ct])), (aG, .inl ((D.1 101), 25, .inl fG))] s.heap := hP
  obtain ⟨A, hAe⟩ : ∃ A, A = va_A [(hT, .inr (8, [.ref aC, .ref aG, .ref aI, .ref hB, .int lo, .ref aK, .ref aL, .ref aQ, .int (nI Ch), .int ct])), (aG, .inl ((D.1 101), 25, .inl fG))] s.heap.size := ⟨_, rfl⟩
  rw [← hAe] at hD hZ hS
  have hA : ∀ q : Nat, s.heap.size ≤ q → A q := fun q h => by rw [hAe]; exact Or.inr h
  obtain ⟨H, hHe⟩ : ∃ H, H = s.heap := ⟨_, rfl⟩
  obtain ⟨locs, hLe⟩ : ∃ L : List Loc, L = [] := ⟨_, rfl⟩
  have hP : va_P D vwCl [(hT, .inr (8, [.ref aC, .ref aG, .ref aI, .ref hB, .int lo, .ref aK, .ref aL, .ref aQ, .int (nI Ch), .int ct])), (aG, .inl ((D.1 101), 25, .inl fG))] H := by rw [hHe]; exact hP
  have hS : va_S A s.heap H locs := by rw [hHe, hLe]; exact hS
  have hgoal : W p l e ({ frames := 0, cells := 0, slots := 0, locals := 0 } : Room) s m ([.ref hT, .int (nI k)] : List Value).toArray below meth c H locs 0 0 Q (F0 m 0 ls []) := by
    clear hHe hLe
    refine lv_aload_n hx hb dX1_release_0 rfl (lv_at hl 0 rfl) ?_
    refine va_get (D := D) (ci := 8) (v := .ref aG) (C := RX1) (T := TX1) (N := 10) hx hb hts in_X1 hown hK hP 0 rfl rfl 1 (by decide) (hts _ q_256) (fun _ h9 => h9) rfl dX1_release_1 ?_
    refine lv_iload_n hx hb dX1_release_4 rfl (lv_at hl 1 rfl) ?_
    refine lv_iconst (v := (-1)) hx hb dX1_release_5 (by decide) ?_
    refine va_iast hx hb hK hP hD hS 1 1 rfl rfl (vp_in_nI (by omega) (by omega)) dX1_release_6 (fun H locs hP hD hS => ?_)
    rw [nI_clamp (by omega)] at hP hD
    have hP : va_P D vwCl [(hT, .inr (8, [.ref aC, .ref aG, .ref aI, .ref hB, .int lo, .ref aK, .ref aL, .ref aQ, .int (nI Ch), .int ct])), (aG, .inl ((D.1 101), 25, .inl (upd fG k (-1))))] H := hP
    have hD : va_D A [(hT, .inr (8, [.ref aC, .ref aG, .ref aI, .ref hB, .int lo, .ref aK, .ref aL, .ref aQ, .int (nI Ch), .int ct])), (aG, .inl ((D.1 101), 25, .inl (upd fG k (-1))))] := hD
    subst hQe
    subst hAe
    have hE : (F_X1_release fG k) = upd fG k (-1) := (by rfl)
    have hP9 := hP.sub (ws' := [(hT, .inr (8, [.ref aC, .ref aG, .ref aI, .ref hB, .int lo, .ref aK, .ref aL, .ref aQ, .int (nI Ch), .int ct])), (aG, .inl ((D.1 101), 25, .inl (upd fG k (-1))))]) [0, 1] rfl
    have hD9 := hD.sub (ws' := [(hT, .inr (8, [.ref aC, .ref aG, .ref aI, .ref hB, .int lo, .ref aK, .ref aL, .ref aQ, .int (nI Ch), .int ct])), (aG, .inl ((D.1 101), 25, .inl (upd fG k (-1))))]) [0, 1] (by decide) rfl
    exact W.vret hx hb hr (fun t ht hW => ⟨⟨(), rfl, trivial, (by (try rw [hE]); rw [ht]; exact hP9), (by (try rw [hE]); exact hD9)⟩, hS.F ht⟩) hS.2.2 dX1_release_7
  rw [hHe, hLe] at hgoal
  exact hgoal

def L_X1_isDown_2 (fG : Nat → Int32) (fI : Nat → Int32) (fK : Nat → Int32) (k : Nat) (x2 : Int32) : Nat → Nat → (Unit) → Int32
  | 0, i0, a0 => 1
  | n0 + 1, i0, a0 => (if (fG i0) = (-1) then (if (F_X4_holds (fK k) (nI i0)) = 0 then L_X1_isDown_2 fG fI fK k x2 n0 (i0 + 1) () else 0) else (if 8 ≤ (x2 - (fI i0)) then (if (F_X4_holds (fK k) (nI i0)) = 0 then L_X1_isDown_2 fG fI fK k x2 n0 (i0 + 1) () else 0) else (if (F_X4_holds (fK k) (nI i0)) = 0 then L_X1_isDown_2 fG fI fK k x2 n0 (i0 + 1) () else L_X1_isDown_2 fG fI fK k x2 n0 (i0 + 1) ())))
def F_X1_isDown (fG : Nat → Int32) (fI : Nat → Int32) (fK : Nat → Int32) (k : Nat) (x2 : Int32) : Int32 := L_X1_isDown_2 fG fI fK k x2 25 0 ()
set_option maxHeartbeats 4000000 in
set_option maxRecDepth 100000 in
theorem c_X1_isDown (l : Launch) (D : va_G) (hT : Nat) (aC : Nat) (aG : Nat) (aI : Nat) (hB : Nat) (aK : Nat) (aL : Nat) (aQ : Nat) (lo : Int32) (Ch : Nat) (ct : Int32) (fG : Nat → Int32) (fI : Nat → Int32) (fK : Nat → Int32) (k : Nat) (x2 : Int32) (x1 : Int32) (sz : Nat) (hc : k < 6) (hx1 : x1 = nI k) : Met l yX1_isDown (Cond.code yX1_isDown cX1_isDown 5 (some .boolean) :: lwAll) ({ frames := 1, cells := 0, slots := 0, locals := 21 } : Room) (va_Pc [.ref hT, .int x1, .int x2] (cPre D (lwTY D) [(hT, .inr (8, [.ref aC, .ref aG, .ref aI, .ref hB, .int lo, .ref aK, .ref aL, .ref aQ, .int (nI Ch), .int ct])), (aG, .inl ((D.1 101), 25, .inl fG)), (aI, .inl ((D.1 101), 25, .inl fI)), (aK, .inl ((D.1 101), 6, .inl fK))] sz)) (va_Qi (fun (r : Int32) (_ : Unit) => r = (F_X1_isDown fG fI fK k x2) ∧ (r = 0 ∨ r = 1)) (fun _ _ => True) (fun q : Nat => sz ≤ q)) 0 0 (fun q : Nat => sz ≤ q) := by
  subst hx1
  refine Met.ofW (cc := cX1_isDown) (maxL := 5) (ret := (some .boolean)) (by decide) rfl ?_
  intro p e s m args below meth c s₁ B hml hv
  obtain ⟨rfl, hsz, hP, hK, hD0, hN, hZ⟩ := hv
  have hx := B.exec
  have hb := B.bytes
  have hr := B.returns
  have hts : ∀ wd ∈ lwAll, wd.before ([.ref hT, .int (nI k), .int x2] : List Value).toArray s = true := fun wd h => atoms_spec (ws := (Cond.code yX1_isDown cX1_isDown 5 (some .boolean) :: lwAll)) B.pre wd (List.mem_cons_of_mem _ h)
  have hown : s.vm.findClass RX1 = some m.cls := findClass_of_methodNamed B.named
  have hlocks := B.notSynchronized
  subst hsz
  have hD := hD0.self (sz := s.heap.size)
  have hl := lv_entry ([.ref hT, .int (nI k), .int x2]) (n := 5) (Nat.le_of_ble_eq_true rfl)
  rw [lg_entry_eq]
  generalize (lg_sl ([.ref hT, .int (nI k), .int x2]) ++ List.replicate (5 - (lg_sl ([.ref hT, .int (nI k), .int x2])).length) Slot.unset).toArray = ls at hl ⊢
  have hl : lv_has ls 5 [(0, .ref hT), (1, .int (nI k)), (2, .int x2)] := hl
  have hS : va_S (fun q : Nat => s.heap.size ≤ q) s.heap s.heap [] := va_S.rf
  generalize hQe : MQ below (va_Qi (fun (r : Int32) (_ : Unit) => r = (F_X1_isDown fG fI fK k x2) ∧ (r = 0 ∨ r = 1)) (fun _ _ => True) (fun q : Nat => s.heap.size ≤ q)) ([.ref hT, .int (nI k), .int x2] : List Value).toArray s 0 0 (fun q : Nat => s.heap.size ≤ q) = Q
  have hP : va_P D vwCl [(hT, .inr (8, [.ref aC, .ref aG, .ref aI, .ref hB, .int lo, .ref aK, .ref aL, .ref aQ, .int (nI Ch), .int ct])), (aG, .inl ((D.1 101), 25, .inl fG)), (aI, .inl ((D.1 101), 25, .inl fI)), (aK, .inl ((D.1 101), 6, .inl fK))] s.heap := hP
  obtain ⟨A, hAe⟩ : ∃ A, A = va_A [(hT, .inr (8, [.ref aC, .ref aG, .ref aI, .ref hB, .int lo, .ref aK, .ref aL, .ref aQ, .int (nI Ch), .int ct])), (aG, .inl ((D.1 101), 25, .inl fG)), (aI, .inl ((D.1 101), 25, .inl fI)), (aK, .inl ((D.1 101), 6, .inl fK))] s.heap.size := ⟨_, rfl⟩
  rw [← hAe] at hD hZ
  have hA : ∀ q : Nat, s.heap.size ≤ q → A q := fun q h => by rw [hAe]; exact Or.inr h
  obtain ⟨H, hHe⟩ : ∃ H, H = s.heap := ⟨_, rfl⟩
  obtain ⟨locs, hLe⟩ : ∃ L : List Loc, L = [] := ⟨_, rfl⟩
  have hP : va_P D vwCl [(hT, .inr (8, [.ref aC, .ref aG, .ref aI, .ref hB, .int lo, .ref aK, .ref aL, .ref aQ, .int (nI Ch), .int ct])), (aG, .inl ((D.1 101), 25, .inl fG)), (aI, .inl ((D.1 101), 25, .inl fI)), (aK, .inl ((D.1 101), 6, .inl fK))] H := by rw [hHe]; exact hP
  have hS : va_S (fun q : Nat => s.heap.size ≤ q) s.heap H locs := by rw [hHe, hLe]; exact hS
  have hgoal : W p l e ({ frames := 1, cells := 0, slots := 0, locals := 21 } : Room) s m ([.ref hT, .int (nI k), .int x2] : List Value).toArray below meth c H locs 0 0 Q (F0 m 0 ls []) := by
    clear hHe hLe
    refine lv_iconst (v := 0) hx hb dX1_isDown_0 (by decide) ?_
    refine lv_istore_n (lv' := [(3, .int 0), (0, .ref hT), (1, .int (nI k)), (2, .int x2)]) hx hb dX1_isDown_1 rfl hl (by decide) rfl (fun ls hl => ?_)
    have lp_2 : ∀ (n0 i0 : Nat), i0 + n0 = 25 → ∀ (a0 : Unit) (H : Heap) (locs : List Loc) (ls : Array Slot), va_P D vwCl [(hT, .inr (8, [.ref aC, .ref aG, .ref aI, .ref hB, .int lo, .ref aK, .ref aL, .ref aQ, .int (nI Ch), .int ct])), (aG, .inl ((D.1 101), 25, .inl fG)), (aI, .inl ((D.1 101), 25, .inl fI)), (aK, .inl ((D.1 101), 6, .inl fK))] H → va_D A [(hT, .inr (8, [.ref aC, .ref aG, .ref aI, .ref hB, .int lo, .ref aK, .ref aL, .ref aQ, .int (nI Ch), .int ct])), (aG, .inl ((D.1 101), 25, .inl fG)), (aI, .inl ((D.1 101), 25, .inl fI)), (aK, .inl ((D.1 101), 6, .inl fK))] → va_S (fun q : Nat => s.heap.size ≤ q) s.heap H locs → lv_has ls 5 [(0, .ref hT), (1, .int (nI k)), (2, .int x2), (3, .int (nI i0))] → (F_X1_isDown fG fI fK k x2) = L_X1_isDown_2 fG fI fK k x2 n0 i0 a0 → W p l e ({ frames := 1, cells := 0, slots := 0, locals := 21 } : Room) s m ([.ref hT, .int (nI k), .int x2] : List Value).toArray below meth c H locs 0 0 Q (F0 m 2 ls []) := by
      intro n0
      induction n0 with
      | zero =>
        intro i0 hi0 a0 H locs ls hP hD hS hl hE0
        have he0 : i0 = 25 := by omega
        refine lv_iload_n hx hb dX1_isDown_2 rfl (lv_at hl 3 rfl) ?_
        refine lv_bipush (v := 25) hx hb dX1_isDown_3 (by decide) ?_
        refine lv_icmp_ge (tgt := 64) hx hb dX1_isDown_5 (by decide) (fun c_1 => ?_) (fun c_1 => ?_)
        · refine lv_iconst (v := 1) hx hb dX1_isDown_64 (by decide) ?_
          subst hQe
          exact W.zret (ty := .boolean) (v := 1) hx hb hr (zb_narrow zb_1) (fun t ht hW => ⟨⟨1, (), rfl, ⟨(by rw [hE0, L_X1_isDown_2]), zb_1⟩, trivial⟩, hS.F ht⟩) hS.2.2 dX1_isDown_65
        · exact absurd (nI_le (a := 25) (b := i0) (by omega) (by omega)) c_1
      | succ n0 ih0 =>
        intro i0 hi0 a0 H locs ls hP hD hS hl hE0
        refine lv_iload_n hx hb dX1_isDown_2 rfl (lv_at hl 3 rfl) ?_
        refine lv_bipush (v := 25) hx hb dX1_isDown_3 (by decide) ?_
        refine lv_icmp_ge (tgt := 64) hx hb dX1_isDown_5 (by decide) (fun c_2 => ?_) (fun c_2 => ?_)
        · exact absurd c_2 (nI_ge (a := i0) (b := 25) (by omega) (by omega))
        · refine lv_aload_n hx hb dX1_isDown_8 rfl (lv_at hl 0 rfl) ?_
          refine va_get (D := D) (ci := 8) (v := .ref aG) (C := RX1) (T := TX1) (N := 10) hx hb hts in_X1 hown hK hP 0 rfl rfl 1 (by decide) (hts _ q_256) (fun _ h9 => h9) rfl dX1_isDown_9 ?_
          refine lv_iload_n hx hb dX1_isDown_12 rfl (lv_at hl 3 rfl) ?_
          refine va_iald hx hb hK hP 1 1 rfl rfl (vp_in_nI (by omega) (by omega)) dX1_isDown_13 ?_
          rw [nI_clamp (by omega)]
          refine lv_iconst (v := (-1)) hx hb dX1_isDown_14 (by decide) ?_
          refine lv_icmp_eq (tgt := 35) hx hb dX1_isDown_15 (by decide) (fun c_3 => ?_) (fun c_3 => ?_)
          · refine lv_iconst (v := 0) hx hb dX1_isDown_35 (by decide) ?_
            refine lv_istore (lv' := [(4, .int 0), (0, .ref hT), (1, .int (nI k)), (2, .int x2), (3, .int (nI i0))]) hx hb dX1_isDown_36 hl (by decide) rfl (fun ls hl => ?_)
            refine lv_aload_n hx hb dX1_isDown_38 rfl (lv_at hl 1 rfl) ?_
            refine va_get (D := D) (ci := 8) (v := .ref aK) (C := RX1) (T := TX1) (N := 10) hx hb hts in_X1 hown hK hP 0 rfl rfl 5 (by decide) (hts _ q_263) (fun _ h9 => h9) rfl dX1_isDown_39 ?_
            refine lv_iload_n hx hb dX1_isDown_42 rfl (lv_at hl 2 rfl) ?_
            refine va_iald hx hb hK hP 3 1 rfl rfl (vp_in_nI (by omega) (by omega)) dX1_isDown_43 ?_
            rw [nI_clamp (by omega)]
            refine lv_iload_n hx hb dX1_isDown_44 rfl (lv_at hl 4 rfl) ?_
            have hPc := hP.sub (ws' := []) [] rfl
            have hDc := hD.sub (ws' := []) [] (by decide) rfl
            have hFc := va_free (wc := []) hD (va_S_up hS hA) hA [] rfl
            refine va_calli (va_runSN (As := [.int (fK k), .int (nI i0)]) (rest := []) ⟨hx, hb, hml, hown, hts⟩ (c_X4_holds l D (fK k) (nI i0) H.size ) ⟨va_cnB 2 hts (gi_sub q_713) rfl rfl rfl (hN.1 _ n_1049) (hts _ q_80) (by decide +kernel) ⟨Nat.le_of_ble_eq_true rfl, Nat.le_of_ble_eq_true rfl⟩, (hts _ q_712), trivial⟩ ⟨cPre_blind, cPre_mk hPc hK hDc hN (lwZ_for hZ (va_S_up hS hA) hFc)⟩ rfl rfl hl.1 rfl (lv_room (Nat.le_of_ble_eq_true rfl)) dX1_isDown_45 ⟨(Nat.le_of_ble_eq_true rfl), (Nat.le_of_ble_eq_true rfl)⟩) hS (fun q h1 h2 => absurd h2 (Nat.not_le.mpr h1)) (fun q h => Nat.le_trans hS.1 h) (fun r_45 u t H1 locs ht hvm hw hBk hz1 hk1 hS => ?_)
            have hP := va_P_ro hP hk1
            obtain ⟨hw, z_4⟩ := hw
            rw [hw] at z_4
            subst hw
            clear hBk hvm ht u hz1 hk1
            clear hPc hDc hFc; clear t
            generalize H1 = H at hP hS ⊢
            refine lv_if_eq (tgt := 58) hx hb dX1_isDown_48 (by decide) (fun c_5 => ?_) (fun c_5 => ?_)
            · refine lv_iinc (v := nI (i0 + 1)) (lv' := [(3, .int (nI (i0 + 1))), (4, .int 0), (0, .ref hT), (1, .int (nI k)), (2, .int x2)]) hx hb dX1_isDown_58 hl (k := 4) rfl (nI_1 _) (by decide) rfl (fun ls hl => ?_)
              refine lv_goto (tgt := 2) hx hb dX1_isDown_61 (by decide) ?_
              have hl : lv_has ls 5 [(0, .ref hT), (1, .int (nI k)), (2, .int x2), (3, .int (nI (i0 + 1)))] := lv_sub hl [2, 3, 4, 0] rfl
              have hP := hP.sub (ws' := [(hT, .inr (8, [.ref aC, .ref aG, .ref aI, .ref hB, .int lo, .ref aK, .ref aL, .ref aQ, .int (nI Ch), .int ct])), (aG, .inl ((D.1 101), 25, .inl fG)), (aI, .inl ((D.1 101), 25, .inl fI)), (aK, .inl ((D.1 101), 6, .inl fK))]) [0, 1, 2, 3] rfl
              have hD := hD.sub (ws' := [(hT, .inr (8, [.ref aC, .ref aG, .ref aI, .ref hB, .int lo, .ref aK, .ref aL, .ref aQ, .int (nI Ch), .int ct])), (aG, .inl ((D.1 101), 25, .inl fG)), (aI, .inl ((D.1 101), 25, .inl fI)), (aK, .inl ((D.1 101), 6, .inl fK))]) [0, 1, 2, 3] (by decide) rfl
              exact ih0 (i0 + 1) (by omega) () H locs ls hP hD hS hl (by rw [hE0, L_X1_isDown_2, if_pos c_3, if_pos c_5])
            · refine lv_iload hx hb dX1_isDown_51 (lv_at hl 0 rfl) ?_
              refine lv_if_ne (tgt := 58) hx hb dX1_isDown_53 (by decide) (fun c_6 => ?_) (fun c_6 => ?_)
              · exact absurd (by decide) c_6
              · refine lv_iconst (v := 0) hx hb dX1_isDown_56 (by decide) ?_
                subst hQe
                exact W.zret (ty := .boolean) (v := 0) hx hb hr (zb_narrow zb_0) (fun t ht hW => ⟨⟨0, (), rfl, ⟨(by rw [hE0, L_X1_isDown_2, if_pos c_3, if_neg c_5]), zb_0⟩, trivial⟩, hS.F ht⟩) hS.2.2 dX1_isDown_57
          · refine lv_iload_n hx hb dX1_isDown_18 rfl (lv_at hl 2 rfl) ?_
            refine lv_aload_n hx hb dX1_isDown_19 rfl (lv_at hl 0 rfl) ?_
            refine va_get (D := D) (ci := 8) (v := .ref aI) (C := RX1) (T := TX1) (N := 10) hx hb hts in_X1 hown hK hP 0 rfl rfl 2 (by decide) (hts _ q_258) (fun _ h9 => h9) rfl dX1_isDown_20 ?_
            refine lv_iload_n hx hb dX1_isDown_23 rfl (lv_at hl 3 rfl) ?_
            refine va_iald hx hb hK hP 2 1 rfl rfl (vp_in_nI (by omega) (by omega)) dX1_isDown_24 ?_
            rw [nI_clamp (by omega)]
            refine lv_isub hx hb dX1_isDown_25 ?_
            refine lv_bipush (v := 8) hx hb dX1_isDown_26 (by decide) ?_
            refine lv_icmp_ge (tgt := 35) hx hb dX1_isDown_28 (by decide) (fun c_7 => ?_) (fun c_7 => ?_)
            · refine lv_iconst (v := 0) hx hb dX1_isDown_35 (by decide) ?_
              refine lv_istore (lv' := [(4, .int 0), (0, .ref hT), (1, .int (nI k)), (2, .int x2), (3, .int (nI i0))]) hx hb dX1_isDown_36 hl (by decide) rfl (fun ls hl => ?_)
              refine lv_aload_n hx hb dX1_isDown_38 rfl (lv_at hl 1 rfl) ?_
              refine va_get (D := D) (ci := 8) (v := .ref aK) (C := RX1) (T := TX1) (N := 10) hx hb hts in_X1 hown hK hP 0 rfl rfl 5 (by decide) (hts _ q_263) (fun _ h9 => h9) rfl dX1_isDown_39 ?_
              refine lv_iload_n hx hb dX1_isDown_42 rfl (lv_at hl 2 rfl) ?_
              refine va_iald hx hb hK hP 3 1 rfl rfl (vp_in_nI (by omega) (by omega)) dX1_isDown_43 ?_
              rw [nI_clamp (by omega)]
              refine lv_iload_n hx hb dX1_isDown_44 rfl (lv_at hl 4 rfl) ?_
              have hPc := hP.sub (ws' := []) [] rfl
              have hDc := hD.sub (ws' := []) [] (by decide) rfl
              have hFc := va_free (wc := []) hD (va_S_up hS hA) hA [] rfl
              refine va_calli (va_runSN (As := [.int (fK k), .int (nI i0)]) (rest := []) ⟨hx, hb, hml, hown, hts⟩ (c_X4_holds l D (fK k) (nI i0) H.size ) ⟨va_cnB 2 hts (gi_sub q_713) rfl rfl rfl (hN.1 _ n_1049) (hts _ q_80) (by decide +kernel) ⟨Nat.le_of_ble_eq_true rfl, Nat.le_of_ble_eq_true rfl⟩, (hts _ q_712), trivial⟩ ⟨cPre_blind, cPre_mk hPc hK hDc hN (lwZ_for hZ (va_S_up hS hA) hFc)⟩ rfl rfl hl.1 rfl (lv_room (Nat.le_of_ble_eq_true rfl)) dX1_isDown_45 ⟨(Nat.le_of_ble_eq_true rfl), (Nat.le_of_ble_eq_true rfl)⟩) hS (fun q h1 h2 => absurd h2 (Nat.not_le.mpr h1)) (fun q h => Nat.le_trans hS.1 h) (fun r_45 u t H1 locs ht hvm hw hBk hz1 hk1 hS => ?_)
              have hP := va_P_ro hP hk1
              obtain ⟨hw, z_8⟩ := hw
              rw [hw] at z_8
              subst hw
              clear hBk hvm ht u hz1 hk1
              clear hPc hDc hFc; clear t
              generalize H1 = H at hP hS ⊢
              refine lv_if_eq (tgt := 58) hx hb dX1_isDown_48 (by decide) (fun c_9 => ?_) (fun c_9 => ?_)
              · refine lv_iinc (v := nI (i0 + 1)) (lv' := [(3, .int (nI (i0 + 1))), (4, .int 0), (0, .ref hT), (1, .int (nI k)), (2, .int x2)]) hx hb dX1_isDown_58 hl (k := 4) rfl (nI_1 _) (by decide) rfl (fun ls hl => ?_)
                refine lv_goto (tgt := 2) hx hb dX1_isDown_61 (by decide) ?_
                have hl : lv_has ls 5 [(0, .ref hT), (1, .int (nI k)), (2, .int x2), (3, .int (nI (i0 + 1)))] := lv_sub hl [2, 3, 4, 0] rfl
                have hP := hP.sub (ws' := [(hT, .inr (8, [.ref aC, .ref aG, .ref aI, .ref hB, .int lo, .ref aK, .ref aL, .ref aQ, .int (nI Ch), .int ct])), (aG, .inl ((D.1 101), 25, .inl fG)), (aI, .inl ((D.1 101), 25, .inl fI)), (aK, .inl ((D.1 101), 6, .inl fK))]) [0, 1, 2, 3] rfl
                have hD := hD.sub (ws' := [(hT, .inr (8, [.ref aC, .ref aG, .ref aI, .ref hB, .int lo, .ref aK, .ref aL, .ref aQ, .int (nI Ch), .int ct])), (aG, .inl ((D.1 101), 25, .inl fG)), (aI, .inl ((D.1 101), 25, .inl fI)), (aK, .inl ((D.1 101), 6, .inl fK))]) [0, 1, 2, 3] (by decide) rfl
                exact ih0 (i0 + 1) (by omega) () H locs ls hP hD hS hl (by rw [hE0, L_X1_isDown_2, if_neg c_3, if_pos c_7, if_pos c_9])
              · refine lv_iload hx hb dX1_isDown_51 (lv_at hl 0 rfl) ?_
                refine lv_if_ne (tgt := 58) hx hb dX1_isDown_53 (by decide) (fun c_10 => ?_) (fun c_10 => ?_)
                · exact absurd (by decide) c_10
                · refine lv_iconst (v := 0) hx hb dX1_isDown_56 (by decide) ?_
                  subst hQe
                  exact W.zret (ty := .boolean) (v := 0) hx hb hr (zb_narrow zb_0) (fun t ht hW => ⟨⟨0, (), rfl, ⟨(by rw [hE0, L_X1_isDown_2, if_neg c_3, if_pos c_7, if_neg c_9]), zb_0⟩, trivial⟩, hS.F ht⟩) hS.2.2 dX1_isDown_57
            · refine lv_iconst (v := 1) hx hb dX1_isDown_31 (by decide) ?_
              refine lv_goto (tgt := 36) hx hb dX1_isDown_32 (by decide) ?_
              refine lv_istore (lv' := [(4, .int 1), (0, .ref hT), (1, .int (nI k)), (2, .int x2), (3, .int (nI i0))]) hx hb dX1_isDown_36 hl (by decide) rfl (fun ls hl => ?_)
              refine lv_aload_n hx hb dX1_isDown_38 rfl (lv_at hl 1 rfl) ?_
              refine va_get (D := D) (ci := 8) (v := .ref aK) (C := RX1) (T := TX1) (N := 10) hx hb hts in_X1 hown hK hP 0 rfl rfl 5 (by decide) (hts _ q_263) (fun _ h9 => h9) rfl dX1_isDown_39 ?_
              refine lv_iload_n hx hb dX1_isDown_42 rfl (lv_at hl 2 rfl) ?_
              refine va_iald hx hb hK hP 3 1 rfl rfl (vp_in_nI (by omega) (by omega)) dX1_isDown_43 ?_
              rw [nI_clamp (by omega)]
              refine lv_iload_n hx hb dX1_isDown_44 rfl (lv_at hl 4 rfl) ?_
              have hPc := hP.sub (ws' := []) [] rfl
              have hDc := hD.sub (ws' := []) [] (by decide) rfl
              have hFc := va_free (wc := []) hD (va_S_up hS hA) hA [] rfl
              refine va_calli (va_runSN (As := [.int (fK k), .int (nI i0)]) (rest := []) ⟨hx, hb, hml, hown, hts⟩ (c_X4_holds l D (fK k) (nI i0) H.size ) ⟨va_cnB 2 hts (gi_sub q_713) rfl rfl rfl (hN.1 _ n_1049) (hts _ q_80) (by decide +kernel) ⟨Nat.le_of_ble_eq_true rfl, Nat.le_of_ble_eq_true rfl⟩, (hts _ q_712), trivial⟩ ⟨cPre_blind, cPre_mk hPc hK hDc hN (lwZ_for hZ (va_S_up hS hA) hFc)⟩ rfl rfl hl.1 rfl (lv_room (Nat.le_of_ble_eq_true rfl)) dX1_isDown_45 ⟨(Nat.le_of_ble_eq_true rfl), (Nat.le_of_ble_eq_true rfl)⟩) hS (fun q h1 h2 => absurd h2 (Nat.not_le.mpr h1)) (fun q h => Nat.le_trans hS.1 h) (fun r_45 u t H1 locs ht hvm hw hBk hz1 hk1 hS => ?_)
              have hP := va_P_ro hP hk1
              obtain ⟨hw, z_11⟩ := hw
              rw [hw] at z_11
              subst hw
              clear hBk hvm ht u hz1 hk1
              clear hPc hDc hFc; clear t
              generalize H1 = H at hP hS ⊢
              refine lv_if_eq (tgt := 58) hx hb dX1_isDown_48 (by decide) (fun c_12 => ?_) (fun c_12 => ?_)
              · refine lv_iinc (v := nI (i0 + 1)) (lv' := [(3, .int (nI (i0 + 1))), (4, .int 1), (0, .ref hT), (1, .int (nI k)), (2, .int x2)]) hx hb dX1_isDown_58 hl (k := 4) rfl (nI_1 _) (by decide) rfl (fun ls hl => ?_)
                refine lv_goto (tgt := 2) hx hb dX1_isDown_61 (by decide) ?_
                have hl : lv_has ls 5 [(0, .ref hT), (1, .int (nI k)), (2, .int x2), (3, .int (nI (i0 + 1)))] := lv_sub hl [2, 3, 4, 0] rfl
                have hP := hP.sub (ws' := [(hT, .inr (8, [.ref aC, .ref aG, .ref aI, .ref hB, .int lo, .ref aK, .ref aL, .ref aQ, .int (nI Ch), .int ct])), (aG, .inl ((D.1 101), 25, .inl fG)), (aI, .inl ((D.1 101), 25, .inl fI)), (aK, .inl ((D.1 101), 6, .inl fK))]) [0, 1, 2, 3] rfl
                have hD := hD.sub (ws' := [(hT, .inr (8, [.ref aC, .ref aG, .ref aI, .ref hB, .int lo, .ref aK, .ref aL, .ref aQ, .int (nI Ch), .int ct])), (aG, .inl ((D.1 101), 25, .inl fG)), (aI, .inl ((D.1 101), 25, .inl fI)), (aK, .inl ((D.1 101), 6, .inl fK))]) [0, 1, 2, 3] (by decide) rfl
                exact ih0 (i0 + 1) (by omega) () H locs ls hP hD hS hl (by rw [hE0, L_X1_isDown_2, if_neg c_3, if_neg c_7, if_pos c_12])
              · refine lv_iload hx hb dX1_isDown_51 (lv_at hl 0 rfl) ?_
                refine lv_if_ne (tgt := 58) hx hb dX1_isDown_53 (by decide) (fun c_13 => ?_) (fun c_13 => ?_)
                · refine lv_iinc (v := nI (i0 + 1)) (lv' := [(3, .int (nI (i0 + 1))), (4, .int 1), (0, .ref hT), (1, .int (nI k)), (2, .int x2)]) hx hb dX1_isDown_58 hl (k := 4) rfl (nI_1 _) (by decide) rfl (fun ls hl => ?_)
                  refine lv_goto (tgt := 2) hx hb dX1_isDown_61 (by decide) ?_
                  have hl : lv_has ls 5 [(0, .ref hT), (1, .int (nI k)), (2, .int x2), (3, .int (nI (i0 + 1)))] := lv_sub hl [2, 3, 4, 0] rfl
                  have hP := hP.sub (ws' := [(hT, .inr (8, [.ref aC, .ref aG, .ref aI, .ref hB, .int lo, .ref aK, .ref aL, .ref aQ, .int (nI Ch), .int ct])), (aG, .inl ((D.1 101), 25, .inl fG)), (aI, .inl ((D.1 101), 25, .inl fI)), (aK, .inl ((D.1 101), 6, .inl fK))]) [0, 1, 2, 3] rfl
                  have hD := hD.sub (ws' := [(hT, .inr (8, [.ref aC, .ref aG, .ref aI, .ref hB, .int lo, .ref aK, .ref aL, .ref aQ, .int (nI Ch), .int ct])), (aG, .inl ((D.1 101), 25, .inl fG)), (aI, .inl ((D.1 101), 25, .inl fI)), (aK, .inl ((D.1 101), 6, .inl fK))]) [0, 1, 2, 3] (by decide) rfl
                  exact ih0 (i0 + 1) (by omega) () H locs ls hP hD hS hl (by rw [hE0, L_X1_isDown_2, if_neg c_3, if_neg c_7, if_neg c_12])
                · exact absurd c_13 (by decide)
    have hl : lv_has ls 5 [(0, .ref hT), (1, .int (nI k)), (2, .int x2), (3, .int (nI 0))] := lv_sub hl [1, 2, 3, 0] rfl
    exact lp_2 25 0 (by omega) () H locs ls hP hD hS hl (by rfl)
  rw [hHe, hLe] at hgoal
  exact hgoal

def S_X1_isByNewEvents_9 (fI : Nat → Int32) (fK : Nat → Int32) (k : Nat) (i0 : Nat) (a0 : Int32 × Int32 × (Nat → Int32)) : Int32 × Int32 × (Nat → Int32) := (if (F_X4_holds (fK k) (nI i0)) = 0 then (a0.1, a0.2.1, a0.2.2) else (if (nI 18) ≤ a0.2.1 then (a0.1, a0.2.1, a0.2.2) else (if a0.1 = 0 then (if (a0.2.2 a0.2.1.toNatClampNeg) = (fI i0) then (0, a0.2.1 + 1, upd a0.2.2 a0.2.1.toNatClampNeg (fI i0)) else (1, a0.2.1 + 1, upd a0.2.2 a0.2.1.toNatClampNeg (fI i0))) else (1, a0.2.1 + 1, upd a0.2.2 a0.2.1.toNatClampNeg (fI i0)))))
def F_X1_isByNewEvents (fI : Nat → Int32) (fK : Nat → Int32) (fQ : Nat → Int32) (k : Nat) : Int32 × (Nat → Int32) := ((itr (fun i a => S_X1_isByNewEvents_9 fI fK k i a) 25 0 (0, (nI k) * 3, fQ)).1, (itr (fun i a => S_X1_isByNewEvents_9 fI fK k i a) 25 0 (0, (nI k) * 3, fQ)).2.2)
set_option maxHeartbeats 4000000 in
set_option maxRecDepth 100000 in
theorem c_X1_isByNewEvents (l : Launch) (D : va_G) (hT : Nat) (aC : Nat) (aG : Nat) (aI : Nat) (hB : Nat) (aK : Nat) (aL : Nat) (aQ : Nat) (lo : Int32) (Ch : Nat) (ct : Int32) (fI : Nat → Int32) (fK : Nat → Int32) (fQ : Nat → Int32) (k : Nat) (x1 : Int32) (sz : Nat) (hc : k < 6) (hx1 : x1 = nI k) : Met l yX1_isByNewEvents (Cond.code yX1_isByNewEvents cX1_isByNewEvents 5 (some .boolean) :: lwAll) ({ frames := 1, cells := 0, slots := 0, locals := 21 } : Room) (va_Pc [.ref hT, .int x1] (cPre D (lwTY D) [(hT, .inr (8, [.ref aC, .ref aG, .ref aI, .ref hB, .int lo, .ref aK, .ref aL, .ref aQ, .int (nI Ch), .int ct])), (aI, .inl ((D.1 101), 25, .inl fI)), (aK, .inl ((D.1 101), 6, .inl fK)), (aQ, .inl ((D.1 101), 18, .inl fQ))] sz)) (va_Qi (fun (r : Int32) (_ : Unit) => r = (F_X1_isByNewEvents fI fK fQ k).1 ∧ (r = 0 ∨ r = 1)) (fun (_ : Unit) t => va_P D vwCl [(hT, .inr (8, [.ref aC, .ref aG, .ref aI, .ref hB, .int lo, .ref aK, .ref aL, .ref aQ, .int (nI Ch), .int ct])), (aI, .inl ((D.1 101), 25, .inl fI)), (aK, .inl ((D.1 101), 6, .inl fK)), (aQ, .inl ((D.1 101), 18, .inl ((F_X1_isByNewEvents fI fK fQ k).2)))] t.heap ∧ va_D (va_A [(hT, .inr (8, [.ref aC, .ref aG, .ref aI, .ref hB, .int lo, .ref aK, .ref aL, .ref aQ, .int (nI Ch), .int ct])), (aI, .inl ((D.1 101), 25, .inl fI)), (aK, .inl ((D.1 101), 6, .inl fK)), (aQ, .inl ((D.1 101), 18, .inl fQ))] sz) [(hT, .inr (8, [.ref aC, .ref aG, .ref aI, .ref hB, .int lo, .ref aK, .ref aL, .ref aQ, .int (nI Ch), .int ct])), (aI, .inl ((D.1 101), 25, .inl fI)), (aK, .inl ((D.1 101), 6, .inl fK)), (aQ, .inl ((D.1 101), 18, .inl ((F_X1_isByNewEvents fI fK fQ k).2)))]) (va_A [(hT, .inr (8, [.ref aC, .ref aG, .ref aI, .ref hB, .int lo, .ref aK, .ref aL, .ref aQ, .int (nI Ch), .int ct])), (aI, .inl ((D.1 101), 25, .inl fI)), (aK, .inl ((D.1 101), 6, .inl fK)), (aQ, .inl ((D.1 101), 18, .inl fQ))] sz)) 0 0 (va_A [(hT, .inr (8, [.ref aC, .ref aG, .ref aI, .ref hB, .int lo, .ref aK, .ref aL, .ref aQ, .int (nI Ch), .int ct])), (aI, .inl ((D.1 101), 25, .inl fI)), (aK, .inl ((D.1 101), 6, .inl fK)), (aQ, .inl ((D.1 101), 18, .inl fQ))] sz) := by
  subst hx1
  refine Met.ofW (cc := cX1_isByNewEvents) (maxL := 5) (ret := (some .boolean)) (by decide) rfl ?_
  intro p e s m args below meth c s₁ B hml hv
  obtain ⟨rfl, hsz, hP, hK, hD0, hN, hZ⟩ := hv
  have hx := B.exec
  have hb := B.bytes
  have hr := B.returns
  have hts : ∀ wd ∈ lwAll, wd.before ([.ref hT, .int (nI k)] : List Value).toArray s = true := fun wd h => atoms_spec (ws := (Cond.code yX1_isByNewEvents cX1_isByNewEvents 5 (some .boolean) :: lwAll)) B.pre wd (List.mem_cons_of_mem _ h)
  have hown : s.vm.findClass RX1 = some m.cls := findClass_of_methodNamed B.named
  have hlocks := B.notSynchronized
  subst hsz
  have hD := hD0.self (sz := s.heap.size)
  have hl := lv_entry ([.ref hT, .int (nI k)]) (n := 5) (Nat.le_of_ble_eq_true rfl)
  rw [lg_entry_eq]
  generalize (lg_sl ([.ref hT, .int (nI k)]) ++ List.replicate (5 - (lg_sl ([.ref hT, .int (nI k)])).length) Slot.unset).toArray = ls at hl ⊢
  have hl : lv_has ls 5 [(0, .ref hT), (1, .int (nI k))] := hl
  have hS : va_S (va_A [(hT, .inr (8, [.ref aC, .ref aG, .ref aI, .ref hB, .int lo, .ref aK, .ref aL, .ref aQ, .int (nI Ch), .int ct])), (aI, .inl ((D.1 101), 25, .inl fI)), (aK, .inl ((D.1 101), 6, .inl fK)), (aQ, .inl ((D.1 101), 18, .inl fQ))] s.heap.size) s.heap s.heap [] := va_S.rf
  generalize hQe : MQ below (va_Qi (fun (r : Int32) (_ : Unit) => r = (F_X1_isByNewEvents fI fK fQ k).1 ∧ (r = 0 ∨ r = 1)) (fun (_ : Unit) t => va_P D vwCl [(hT, .inr (8, [.ref aC, .ref aG, .ref aI, .ref hB, .int lo, .ref aK, .ref aL, .ref aQ, .int (nI Ch), .int ct])), (aI, .inl ((D.1 101), 25, .inl fI)), (aK, .inl ((D.1 101), 6, .inl fK)), (aQ, .inl ((D.1 101), 18, .inl ((F_X1_isByNewEvents fI fK fQ k).2)))] t.heap ∧ va_D (va_A [(hT, .inr (8, [.ref aC, .ref aG, .ref aI, .ref hB, .int lo, .ref aK, .ref aL, .ref aQ, .int (nI Ch), .int ct])), (aI, .inl ((D.1 101), 25, .inl fI)), (aK, .inl ((D.1 101), 6, .inl fK)), (aQ, .inl ((D.1 101), 18, .inl fQ))] s.heap.size) [(hT, .inr (8, [.ref aC, .ref aG, .ref aI, .ref hB, .int lo, .ref aK, .ref aL, .ref aQ, .int (nI Ch), .int ct])), (aI, .inl ((D.1 101), 25, .inl fI)), (aK, .inl ((D.1 101), 6, .inl fK)), (aQ, .inl ((D.1 101), 18, .inl ((F_X1_isByNewEvents fI fK fQ k).2)))]) (va_A [(hT, .inr (8, [.ref aC, .ref aG, .ref aI, .ref hB, .int lo, .ref aK, .ref aL, .ref aQ, .int (nI Ch), .int ct])), (aI, .inl ((D.1 101), 25, .inl fI)), (aK, .inl ((D.1 101), 6, .inl fK)), (aQ, .inl ((D.1 101), 18, .inl fQ))] s.heap.size)) ([.ref hT, .int (nI k)] : List Value).toArray s 0 0 (va_A [(hT, .inr (8, [.ref aC, .ref aG, .ref aI, .ref hB, .int lo, .ref aK, .ref aL, .ref aQ, .int (nI Ch), .int ct])), (aI, .inl ((D.1 101), 25, .inl fI)), (aK, .inl ((D.1 101), 6, .inl fK)), (aQ, .inl ((D.1 101), 18, .inl fQ))] s.heap.size) = Q
  have hP : va_P D vwCl [(hT, .inr (8, [.ref aC, .ref aG, .ref aI, .ref hB, .int lo, .ref aK, .ref aL, .ref aQ, .int (nI Ch), .int ct])), (aI, .inl ((D.1 101), 25, .inl fI)), (aK, .inl ((D.1 101), 6, .inl fK)), (aQ, .inl ((D.1 101), 18, .inl fQ))] s.heap := hP
  obtain ⟨A, hAe⟩ : ∃ A, A = va_A [(hT, .inr (8, [.ref aC, .ref aG, .ref aI, .ref hB, .int lo, .ref aK, .ref aL, .ref aQ, .int (nI Ch), .int ct])), (aI, .inl ((D.1 101), 25, .inl fI)), (aK, .inl ((D.1 101), 6, .inl fK)), (aQ, .inl ((D.1 101), 18, .inl fQ))] s.heap.size := ⟨_, rfl⟩
  rw [← hAe] at hD hZ hS
  have hA : ∀ q : Nat, s.heap.size ≤ q → A q := fun q h => by rw [hAe]; exact Or.inr h
  obtain ⟨H, hHe⟩ : ∃ H, H = s.heap := ⟨_, rfl⟩
  obtain ⟨locs, hLe⟩ : ∃ L : List Loc, L = [] := ⟨_, rfl⟩
  have hP : va_P D vwCl [(hT, .inr (8, [.ref aC, .ref aG, .ref aI, .ref hB, .int lo, .ref aK, .ref aL, .ref aQ, .int (nI Ch), .int ct])), (aI, .inl ((D.1 101), 25, .inl fI)), (aK, .inl ((D.1 101), 6, .inl fK)), (aQ, .inl ((D.1 101), 18, .inl fQ))] H := by rw [hHe]; exact hP
  have hS : va_S A s.heap H locs := by rw [hHe, hLe]; exact hS
  have hgoal : W p l e ({ frames := 1, cells := 0, slots := 0, locals := 21 } : Room) s m ([.ref hT, .int (nI k)] : List Value).toArray below meth c H locs 0 0 Q (F0 m 0 ls []) := by
    clear hHe hLe
    refine lv_iconst (v := 0) hx hb dX1_isByNewEvents_0 (by decide) ?_
    refine lv_istore_n (lv' := [(2, .int 0), (0, .ref hT), (1, .int (nI k))]) hx hb dX1_isByNewEvents_1 rfl hl (by decide) rfl (fun ls hl => ?_)
    refine lv_iload_n hx hb dX1_isByNewEvents_2 rfl (lv_at hl 2 rfl) ?_
    refine lv_iconst (v := 3) hx hb dX1_isByNewEvents_3 (by decide) ?_
    refine lv_imul hx hb dX1_isByNewEvents_4 ?_
    refine lv_istore_n (lv' := [(3, .int ((nI k) * 3)), (2, .int 0), (0, .ref hT), (1, .int (nI k))]) hx hb dX1_isByNewEvents_5 rfl hl (by decide) rfl (fun ls hl => ?_)
    refine lv_iconst (v := 0) hx hb dX1_isByNewEvents_6 (by decide) ?_
    refine lv_istore (lv' := [(4, .int 0), (3, .int ((nI k) * 3)), (2, .int 0), (0, .ref hT), (1, .int (nI k))]) hx hb dX1_isByNewEvents_7 hl (by decide) rfl (fun ls hl => ?_)
    have lp_9 : ∀ (n0 i0 : Nat), i0 + n0 = 25 → ∀ (a0 : Int32 × Int32 × (Nat → Int32)) (H : Heap) (locs : List Loc) (ls : Array Slot), va_P D vwCl [(hT, .inr (8, [.ref aC, .ref aG, .ref aI, .ref hB, .int lo, .ref aK, .ref aL, .ref aQ, .int (nI Ch), .int ct])), (aI, .inl ((D.1 101), 25, .inl fI)), (aK, .inl ((D.1 101), 6, .inl fK)), (aQ, .inl ((D.1 101), 18, .inl a0.2.2))] H → va_D A [(hT, .inr (8, [.ref aC, .ref aG, .ref aI, .ref hB, .int lo, .ref aK, .ref aL, .ref aQ, .int (nI Ch), .int ct])), (aI, .inl ((D.1 101), 25, .inl fI)), (aK, .inl ((D.1 101), 6, .inl fK)), (aQ, .inl ((D.1 101), 18, .inl a0.2.2))] → va_S A s.heap H locs → lv_has ls 5 [(0, .ref hT), (1, .int (nI k)), (2, .int a0.1), (3, .int a0.2.1), (4, .int (nI i0))] → ((a0.1 = 0 ∨ a0.1 = 1) ∧ ∃ p : Nat, p ≤ 18 ∧ a0.2.1 = nI p) → (∀ (H : Heap) (locs : List Loc) (ls : Array Slot), va_P D vwCl [(hT, .inr (8, [.ref aC, .ref aG, .ref aI, .ref hB, .int lo, .ref aK, .ref aL, .ref aQ, .int (nI Ch), .int ct])), (aI, .inl ((D.1 101), 25, .inl fI)), (aK, .inl ((D.1 101), 6, .inl fK)), (aQ, .inl ((D.1 101), 18, .inl ((itr (fun i a => S_X1_isByNewEvents_9 fI fK k i a) n0 i0 a0).2.2)))] H → va_D A [(hT, .inr (8, [.ref aC, .ref aG, .ref aI, .ref hB, .int lo, .ref aK, .ref aL, .ref aQ, .int (nI Ch), .int ct])), (aI, .inl ((D.1 101), 25, .inl fI)), (aK, .inl ((D.1 101), 6, .inl fK)), (aQ, .inl ((D.1 101), 18, .inl ((itr (fun i a => S_X1_isByNewEvents_9 fI fK k i a) n0 i0 a0).2.2)))] → va_S A s.heap H locs → lv_has ls 5 [(0, .ref hT), (1, .int (nI k)), (2, .int ((itr (fun i a => S_X1_isByNewEvents_9 fI fK k i a) n0 i0 a0).1)), (3, .int ((itr (fun i a => S_X1_isByNewEvents_9 fI fK k i a) n0 i0 a0).2.1)), (4, .int (nI 25))] → (((itr (fun i a => S_X1_isByNewEvents_9 fI fK k i a) n0 i0 a0).1 = 0 ∨ (itr (fun i a => S_X1_isByNewEvents_9 fI fK k i a) n0 i0 a0).1 = 1) ∧ ∃ p : Nat, p ≤ 18 ∧ (itr (fun i a => S_X1_isByNewEvents_9 fI fK k i a) n0 i0 a0).2.1 = nI p) → W p l e ({ frames := 1, cells := 0, slots := 0, locals := 21 } : Room) s m ([.ref hT, .int (nI k)] : List Value).toArray below meth c H locs 0 0 Q (F0 m 87 ls [])) → W p l e ({ frames := 1, cells := 0, slots := 0, locals := 21 } : Room) s m ([.ref hT, .int (nI k)] : List Value).toArray below meth c H locs 0 0 Q (F0 m 9 ls []) := by
      intro n0
      induction n0 with
      | zero =>
        intro i0 hi0 a0 H locs ls hP hD hS hl hv0 kon
        have he0 : i0 = 25 := by omega
        refine lv_iload hx hb dX1_isByNewEvents_9 (lv_at hl 4 rfl) ?_
        refine lv_bipush (v := 25) hx hb dX1_isByNewEvents_11 (by decide) ?_
        refine lv_icmp_ge (tgt := 87) hx hb dX1_isByNewEvents_13 (by decide) (fun c_1 => ?_) (fun c_1 => ?_)
        · subst he0
          exact kon H locs ls hP hD hS (lv_sub hl [0, 1, 2, 3, 4] rfl) hv0
        · exact absurd (nI_le (a := 25) (b := i0) (by omega) (by omega)) c_1
      | succ n0 ih0 =>
        intro i0 hi0 a0 H locs ls hP hD hS hl hv0 kon
        refine lv_iload hx hb dX1_isByNewEvents_9 (lv_at hl 4 rfl) ?_
        refine lv_bipush (v := 25) hx hb dX1_isByNewEvents_11 (by decide) ?_
        refine lv_icmp_ge (tgt := 87) hx hb dX1_isByNewEvents_13 (by decide) (fun c_2 => ?_) (fun c_2 => ?_)
        · exact absurd c_2 (nI_ge (a := i0) (b := 25) (by omega) (by omega))
        · refine lv_aload_n hx hb dX1_isByNewEvents_16 rfl (lv_at hl 0 rfl) ?_
          refine va_get (D := D) (ci := 8) (v := .ref aK) (C := RX1) (T := TX1) (N := 10) hx hb hts in_X1 hown hK hP 0 rfl rfl 5 (by decide) (hts _ q_263) (fun _ h9 => h9) rfl dX1_isByNewEvents_17 ?_
          refine lv_iload_n hx hb dX1_isByNewEvents_20 rfl (lv_at hl 1 rfl) ?_
          refine va_iald hx hb hK hP 2 1 rfl rfl (vp_in_nI (by omega) (by omega)) dX1_isByNewEvents_21 ?_
          rw [nI_clamp (by omega)]
          refine lv_iload hx hb dX1_isByNewEvents_22 (lv_at hl 4 rfl) ?_
          have hPc := hP.sub (ws' := []) [] rfl
          have hDc := hD.sub (ws' := []) [] (by decide) rfl
          have hFc := va_free (wc := []) hD hS hA [] rfl
          refine va_calli (va_runSN (As := [.int (fK k), .int (nI i0)]) (rest := []) ⟨hx, hb, hml, hown, hts⟩ (c_X4_holds l D (fK k) (nI i0) H.size ) ⟨va_cnB 2 hts (gi_sub q_713) rfl rfl rfl (hN.1 _ n_1049) (hts _ q_80) (by decide +kernel) ⟨Nat.le_of_ble_eq_true rfl, Nat.le_of_ble_eq_true rfl⟩, (hts _ q_712), trivial⟩ ⟨cPre_blind, cPre_mk hPc hK hDc hN (lwZ_for hZ hS hFc)⟩ rfl rfl hl.1 rfl (lv_room (Nat.le_of_ble_eq_true rfl)) dX1_isByNewEvents_24 ⟨(Nat.le_of_ble_eq_true rfl), (Nat.le_of_ble_eq_true rfl)⟩) hS (fun q h1 h2 => absurd h2 (Nat.not_le.mpr h1)) (fun q h => hA q (Nat.le_trans hS.1 h)) (fun r_24 u t H1 locs ht hvm hw hBk hz1 hk1 hS => ?_)
          have hP := va_P_ro hP hk1
          obtain ⟨hw, z_3⟩ := hw
          rw [hw] at z_3
          subst hw
          clear hBk hvm ht u hz1 hk1
          clear hPc hDc hFc; clear t
          generalize H1 = H at hP hS ⊢
          refine lv_if_eq (tgt := 81) hx hb dX1_isByNewEvents_27 (by decide) (fun c_4 => ?_) (fun c_4 => ?_)
          · refine lv_iinc (v := nI (i0 + 1)) (lv' := [(4, .int (nI (i0 + 1))), (0, .ref hT), (1, .int (nI k)), (2, .int a0.1), (3, .int a0.2.1)]) hx hb dX1_isByNewEvents_81 hl (k := 4) rfl (nI_1 _) (by decide) rfl (fun ls hl => ?_)
            refine lv_goto (tgt := 9) hx hb dX1_isByNewEvents_84 (by decide) ?_
            have hE : S_X1_isByNewEvents_9 fI fK k i0 a0 = (a0.1, a0.2.1, a0.2.2) := (by unfold S_X1_isByNewEvents_9; rw [if_pos c_4])
            have hl : lv_has ls 5 [(0, .ref hT), (1, .int (nI k)), (2, .int a0.1), (3, .int a0.2.1), (4, .int (nI (i0 + 1)))] := lv_sub hl [1, 2, 3, 4, 0] rfl
            have hP := hP.sub (ws' := [(hT, .inr (8, [.ref aC, .ref aG, .ref aI, .ref hB, .int lo, .ref aK, .ref aL, .ref aQ, .int (nI Ch), .int ct])), (aI, .inl ((D.1 101), 25, .inl fI)), (aK, .inl ((D.1 101), 6, .inl fK)), (aQ, .inl ((D.1 101), 18, .inl a0.2.2))]) [0, 1, 2, 3] rfl
            have hD := hD.sub (ws' := [(hT, .inr (8, [.ref aC, .ref aG, .ref aI, .ref hB, .int lo, .ref aK, .ref aL, .ref aQ, .int (nI Ch), .int ct])), (aI, .inl ((D.1 101), 25, .inl fI)), (aK, .inl ((D.1 101), 6, .inl fK)), (aQ, .inl ((D.1 101), 18, .inl a0.2.2))]) [0, 1, 2, 3] (by decide) rfl
            exact ih0 (i0 + 1) (by omega) (S_X1_isByNewEvents_9 fI fK k i0 a0) H locs ls (by (try rw [hE]); exact hP) (by (try rw [hE]); exact hD) hS (by (try rw [hE]); exact hl) (by (try rw [hE]); exact (by first | exact hv0 | exact ⟨zb_0, plc_step hv0.2 (by assumption)⟩ | exact ⟨zb_1, plc_step hv0.2 (by assumption)⟩)) kon
          · refine lv_iload_n hx hb dX1_isByNewEvents_30 rfl (lv_at hl 3 rfl) ?_
            refine lv_aload_n hx hb dX1_isByNewEvents_31 rfl (lv_at hl 0 rfl) ?_
            refine va_get (D := D) (ci := 8) (v := .ref aQ) (C := RX1) (T := TX1) (N := 10) hx hb hts in_X1 hown hK hP 0 rfl rfl 7 (by decide) (hts _ q_265) (fun _ h9 => h9) rfl dX1_isByNewEvents_32 ?_
            refine va_alen hx hb hK hP 3 1 rfl rfl (v := nI 18) rfl dX1_isByNewEvents_35 ?_
            refine lv_icmp_ge (tgt := 81) hx hb dX1_isByNewEvents_36 (by decide) (fun c_5 => ?_) (fun c_5 => ?_)
            · refine lv_iinc (v := nI (i0 + 1)) (lv' := [(4, .int (nI (i0 + 1))), (0, .ref hT), (1, .int (nI k)), (2, .int a0.1), (3, .int a0.2.1)]) hx hb dX1_isByNewEvents_81 hl (k := 4) rfl (nI_1 _) (by decide) rfl (fun ls hl => ?_)
              refine lv_goto (tgt := 9) hx hb dX1_isByNewEvents_84 (by decide) ?_
              have hE : S_X1_isByNewEvents_9 fI fK k i0 a0 = (a0.1, a0.2.1, a0.2.2) := (by unfold S_X1_isByNewEvents_9; rw [if_neg c_4, if_pos c_5])
              have hl : lv_has ls 5 [(0, .ref hT), (1, .int (nI k)), (2, .int a0.1), (3, .int a0.2.1), (4, .int (nI (i0 + 1)))] := lv_sub hl [1, 2, 3, 4, 0] rfl
              have hP := hP.sub (ws' := [(hT, .inr (8, [.ref aC, .ref aG, .ref aI, .ref hB, .int lo, .ref aK, .ref aL, .ref aQ, .int (nI Ch), .int ct])), (aI, .inl ((D.1 101), 25, .inl fI)), (aK, .inl ((D.1 101), 6, .inl fK)), (aQ, .inl ((D.1 101), 18, .inl a0.2.2))]) [0, 1, 2, 3] rfl
              have hD := hD.sub (ws' := [(hT, .inr (8, [.ref aC, .ref aG, .ref aI, .ref hB, .int lo, .ref aK, .ref aL, .ref aQ, .int (nI Ch), .int ct])), (aI, .inl ((D.1 101), 25, .inl fI)), (aK, .inl ((D.1 101), 6, .inl fK)), (aQ, .inl ((D.1 101), 18, .inl a0.2.2))]) [0, 1, 2, 3] (by decide) rfl
              exact ih0 (i0 + 1) (by omega) (S_X1_isByNewEvents_9 fI fK k i0 a0) H locs ls (by (try rw [hE]); exact hP) (by (try rw [hE]); exact hD) hS (by (try rw [hE]); exact hl) (by (try rw [hE]); exact (by first | exact hv0 | exact ⟨zb_0, plc_step hv0.2 (by assumption)⟩ | exact ⟨zb_1, plc_step hv0.2 (by assumption)⟩)) kon
            · refine lv_iload_n hx hb dX1_isByNewEvents_39 rfl (lv_at hl 2 rfl) ?_
              refine lv_if_ne (tgt := 59) hx hb dX1_isByNewEvents_40 (by decide) (fun c_6 => ?_) (fun c_6 => ?_)
              · refine lv_iconst (v := 1) hx hb dX1_isByNewEvents_59 (by decide) ?_
                refine lv_goto (tgt := 64) hx hb dX1_isByNewEvents_60 (by decide) ?_
                refine lv_istore_n (lv' := [(2, .int 1), (0, .ref hT), (1, .int (nI k)), (3, .int a0.2.1), (4, .int (nI i0))]) hx hb dX1_isByNewEvents_64 rfl hl (by decide) rfl (fun ls hl => ?_)
                refine lv_aload_n hx hb dX1_isByNewEvents_65 rfl (lv_at hl 1 rfl) ?_
                refine va_get (D := D) (ci := 8) (v := .ref aQ) (C := RX1) (T := TX1) (N := 10) hx hb hts in_X1 hown hK hP 0 rfl rfl 7 (by decide) (hts _ q_265) (fun _ h9 => h9) rfl dX1_isByNewEvents_66 ?_
                refine lv_iload_n hx hb dX1_isByNewEvents_69 rfl (lv_at hl 3 rfl) ?_
                refine lv_aload_n hx hb dX1_isByNewEvents_70 rfl (lv_at hl 1 rfl) ?_
                refine va_get (D := D) (ci := 8) (v := .ref aI) (C := RX1) (T := TX1) (N := 10) hx hb hts in_X1 hown hK hP 0 rfl rfl 2 (by decide) (hts _ q_258) (fun _ h9 => h9) rfl dX1_isByNewEvents_71 ?_
                refine lv_iload hx hb dX1_isByNewEvents_74 (lv_at hl 4 rfl) ?_
                refine va_iald hx hb hK hP 1 1 rfl rfl (vp_in_nI (by omega) (by omega)) dX1_isByNewEvents_76 ?_
                rw [nI_clamp (by omega)]
                refine va_iast hx hb hK hP hD hS 3 1 rfl rfl (plc_in hv0.2 (by assumption)) dX1_isByNewEvents_77 (fun H locs hP hD hS => ?_)
                have hP : va_P D vwCl [(hT, .inr (8, [.ref aC, .ref aG, .ref aI, .ref hB, .int lo, .ref aK, .ref aL, .ref aQ, .int (nI Ch), .int ct])), (aI, .inl ((D.1 101), 25, .inl fI)), (aK, .inl ((D.1 101), 6, .inl fK)), (aQ, .inl ((D.1 101), 18, .inl (upd a0.2.2 a0.2.1.toNatClampNeg (fI i0))))] H := hP
                have hD : va_D A [(hT, .inr (8, [.ref aC, .ref aG, .ref aI, .ref hB, .int lo, .ref aK, .ref aL, .ref aQ, .int (nI Ch), .int ct])), (aI, .inl ((D.1 101), 25, .inl fI)), (aK, .inl ((D.1 101), 6, .inl fK)), (aQ, .inl ((D.1 101), 18, .inl (upd a0.2.2 a0.2.1.toNatClampNeg (fI i0))))] := hD
                refine lv_iinc (v := a0.2.1 + 1) (lv' := [(3, .int (a0.2.1 + 1)), (2, .int 1), (0, .ref hT), (1, .int (nI k)), (4, .int (nI i0))]) hx hb dX1_isByNewEvents_78 hl (k := 3) rfl (rfl) (by decide) rfl (fun ls hl => ?_)
                refine lv_iinc (v := nI (i0 + 1)) (lv' := [(4, .int (nI (i0 + 1))), (3, .int (a0.2.1 + 1)), (2, .int 1), (0, .ref hT), (1, .int (nI k))]) hx hb dX1_isByNewEvents_81 hl (k := 4) rfl (nI_1 _) (by decide) rfl (fun ls hl => ?_)
                refine lv_goto (tgt := 9) hx hb dX1_isByNewEvents_84 (by decide) ?_
                have hE : S_X1_isByNewEvents_9 fI fK k i0 a0 = (1, a0.2.1 + 1, upd a0.2.2 a0.2.1.toNatClampNeg (fI i0)) := (by unfold S_X1_isByNewEvents_9; rw [if_neg c_4, if_neg c_5, if_neg c_6])
                have hl : lv_has ls 5 [(0, .ref hT), (1, .int (nI k)), (2, .int 1), (3, .int (a0.2.1 + 1)), (4, .int (nI (i0 + 1)))] := lv_sub hl [3, 4, 2, 1, 0] rfl
                have hP := hP.sub (ws' := [(hT, .inr (8, [.ref aC, .ref aG, .ref aI, .ref hB, .int lo, .ref aK, .ref aL, .ref aQ, .int (nI Ch), .int ct])), (aI, .inl ((D.1 101), 25, .inl fI)), (aK, .inl ((D.1 101), 6, .inl fK)), (aQ, .inl ((D.1 101), 18, .inl (upd a0.2.2 a0.2.1.toNatClampNeg (fI i0))))]) [0, 1, 2, 3] rfl
                have hD := hD.sub (ws' := [(hT, .inr (8, [.ref aC, .ref aG, .ref aI, .ref hB, .int lo, .ref aK, .ref aL, .ref aQ, .int (nI Ch), .int ct])), (aI, .inl ((D.1 101), 25, .inl fI)), (aK, .inl ((D.1 101), 6, .inl fK)), (aQ, .inl ((D.1 101), 18, .inl (upd a0.2.2 a0.2.1.toNatClampNeg (fI i0))))]) [0, 1, 2, 3] (by decide) rfl
                exact ih0 (i0 + 1) (by omega) (S_X1_isByNewEvents_9 fI fK k i0 a0) H locs ls (by (try rw [hE]); exact hP) (by (try rw [hE]); exact hD) hS (by (try rw [hE]); exact hl) (by (try rw [hE]); exact (by first | exact hv0 | exact ⟨zb_0, plc_step hv0.2 (by assumption)⟩ | exact ⟨zb_1, plc_step hv0.2 (by assumption)⟩)) kon
              · refine lv_aload_n hx hb dX1_isByNewEvents_43 rfl (lv_at hl 0 rfl) ?_
                refine va_get (D := D) (ci := 8) (v := .ref aQ) (C := RX1) (T := TX1) (N := 10) hx hb hts in_X1 hown hK hP 0 rfl rfl 7 (by decide) (hts _ q_265) (fun _ h9 => h9) rfl dX1_isByNewEvents_44 ?_
                refine lv_iload_n hx hb dX1_isByNewEvents_47 rfl (lv_at hl 3 rfl) ?_
                refine va_iald hx hb hK hP 3 1 rfl rfl (plc_in hv0.2 (by assumption)) dX1_isByNewEvents_48 ?_
                refine lv_aload_n hx hb dX1_isByNewEvents_49 rfl (lv_at hl 0 rfl) ?_
                refine va_get (D := D) (ci := 8) (v := .ref aI) (C := RX1) (T := TX1) (N := 10) hx hb hts in_X1 hown hK hP 0 rfl rfl 2 (by decide) (hts _ q_258) (fun _ h9 => h9) rfl dX1_isByNewEvents_50 ?_
                refine lv_iload hx hb dX1_isByNewEvents_53 (lv_at hl 4 rfl) ?_
                refine va_iald hx hb hK hP 1 1 rfl rfl (vp_in_nI (by omega) (by omega)) dX1_isByNewEvents_55 ?_
                rw [nI_clamp (by omega)]
                refine lv_icmp_eq (tgt := 63) hx hb dX1_isByNewEvents_56 (by decide) (fun c_7 => ?_) (fun c_7 => ?_)
                · refine lv_iconst (v := 0) hx hb dX1_isByNewEvents_63 (by decide) ?_
                  refine lv_istore_n (lv' := [(2, .int 0), (0, .ref hT), (1, .int (nI k)), (3, .int a0.2.1), (4, .int (nI i0))]) hx hb dX1_isByNewEvents_64 rfl hl (by decide) rfl (fun ls hl => ?_)
                  refine lv_aload_n hx hb dX1_isByNewEvents_65 rfl (lv_at hl 1 rfl) ?_
                  refine va_get (D := D) (ci := 8) (v := .ref aQ) (C := RX1) (T := TX1) (N := 10) hx hb hts in_X1 hown hK hP 0 rfl rfl 7 (by decide) (hts _ q_265) (fun _ h9 => h9) rfl dX1_isByNewEvents_66 ?_
                  refine lv_iload_n hx hb dX1_isByNewEvents_69 rfl (lv_at hl 3 rfl) ?_
                  refine lv_aload_n hx hb dX1_isByNewEvents_70 rfl (lv_at hl 1 rfl) ?_
                  refine va_get (D := D) (ci := 8) (v := .ref aI) (C := RX1) (T := TX1) (N := 10) hx hb hts in_X1 hown hK hP 0 rfl rfl 2 (by decide) (hts _ q_258) (fun _ h9 => h9) rfl dX1_isByNewEvents_71 ?_
                  refine lv_iload hx hb dX1_isByNewEvents_74 (lv_at hl 4 rfl) ?_
                  refine va_iald hx hb hK hP 1 1 rfl rfl (vp_in_nI (by omega) (by omega)) dX1_isByNewEvents_76 ?_
                  rw [nI_clamp (by omega)]
                  refine va_iast hx hb hK hP hD hS 3 1 rfl rfl (plc_in hv0.2 (by assumption)) dX1_isByNewEvents_77 (fun H locs hP hD hS => ?_)
                  have hP : va_P D vwCl [(hT, .inr (8, [.ref aC, .ref aG, .ref aI, .ref hB, .int lo, .ref aK, .ref aL, .ref aQ, .int (nI Ch), .int ct])), (aI, .inl ((D.1 101), 25, .inl fI)), (aK, .inl ((D.1 101), 6, .inl fK)), (aQ, .inl ((D.1 101), 18, .inl (upd a0.2.2 a0.2.1.toNatClampNeg (fI i0))))] H := hP
                  have hD : va_D A [(hT, .inr (8, [.ref aC, .ref aG, .ref aI, .ref hB, .int lo, .ref aK, .ref aL, .ref aQ, .int (nI Ch), .int ct])), (aI, .inl ((D.1 101), 25, .inl fI)), (aK, .inl ((D.1 101), 6, .inl fK)), (aQ, .inl ((D.1 101), 18, .inl (upd a0.2.2 a0.2.1.toNatClampNeg (fI i0))))] := hD
                  refine lv_iinc (v := a0.2.1 + 1) (lv' := [(3, .int (a0.2.1 + 1)), (2, .int 0), (0, .ref hT), (1, .int (nI k)), (4, .int (nI i0))]) hx hb dX1_isByNewEvents_78 hl (k := 3) rfl (rfl) (by decide) rfl (fun ls hl => ?_)
                  refine lv_iinc (v := nI (i0 + 1)) (lv' := [(4, .int (nI (i0 + 1))), (3, .int (a0.2.1 + 1)), (2, .int 0), (0, .ref hT), (1, .int (nI k))]) hx hb dX1_isByNewEvents_81 hl (k := 4) rfl (nI_1 _) (by decide) rfl (fun ls hl => ?_)
                  refine lv_goto (tgt := 9) hx hb dX1_isByNewEvents_84 (by decide) ?_
                  have hE : S_X1_isByNewEvents_9 fI fK k i0 a0 = (0, a0.2.1 + 1, upd a0.2.2 a0.2.1.toNatClampNeg (fI i0)) := (by unfold S_X1_isByNewEvents_9; rw [if_neg c_4, if_neg c_5, if_pos c_6, if_pos c_7])
                  have hl : lv_has ls 5 [(0, .ref hT), (1, .int (nI k)), (2, .int 0), (3, .int (a0.2.1 + 1)), (4, .int (nI (i0 + 1)))] := lv_sub hl [3, 4, 2, 1, 0] rfl
                  have hP := hP.sub (ws' := [(hT, .inr (8, [.ref aC, .ref aG, .ref aI, .ref hB, .int lo, .ref aK, .ref aL, .ref aQ, .int (nI Ch), .int ct])), (aI, .inl ((D.1 101), 25, .inl fI)), (aK, .inl ((D.1 101), 6, .inl fK)), (aQ, .inl ((D.1 101), 18, .inl (upd a0.2.2 a0.2.1.toNatClampNeg (fI i0))))]) [0, 1, 2, 3] rfl
                  have hD := hD.sub (ws' := [(hT, .inr (8, [.ref aC, .ref aG, .ref aI, .ref hB, .int lo, .ref aK, .ref aL, .ref aQ, .int (nI Ch), .int ct])), (aI, .inl ((D.1 101), 25, .inl fI)), (aK, .inl ((D.1 101), 6, .inl fK)), (aQ, .inl ((D.1 101), 18, .inl (upd a0.2.2 a0.2.1.toNatClampNeg (fI i0))))]) [0, 1, 2, 3] (by decide) rfl
                  exact ih0 (i0 + 1) (by omega) (S_X1_isByNewEvents_9 fI fK k i0 a0) H locs ls (by (try rw [hE]); exact hP) (by (try rw [hE]); exact hD) hS (by (try rw [hE]); exact hl) (by (try rw [hE]); exact (by first | exact hv0 | exact ⟨zb_0, plc_step hv0.2 (by assumption)⟩ | exact ⟨zb_1, plc_step hv0.2 (by assumption)⟩)) kon
                · refine lv_iconst (v := 1) hx hb dX1_isByNewEvents_59 (by decide) ?_
                  refine lv_goto (tgt := 64) hx hb dX1_isByNewEvents_60 (by decide) ?_
                  refine lv_istore_n (lv' := [(2, .int 1), (0, .ref hT), (1, .int (nI k)), (3, .int a0.2.1), (4, .int (nI i0))]) hx hb dX1_isByNewEvents_64 rfl hl (by decide) rfl (fun ls hl => ?_)
                  refine lv_aload_n hx hb dX1_isByNewEvents_65 rfl (lv_at hl 1 rfl) ?_
                  refine va_get (D := D) (ci := 8) (v := .ref aQ) (C := RX1) (T := TX1) (N := 10) hx hb hts in_X1 hown hK hP 0 rfl rfl 7 (by decide) (hts _ q_265) (fun _ h9 => h9) rfl dX1_isByNewEvents_66 ?_
                  refine lv_iload_n hx hb dX1_isByNewEvents_69 rfl (lv_at hl 3 rfl) ?_
                  refine lv_aload_n hx hb dX1_isByNewEvents_70 rfl (lv_at hl 1 rfl) ?_
                  refine va_get (D := D) (ci := 8) (v := .ref aI) (C := RX1) (T := TX1) (N := 10) hx hb hts in_X1 hown hK hP 0 rfl rfl 2 (by decide) (hts _ q_258) (fun _ h9 => h9) rfl dX1_isByNewEvents_71 ?_
                  refine lv_iload hx hb dX1_isByNewEvents_74 (lv_at hl 4 rfl) ?_
                  refine va_iald hx hb hK hP 1 1 rfl rfl (vp_in_nI (by omega) (by omega)) dX1_isByNewEvents_76 ?_
                  rw [nI_clamp (by omega)]
                  refine va_iast hx hb hK hP hD hS 3 1 rfl rfl (plc_in hv0.2 (by assumption)) dX1_isByNewEvents_77 (fun H locs hP hD hS => ?_)
                  have hP : va_P D vwCl [(hT, .inr (8, [.ref aC, .ref aG, .ref aI, .ref hB, .int lo, .ref aK, .ref aL, .ref aQ, .int (nI Ch), .int ct])), (aI, .inl ((D.1 101), 25, .inl fI)), (aK, .inl ((D.1 101), 6, .inl fK)), (aQ, .inl ((D.1 101), 18, .inl (upd a0.2.2 a0.2.1.toNatClampNeg (fI i0))))] H := hP
                  have hD : va_D A [(hT, .inr (8, [.ref aC, .ref aG, .ref aI, .ref hB, .int lo, .ref aK, .ref aL, .ref aQ, .int (nI Ch), .int ct])), (aI, .inl ((D.1 101), 25, .inl fI)), (aK, .inl ((D.1 101), 6, .inl fK)), (aQ, .inl ((D.1 101), 18, .inl (upd a0.2.2 a0.2.1.toNatClampNeg (fI i0))))] := hD
                  refine lv_iinc (v := a0.2.1 + 1) (lv' := [(3, .int (a0.2.1 + 1)), (2, .int 1), (0, .ref hT), (1, .int (nI k)), (4, .int (nI i0))]) hx hb dX1_isByNewEvents_78 hl (k := 3) rfl (rfl) (by decide) rfl (fun ls hl => ?_)
                  refine lv_iinc (v := nI (i0 + 1)) (lv' := [(4, .int (nI (i0 + 1))), (3, .int (a0.2.1 + 1)), (2, .int 1), (0, .ref hT), (1, .int (nI k))]) hx hb dX1_isByNewEvents_81 hl (k := 4) rfl (nI_1 _) (by decide) rfl (fun ls hl => ?_)
                  refine lv_goto (tgt := 9) hx hb dX1_isByNewEvents_84 (by decide) ?_
                  have hE : S_X1_isByNewEvents_9 fI fK k i0 a0 = (1, a0.2.1 + 1, upd a0.2.2 a0.2.1.toNatClampNeg (fI i0)) := (by unfold S_X1_isByNewEvents_9; rw [if_neg c_4, if_neg c_5, if_pos c_6, if_neg c_7])
                  have hl : lv_has ls 5 [(0, .ref hT), (1, .int (nI k)), (2, .int 1), (3, .int (a0.2.1 + 1)), (4, .int (nI (i0 + 1)))] := lv_sub hl [3, 4, 2, 1, 0] rfl
                  have hP := hP.sub (ws' := [(hT, .inr (8, [.ref aC, .ref aG, .ref aI, .ref hB, .int lo, .ref aK, .ref aL, .ref aQ, .int (nI Ch), .int ct])), (aI, .inl ((D.1 101), 25, .inl fI)), (aK, .inl ((D.1 101), 6, .inl fK)), (aQ, .inl ((D.1 101), 18, .inl (upd a0.2.2 a0.2.1.toNatClampNeg (fI i0))))]) [0, 1, 2, 3] rfl
                  have hD := hD.sub (ws' := [(hT, .inr (8, [.ref aC, .ref aG, .ref aI, .ref hB, .int lo, .ref aK, .ref aL, .ref aQ, .int (nI Ch), .int ct])), (aI, .inl ((D.1 101), 25, .inl fI)), (aK, .inl ((D.1 101), 6, .inl fK)), (aQ, .inl ((D.1 101), 18, .inl (upd a0.2.2 a0.2.1.toNatClampNeg (fI i0))))]) [0, 1, 2, 3] (by decide) rfl
                  exact ih0 (i0 + 1) (by omega) (S_X1_isByNewEvents_9 fI fK k i0 a0) H locs ls (by (try rw [hE]); exact hP) (by (try rw [hE]); exact hD) hS (by (try rw [hE]); exact hl) (by (try rw [hE]); exact (by first | exact hv0 | exact ⟨zb_0, plc_step hv0.2 (by assumption)⟩ | exact ⟨zb_1, plc_step hv0.2 (by assumption)⟩)) kon
    have hl : lv_has ls 5 [(0, .ref hT), (1, .int (nI k)), (2, .int 0), (3, .int ((nI k) * 3)), (4, .int (nI 0))] := lv_sub hl [3, 4, 2, 1, 0] rfl
    refine lp_9 25 0 (by omega) (0, (nI k) * 3, fQ) H locs ls hP hD hS hl ⟨zb_0, plc_0 hc⟩ ?_
    clear lp_9 hP hD hS hl
    intro H locs ls hP hD hS hl hw_9
    refine lv_iload_n hx hb dX1_isByNewEvents_87 rfl (lv_at hl 2 rfl) ?_
    subst hQe
    subst hAe
    have hE : (F_X1_isByNewEvents fI fK fQ k) = ((itr (fun i a => S_X1_isByNewEvents_9 fI fK k i a) 25 0 (0, (nI k) * 3, fQ)).1, (itr (fun i a => S_X1_isByNewEvents_9 fI fK k i a) 25 0 (0, (nI k) * 3, fQ)).2.2) := (by rfl)
    have hP9 := hP.sub (ws' := [(hT, .inr (8, [.ref aC, .ref aG, .ref aI, .ref hB, .int lo, .ref aK, .ref aL, .ref aQ, .int (nI Ch), .int ct])), (aI, .inl ((D.1 101), 25, .inl fI)), (aK, .inl ((D.1 101), 6, .inl fK)), (aQ, .inl ((D.1 101), 18, .inl ((itr (fun i a => S_X1_isByNewEvents_9 fI fK k i a) 25 0 (0, (nI k) * 3, fQ)).2.2)))]) [0, 1, 2, 3] rfl
    have hD9 := hD.sub (ws' := [(hT, .inr (8, [.ref aC, .ref aG, .ref aI, .ref hB, .int lo, .ref aK, .ref aL, .ref aQ, .int (nI Ch), .int ct])), (aI, .inl ((D.1 101), 25, .inl fI)), (aK, .inl ((D.1 101), 6, .inl fK)), (aQ, .inl ((D.1 101), 18, .inl ((itr (fun i a => S_X1_isByNewEvents_9 fI fK k i a) 25 0 (0, (nI k) * 3, fQ)).2.2)))]) [0, 1, 2, 3] (by decide) rfl
    exact W.zret (ty := .boolean) (v := (itr (fun i a => S_X1_isByNewEvents_9 fI fK k i a) 25 0 (0, (nI k) * 3, fQ)).1) hx hb hr (zb_narrow hw_9.1) (fun t ht hW => ⟨⟨(itr (fun i a => S_X1_isByNewEvents_9 fI fK k i a) 25 0 (0, (nI k) * 3, fQ)).1, (), rfl, ⟨(by rw [hE]), hw_9.1⟩, (by (try rw [hE]); rw [ht]; exact hP9), (by (try rw [hE]); exact hD9)⟩, hS.F ht⟩) hS.2.2 dX1_isByNewEvents_88
  rw [hHe, hLe] at hgoal
  exact hgoal

def S_X1_addChord_22 (Ch : Nat) (i0 : Nat) (a0 : (Nat → Int32)) : (Nat → Int32) := upd a0 (((nI Ch) * 3) + (nI i0)).toNatClampNeg 0
def F_X1_addChord (Ch : Nat) (fK : Nat → Int32) (fL : Nat → Int32) (fQ : Nat → Int32) (x1 : Int32) (x2 : Int32) : Int32 × (Nat → Int32) × (Nat → Int32) × (Nat → Int32) × Nat := (nI Ch, upd fK Ch x1, upd fL Ch x2, (itr (fun i a => S_X1_addChord_22 Ch i a) 3 0 fQ), (Ch + 1))
set_option maxHeartbeats 4000000 in
set_option maxRecDepth 100000 in
theorem c_X1_addChord (l : Launch) (D : va_G) (hT : Nat) (aC : Nat) (aG : Nat) (aI : Nat) (hB : Nat) (aK : Nat) (aL : Nat) (aQ : Nat) (lo : Int32) (Ch : Nat) (ct : Int32) (fK : Nat → Int32) (fL : Nat → Int32) (fQ : Nat → Int32) (x1 : Int32) (x2 : Int32) (sz : Nat) (hCh : Ch < 6) : Met l yX1_addChord (Cond.code yX1_addChord cX1_addChord 5 (some .int) :: lwAll) ({ frames := 0, cells := 0, slots := 0, locals := 0 } : Room) (va_Pc [.ref hT, .int x1, .int x2] (cPre D (lwTY D) [(hT, .inr (8, [.ref aC, .ref aG, .ref aI, .ref hB, .int lo, .ref aK, .ref aL, .ref aQ, .int (nI Ch), .int ct])), (aK, .inl ((D.1 101), 6, .inl fK)), (aL, .inl ((D.1 101), 6, .inl fL)), (aQ, .inl ((D.1 101), 18, .inl fQ))] sz)) (va_Qi (fun (r : Int32) (_ : Unit) => r = (F_X1_addChord Ch fK fL fQ x1 x2).1) (fun (_ : Unit) t => va_P D vwCl [(hT, .inr (8, [.ref aC, .ref aG, .ref aI, .ref hB, .int lo, .ref aK, .ref aL, .ref aQ, .int (nI ((F_X1_addChord Ch fK fL fQ x1 x2).2.2.2.2)), .int ct])), (aK, .inl ((D.1 101), 6, .inl ((F_X1_addChord Ch fK fL fQ x1 x2).2.1))), (aL, .inl ((D.1 101), 6, .inl ((F_X1_addChord Ch fK fL fQ x1 x2).2.2.1))), (aQ, .inl ((D.1 101), 18, .inl ((F_X1_addChord Ch fK fL fQ x1 x2).2.2.2.1)))] t.heap ∧ va_D (va_A [(hT, .inr (8, [.ref aC, .ref aG, .ref aI, .ref hB, .int lo, .ref aK, .ref aL, .ref aQ, .int (nI Ch), .int ct])), (aK, .inl ((D.1 101), 6, .inl fK)), (aL, .inl ((D.1 101), 6, .inl fL)), (aQ, .inl ((D.1 101), 18, .inl fQ))] sz) [(hT, .inr (8, [.ref aC, .ref aG, .ref aI, .ref hB, .int lo, .ref aK, .ref aL, .ref aQ, .int (nI ((F_X1_addChord Ch fK fL fQ x1 x2).2.2.2.2)), .int ct])), (aK, .inl ((D.1 101), 6, .inl ((F_X1_addChord Ch fK fL fQ x1 x2).2.1))), (aL, .inl ((D.1 101), 6, .inl ((F_X1_addChord Ch fK fL fQ x1 x2).2.2.1))), (aQ, .inl ((D.1 101), 18, .inl ((F_X1_addChord Ch fK fL fQ x1 x2).2.2.2.1)))]) (va_A [(hT, .inr (8, [.ref aC, .ref aG, .ref aI, .ref hB, .int lo, .ref aK, .ref aL, .ref aQ, .int (nI Ch), .int ct])), (aK, .inl ((D.1 101), 6, .inl fK)), (aL, .inl ((D.1 101), 6, .inl fL)), (aQ, .inl ((D.1 101), 18, .inl fQ))] sz)) 0 0 (va_A [(hT, .inr (8, [.ref aC, .ref aG, .ref aI, .ref hB, .int lo, .ref aK, .ref aL, .ref aQ, .int (nI Ch), .int ct])), (aK, .inl ((D.1 101), 6, .inl fK)), (aL, .inl ((D.1 101), 6, .inl fL)), (aQ, .inl ((D.1 101), 18, .inl fQ))] sz) := by
  refine Met.ofW (cc := cX1_addChord) (maxL := 5) (ret := (some .int)) (by decide) rfl ?_
  intro p e s m args below meth c s₁ B hml hv
  obtain ⟨rfl, hsz, hP, hK, hD0, hN, hZ⟩ := hv
  have hx := B.exec
  have hb := B.bytes
  have hr := B.returns
  have hts : ∀ wd ∈ lwAll, wd.before ([.ref hT, .int x1, .int x2] : List Value).toArray s = true := fun wd h => atoms_spec (ws := (Cond.code yX1_addChord cX1_addChord 5 (some .int) :: lwAll)) B.pre wd (List.mem_cons_of_mem _ h)
  have hown : s.vm.findClass RX1 = some m.cls := findClass_of_methodNamed B.named
  have hlocks := B.notSynchronized
  subst hsz
  have hD := hD0.self (sz := s.heap.size)
  have hl := lv_entry ([.ref hT, .int x1, .int x2]) (n := 5) (Nat.le_of_ble_eq_true rfl)
  rw [lg_entry_eq]
  generalize (lg_sl ([.ref hT, .int x1, .int x2]) ++ List.replicate (5 - (lg_sl ([.ref hT, .int x1, .int x2])).length) Slot.unset).toArray = ls at hl ⊢
  have hl : lv_has ls 5 [(0, .ref hT), (1, .int x1), (2, .int x2)] := hl
  have hS : va_S (va_A [(hT, .inr (8, [.ref aC, .ref aG, .ref aI, .ref hB, .int lo, .ref aK, .ref aL, .ref aQ, .int (nI Ch), .int ct])), (aK, .inl ((D.1 101), 6, .inl fK)), (aL, .inl ((D.1 101), 6, .inl fL)), (aQ, .inl ((D.1 101), 18, .inl fQ))] s.heap.size) s.heap s.heap [] := va_S.rf
  generalize hQe : MQ below (va_Qi (fun (r : Int32) (_ : Unit) => r = (F_X1_addChord Ch fK fL fQ x1 x2).1) (fun (_ : Unit) t => va_P D vwCl [(hT, .inr (8, [.ref aC, .ref aG, .ref aI, .ref hB, .int lo, .ref aK, .ref aL, .ref aQ, .int (nI ((F_X1_addChord Ch fK fL fQ x1 x2).2.2.2.2)), .int ct])), (aK, .inl ((D.1 101), 6, .inl ((F_X1_addChord Ch fK fL fQ x1 x2).2.1))), (aL, .inl ((D.1 101), 6, .inl ((F_X1_addChord Ch fK fL fQ x1 x2).2.2.1))), (aQ, .inl ((D.1 101), 18, .inl ((F_X1_addChord Ch fK fL fQ x1 x2).2.2.2.1)))] t.heap ∧ va_D (va_A [(hT, .inr (8, [.ref aC, .ref aG, .ref aI, .ref hB, .int lo, .ref aK, .ref aL, .ref aQ, .int (nI Ch), .int ct])), (aK, .inl ((D.1 101), 6, .inl fK)), (aL, .inl ((D.1 101), 6, .inl fL)), (aQ, .inl ((D.1 101), 18, .inl fQ))] s.heap.size) [(hT, .inr (8, [.ref aC, .ref aG, .ref aI, .ref hB, .int lo, .ref aK, .ref aL, .ref aQ, .int (nI ((F_X1_addChord Ch fK fL fQ x1 x2).2.2.2.2)), .int ct])), (aK, .inl ((D.1 101), 6, .inl ((F_X1_addChord Ch fK fL fQ x1 x2).2.1))), (aL, .inl ((D.1 101), 6, .inl ((F_X1_addChord Ch fK fL fQ x1 x2).2.2.1))), (aQ, .inl ((D.1 101), 18, .inl ((F_X1_addChord Ch fK fL fQ x1 x2).2.2.2.1)))]) (va_A [(hT, .inr (8, [.ref aC, .ref aG, .ref aI, .ref hB, .int lo, .ref aK, .ref aL, .ref aQ, .int (nI Ch), .int ct])), (aK, .inl ((D.1 101), 6, .inl fK)), (aL, .inl ((D.1 101), 6, .inl fL)), (aQ, .inl ((D.1 101), 18, .inl fQ))] s.heap.size)) ([.ref hT, .int x1, .int x2] : List Value).toArray s 0 0 (va_A [(hT, .inr (8, [.ref aC, .ref aG, .ref aI, .ref hB, .int lo, .ref aK, .ref aL, .ref aQ, .int (nI Ch), .int ct])), (aK, .inl ((D.1 101), 6, .inl fK)), (aL, .inl ((D.1 101), 6, .inl fL)), (aQ, .inl ((D.1 101), 18, .inl fQ))] s.heap.size) = Q
  have hP : va_P D vwCl [(hT, .inr (8, [.ref aC, .ref aG, .ref aI, .ref hB, .int lo, .ref aK, .ref aL, .ref aQ, .int (nI Ch), .int ct])), (aK, .inl ((D.1 101), 6, .inl fK)), (aL, .inl ((D.1 101), 6, .inl fL)), (aQ, .inl ((D.1 101), 18, .inl fQ))] s.heap := hP
  obtain ⟨A, hAe⟩ : ∃ A, A = va_A [(hT, .inr (8, [.ref aC, .ref aG, .ref aI, .ref hB, .int lo, .ref aK, .ref aL, .ref aQ, .int (nI Ch), .int ct])), (aK, .inl ((D.1 101), 6, .inl fK)), (aL, .inl ((D.1 101), 6, .inl fL)), (aQ, .inl ((D.1 101), 18, .inl fQ))] s.heap.size := ⟨_, rfl⟩
  rw [← hAe] at hD hZ hS
  have hA : ∀ q : Nat, s.heap.size ≤ q → A q := fun q h => by rw [hAe]; exact Or.inr h
  obtain ⟨H, hHe⟩ : ∃ H, H = s.heap := ⟨_, rfl⟩
  obtain ⟨locs, hLe⟩ : ∃ L : List Loc, L = [] := ⟨_, rfl⟩
  have hP : va_P D vwCl [(hT, .inr (8, [.ref aC, .ref aG, .ref aI, .ref hB, .int lo, .ref aK, .ref aL, .ref aQ, .int (nI Ch), .int ct])), (aK, .inl ((D.1 101), 6, .inl fK)), (aL, .inl ((D.1 101), 6, .inl fL)), (aQ, .inl ((D.1 101), 18, .inl fQ))] H := by rw [hHe]; exact hP
  have hS : va_S A s.heap H locs := by rw [hHe, hLe]; exact hS
  have hgoal : W p l e ({ frames := 0, cells := 0, slots := 0, locals := 0 } : Room) s m ([.ref hT, .int x1, .int x2] : List Value).toArray below meth c H locs 0 0 Q (F0 m 0 ls []) := by
    clear hHe hLe
    refine lv_aload_n hx hb dX1_addChord_0 rfl (lv_at hl 0 rfl) ?_
    refine va_get (D := D) (ci := 8) (v := .int (nI Ch)) (C := RX1) (T := TX1) (N := 10) hx hb hts in_X1 hown hK hP 0 rfl rfl 8 (by decide) (hts _ q_266) (fun _ h9 => h9) rfl dX1_addChord_1 ?_
    refine lv_istore_n (lv' := [(3, .int (nI Ch)), (0, .ref hT), (1, .int x1), (2, .int x2)]) hx hb dX1_addChord_4 rfl hl (by decide) rfl (fun ls hl => ?_)
    refine lv_aload_n hx hb dX1_addChord_5 rfl (lv_at hl 1 rfl) ?_
    refine va_get (D := D) (ci := 8) (v := .ref aK) (C := RX1) (T := TX1) (N := 10) hx hb hts in_X1 hown hK hP 0 rfl rfl 5 (by decide) (hts _ q_263) (fun _ h9 => h9) rfl dX1_addChord_6 ?_
    refine lv_iload_n hx hb dX1_addChord_9 rfl (lv_at hl 0 rfl) ?_
    refine lv_iload_n hx hb dX1_addChord_10 rfl (lv_at hl 2 rfl) ?_
    refine va_iast hx hb hK hP hD hS 1 1 rfl rfl (vp_in_nI (by omega) (by omega)) dX1_addChord_11 (fun H locs hP hD hS => ?_)
    rw [nI_clamp (by omega)] at hP hD
    have hP : va_P D vwCl [(hT, .inr (8, [.ref aC, .ref aG, .ref aI, .ref hB, .int lo, .ref aK, .ref aL, .ref aQ, .int (nI Ch), .int ct])), (aK, .inl ((D.1 101), 6, .inl (upd fK Ch x1))), (aL, .inl ((D.1 101), 6, .inl fL)), (aQ, .inl ((D.1 101), 18, .inl fQ))] H := hP
    have hD : va_D A [(hT, .inr (8, [.ref aC, .ref aG, .ref aI, .ref hB, .int lo, .ref aK, .ref aL, .ref aQ, .int (nI Ch), .int ct])), (aK, .inl ((D.1 101), 6, .inl (upd fK Ch x1))), (aL, .inl ((D.1 101), 6, .inl fL)), (aQ, .inl ((D.1 101), 18, .inl fQ))] := hD
    refine lv_aload_n hx hb dX1_addChord_12 rfl (lv_at hl 1 rfl) ?_
    refine va_get (D := D) (ci := 8) (v := .ref aL) (C := RX1) (T := TX1) (N := 10) hx hb hts in_X1 hown hK hP 0 rfl rfl 6 (by decide) (hts _ q_264) (fun _ h9 => h9) rfl dX1_addChord_13 ?_
    refine lv_iload_n hx hb dX1_addChord_16 rfl (lv_at hl 0 rfl) ?_
    refine lv_iload_n hx hb dX1_addChord_17 rfl (lv_at hl 3 rfl) ?_
    refine va_iast hx hb hK hP hD hS 2 1 rfl rfl (vp_in_nI (by omega) (by omega)) dX1_addChord_18 (fun H locs hP hD hS => ?_)
    rw [nI_clamp (by omega)] at hP hD
    have hP : va_P D vwCl [(hT, .inr (8, [.ref aC, .ref aG, .ref aI, .ref hB, .int lo, .ref aK, .ref aL, .ref aQ, .int (nI Ch), .int ct])), (aK, .inl ((D.1 101), 6, .inl (upd fK Ch x1))), (aL, .inl ((D.1 101), 6, .inl (upd fL Ch x2))), (aQ, .inl ((D.1 101), 18, .inl fQ))] H := hP
    have hD : va_D A [(hT, .inr (8, [.ref aC, .ref aG, .ref aI, .ref hB, .int lo, .ref aK, .ref aL, .ref aQ, .int (nI Ch), .int ct])), (aK, .inl ((D.1 101), 6, .inl (upd fK Ch x1))), (aL, .inl ((D.1 101), 6, .inl (upd fL Ch x2))), (aQ, .inl ((D.1 101), 18, .inl fQ))] := hD
    refine lv_iconst (v := 0) hx hb dX1_addChord_19 (by decide) ?_
    refine lv_istore (lv' := [(4, .int 0), (3, .int (nI Ch)), (0, .ref hT), (1, .int x1), (2, .int x2)]) hx hb dX1_addChord_20 hl (by decide) rfl (fun ls hl => ?_)
    have lp_22 : ∀ (n0 i0 : Nat), i0 + n0 = 3 → ∀ (a0 : (Nat → Int32)) (H : Heap) (locs : List Loc) (ls : Array Slot), va_P D vwCl [(hT, .inr (8, [.ref aC, .ref aG, .ref aI, .ref hB, .int lo, .ref aK, .ref aL, .ref aQ, .int (nI Ch), .int ct])), (aK, .inl ((D.1 101), 6, .inl (upd fK Ch x1))), (aL, .inl ((D.1 101), 6, .inl (upd fL Ch x2))), (aQ, .inl ((D.1 101), 18, .inl a0))] H → va_D A [(hT, .inr (8, [.ref aC, .ref aG, .ref aI, .ref hB, .int lo, .ref aK, .ref aL, .ref aQ, .int (nI Ch), .int ct])), (aK, .inl ((D.1 101), 6, .inl (upd fK Ch x1))), (aL, .inl ((D.1 101), 6, .inl (upd fL Ch x2))), (aQ, .inl ((D.1 101), 18, .inl a0))] → va_S A s.heap H locs → lv_has ls 5 [(0, .ref hT), (1, .int x1), (2, .int x2), (3, .int (nI Ch)), (4, .int (nI i0))] → (∀ (H : Heap) (locs : List Loc) (ls : Array Slot), va_P D vwCl [(hT, .inr (8, [.ref aC, .ref aG, .ref aI, .ref hB, .int lo, .ref aK, .ref aL, .ref aQ, .int (nI Ch), .int ct])), (aK, .inl ((D.1 101), 6, .inl (upd fK Ch x1))), (aL, .inl ((D.1 101), 6, .inl (upd fL Ch x2))), (aQ, .inl ((D.1 101), 18, .inl (itr (fun i a => S_X1_addChord_22 Ch i a) n0 i0 a0)))] H → va_D A [(hT, .inr (8, [.ref aC, .ref aG, .ref aI, .ref hB, .int lo, .ref aK, .ref aL, .ref aQ, .int (nI Ch), .int ct])), (aK, .inl ((D.1 101), 6, .inl (upd fK Ch x1))), (aL, .inl ((D.1 101), 6, .inl (upd fL Ch x2))), (aQ, .inl ((D.1 101), 18, .inl (itr (fun i a => S_X1_addChord_22 Ch i a) n0 i0 a0)))] → va_S A s.heap H locs → lv_has ls 5 [(0, .ref hT), (1, .int x1), (2, .int x2), (3, .int (nI Ch)), (4, .int (nI 3))] → W p l e ({ frames := 0, cells := 0, slots := 0, locals := 0 } : Room) s m ([.ref hT, .int x1, .int x2] : List Value).toArray below meth c H locs 0 0 Q (F0 m 46 ls [])) → W p l e ({ frames := 0, cells := 0, slots := 0, locals := 0 } : Room) s m ([.ref hT, .int x1, .int x2] : List Value).toArray below meth c H locs 0 0 Q (F0 m 22 ls []) := by
      intro n0
      induction n0 with
      | zero =>
        intro i0 hi0 a0 H locs ls hP hD hS hl kon
        have he0 : i0 = 3 := by omega
        refine lv_iload hx hb dX1_addChord_22 (lv_at hl 4 rfl) ?_
        refine lv_iconst (v := 3) hx hb dX1_addChord_24 (by decide) ?_
        refine lv_icmp_ge (tgt := 46) hx hb dX1_addChord_25 (by decide) (fun c_1 => ?_) (fun c_1 => ?_)
        · subst he0
          exact kon H locs ls hP hD hS (lv_sub hl [0, 1, 2, 3, 4] rfl)
        · exact absurd (nI_le (a := 3) (b := i0) (by omega) (by omega)) c_1
      | succ n0 ih0 =>
        intro i0 hi0 a0 H locs ls hP hD hS hl kon
        refine lv_iload hx hb dX1_addChord_22 (lv_at hl 4 rfl) ?_
        refine lv_iconst (v := 3) hx hb dX1_addChord_24 (by decide) ?_
        refine lv_icmp_ge (tgt := 46) hx hb dX1_addChord_25 (by decide) (fun c_2 => ?_) (fun c_2 => ?_)
        · exact absurd c_2 (nI_ge (a := i0) (b := 3) (by omega) (by omega))
        · refine lv_aload_n hx hb dX1_addChord_28 rfl (lv_at hl 0 rfl) ?_
          refine va_get (D := D) (ci := 8) (v := .ref aQ) (C := RX1) (T := TX1) (N := 10) hx hb hts in_X1 hown hK hP 0 rfl rfl 7 (by decide) (hts _ q_265) (fun _ h9 => h9) rfl dX1_addChord_29 ?_
          refine lv_iload_n hx hb dX1_addChord_32 rfl (lv_at hl 3 rfl) ?_
          refine lv_iconst (v := 3) hx hb dX1_addChord_33 (by decide) ?_
          refine lv_imul hx hb dX1_addChord_34 ?_
          refine lv_iload hx hb dX1_addChord_35 (lv_at hl 4 rfl) ?_
          refine lv_iadd hx hb dX1_addChord_37 ?_
          refine lv_iconst (v := 0) hx hb dX1_addChord_38 (by decide) ?_
          refine va_iast hx hb hK hP hD hS 3 1 rfl rfl (vp_c3 (by omega) (by omega)) dX1_addChord_39 (fun H locs hP hD hS => ?_)
          have hP : va_P D vwCl [(hT, .inr (8, [.ref aC, .ref aG, .ref aI, .ref hB, .int lo, .ref aK, .ref aL, .ref aQ, .int (nI Ch), .int ct])), (aK, .inl ((D.1 101), 6, .inl (upd fK Ch x1))), (aL, .inl ((D.1 101), 6, .inl (upd fL Ch x2))), (aQ, .inl ((D.1 101), 18, .inl (upd a0 (((nI Ch) * 3) + (nI i0)).toNatClampNeg 0)))] H := hP
          have hD : va_D A [(hT, .inr (8, [.ref aC, .ref aG, .ref aI, .ref hB, .int lo, .ref aK, .ref aL, .ref aQ, .int (nI Ch), .int ct])), (aK, .inl ((D.1 101), 6, .inl (upd fK Ch x1))), (aL, .inl ((D.1 101), 6, .inl (upd fL Ch x2))), (aQ, .inl ((D.1 101), 18, .inl (upd a0 (((nI Ch) * 3) + (nI i0)).toNatClampNeg 0)))] := hD
          refine lv_iinc (v := nI (i0 + 1)) (lv' := [(4, .int (nI (i0 + 1))), (0, .ref hT), (1, .int x1), (2, .int x2), (3, .int (nI Ch))]) hx hb dX1_addChord_40 hl (k := 4) rfl (nI_1 _) (by decide) rfl (fun ls hl => ?_)
          refine lv_goto (tgt := 22) hx hb dX1_addChord_43 (by decide) ?_
          have hE : S_X1_addChord_22 Ch i0 a0 = upd a0 (((nI Ch) * 3) + (nI i0)).toNatClampNeg 0 := (by rfl)
          have hl : lv_has ls 5 [(0, .ref hT), (1, .int x1), (2, .int x2), (3, .int (nI Ch)), (4, .int (nI (i0 + 1)))] := lv_sub hl [1, 2, 3, 4, 0] rfl
          have hP := hP.sub (ws' := [(hT, .inr (8, [.ref aC, .ref aG, .ref aI, .ref hB, .int lo, .ref aK, .ref aL, .ref aQ, .int (nI Ch), .int ct])), (aK, .inl ((D.1 101), 6, .inl (upd fK Ch x1))), (aL, .inl ((D.1 101), 6, .inl (upd fL Ch x2))), (aQ, .inl ((D.1 101), 18, .inl (upd a0 (((nI Ch) * 3) + (nI i0)).toNatClampNeg 0)))]) [0, 1, 2, 3] rfl
          have hD := hD.sub (ws' := [(hT, .inr (8, [.ref aC, .ref aG, .ref aI, .ref hB, .int lo, .ref aK, .ref aL, .ref aQ, .int (nI Ch), .int ct])), (aK, .inl ((D.1 101), 6, .inl (upd fK Ch x1))), (aL, .inl ((D.1 101), 6, .inl (upd fL Ch x2))), (aQ, .inl ((D.1 101), 18, .inl (upd a0 (((nI Ch) * 3) + (nI i0)).toNatClampNeg 0)))]) [0, 1, 2, 3] (by decide) rfl
          exact ih0 (i0 + 1) (by omega) (S_X1_addChord_22 Ch i0 a0) H locs ls (by (try rw [hE]); exact hP) (by (try rw [hE]); exact hD) hS (by (try rw [hE]); exact hl) kon
    have hl : lv_has ls 5 [(0, .ref hT), (1, .int x1), (2, .int x2), (3, .int (nI Ch)), (4, .int (nI 0))] := lv_sub hl [2, 3, 4, 1, 0] rfl
    refine lp_22 3 0 (by omega) fQ H locs ls hP hD hS hl ?_
    clear lp_22 hP hD hS hl
    intro H locs ls hP hD hS hl
    refine lv_aload_n hx hb dX1_addChord_46 rfl (lv_at hl 0 rfl) ?_
    refine lv_dup hx hb dX1_addChord_47 rfl ?_
    refine va_get (D := D) (ci := 8) (v := .int (nI Ch)) (C := RX1) (T := TX1) (N := 10) hx hb hts in_X1 hown hK hP 0 rfl rfl 8 (by decide) (hts _ q_266) (fun _ h9 => h9) rfl dX1_addChord_48 ?_
    refine lv_iconst (v := 1) hx hb dX1_addChord_51 (by decide) ?_
    refine lv_iadd hx hb dX1_addChord_52 ?_
    rw [nI_1 Ch]
    refine va_put (D := D) (ci := 8) (v := .int (nI (Ch + 1))) (ty := .int) (C := RX1) (T := TX1) (N := 10) hx hb hts in_X1 tyX1 tyX1_ok nmX1 hown hK hP hD hS 0 rfl rfl 8 (by decide) (hts _ q_266) (fun _ h9 => h9) rfl (by decide +kernel) rfl rfl (Nat.le_of_ble_eq_true rfl) dX1_addChord_53 (fun H locs hP hD hS => ?_)
    have hP : va_P D vwCl [(hT, .inr (8, [.ref aC, .ref aG, .ref aI, .ref hB, .int lo, .ref aK, .ref aL, .ref aQ, .int (nI (Ch + 1)), .int ct])), (aK, .inl ((D.1 101), 6, .inl (upd fK Ch x1))), (aL, .inl ((D.1 101), 6, .inl (upd fL Ch x2))), (aQ, .inl ((D.1 101), 18, .inl (itr (fun i a => S_X1_addChord_22 Ch i a) 3 0 fQ)))] H := hP
    have hD : va_D A [(hT, .inr (8, [.ref aC, .ref aG, .ref aI, .ref hB, .int lo, .ref aK, .ref aL, .ref aQ, .int (nI (Ch + 1)), .int ct])), (aK, .inl ((D.1 101), 6, .inl (upd fK Ch x1))), (aL, .inl ((D.1 101), 6, .inl (upd fL Ch x2))), (aQ, .inl ((D.1 101), 18, .inl (itr (fun i a => S_X1_addChord_22 Ch i a) 3 0 fQ)))] := hD
    refine lv_iload_n hx hb dX1_addChord_56 rfl (lv_at hl 3 rfl) ?_
    subst hQe
    subst hAe
    have hE : (F_X1_addChord Ch fK fL fQ x1 x2) = (nI Ch, upd fK Ch x1, upd fL Ch x2, (itr (fun i a => S_X1_addChord_22 Ch i a) 3 0 fQ), (Ch + 1)) := (by rfl)
    have hP9 := hP.sub (ws' := [(hT, .inr (8, [.ref aC, .ref aG, .ref aI, .ref hB, .int lo, .ref aK, .ref aL, .ref aQ, .int (nI (Ch + 1)), .int ct])), (aK, .inl ((D.1 101), 6, .inl (upd fK Ch x1))), (aL, .inl ((D.1 101), 6, .inl (upd fL Ch x2))), (aQ, .inl ((D.1 101), 18, .inl (itr (fun i a => S_X1_addChord_22 Ch i a) 3 0 fQ)))]) [0, 1, 2, 3] rfl
    have hD9 := hD.sub (ws' := [(hT, .inr (8, [.ref aC, .ref aG, .ref aI, .ref hB, .int lo, .ref aK, .ref aL, .ref aQ, .int (nI (Ch + 1)), .int ct])), (aK, .inl ((D.1 101), 6, .inl (upd fK Ch x1))), (aL, .inl ((D.1 101), 6, .inl (upd fL Ch x2))), (aQ, .inl ((D.1 101), 18, .inl (itr (fun i a => S_X1_addChord_22 Ch i a) 3 0 fQ)))]) [0, 1, 2, 3] (by decide) rfl
    exact W.iret (v := nI Ch) hx hb hr (fun t ht hW => ⟨⟨nI Ch, (), rfl, (by rw [hE]), (by (try rw [hE]); rw [ht]; exact hP9), (by (try rw [hE]); exact hD9)⟩, hS.F ht⟩) hS.2.2 dX1_addChord_57
  rw [hHe, hLe] at hgoal
  exact hgoal
