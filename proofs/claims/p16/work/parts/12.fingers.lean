def F_X0_move (fB : Nat → Int32) (fN : Nat → Int32) (fM : Nat → Int32) (he : Int32) (k : Nat) (x2 : Int32) (x3 : Int32) : Int32 × (Nat → Int32) × (Nat → Int32) := (if (F_X4_holds he (nI k)) = x2 then (he, fN, fM) else (he ^^^ ((1 : Int32) <<< ((nI k) &&& 31)), upd fN k (fB k), upd fM k x3))
set_option maxHeartbeats 4000000 in
set_option maxRecDepth 100000 in
theorem c_X0_move (l : Launch) (D : va_G) (hF : Nat) (aB : Nat) (aS : Nat) (aN : Nat) (aM : Nat) (fB : Nat → Int32) (fS : Nat → Int32) (fN : Nat → Int32) (fM : Nat → Int32) (he : Int32) (lu : Int32) (k : Nat) (x2 : Int32) (x3 : Int32) (x1 : Int32) (sz : Nat) (hk : k < 25) (hx1 : x1 = nI k) : Met l yX0_move (Cond.code yX0_move cX0_move 4 none :: lwAll) ({ frames := 1, cells := 0, slots := 0, locals := 21 } : Room) (va_Pc [.ref hF, .int x1, .int x2, .int x3] (cPre D (lwTY D) [(hF, .inr (7, [.ref aB, .ref aS, .ref aN, .ref aM, .int he, .int lu])), (aB, .inl ((D.1 101), 25, .inl fB)), (aS, .inl ((D.1 101), 25, .inl fS)), (aN, .inl ((D.1 101), 25, .inl fN)), (aM, .inl ((D.1 101), 25, .inl fM))] sz)) (va_Qv (fun (_ : Unit) => True) (fun (_ : Unit) t => va_P D vwCl [(hF, .inr (7, [.ref aB, .ref aS, .ref aN, .ref aM, .int ((F_X0_move fB fN fM he k x2 x3).1), .int lu])), (aB, .inl ((D.1 101), 25, .inl fB)), (aS, .inl ((D.1 101), 25, .inl fS)), (aN, .inl ((D.1 101), 25, .inl ((F_X0_move fB fN fM he k x2 x3).2.1))), (aM, .inl ((D.1 101), 25, .inl ((F_X0_move fB fN fM he k x2 x3).2.2)))] t.heap ∧ va_D (va_A [(hF, .inr (7, [.ref aB, .ref aS, .ref aN, .ref aM, .int he, .int lu])), (aB, .inl ((D.1 101), 25, .inl fB)), (aS, .inl ((D.1 101), 25, .inl fS)), (aN, .inl ((D.1 101), 25, .inl fN)), (aM, .inl ((D.1 101), 25, .inl fM))] sz) [(hF, .inr (7, [.ref aB, .ref aS, .ref aN, .ref aM, .int ((F_X0_move fB fN fM he k x2 x3).1), .int lu])), (aB, .inl ((D.1 101), 25, .inl fB)), (aS, .inl ((D.1 101), 25, .inl fS)), (aN, .inl ((D.1 101), 25, .inl ((F_X0_move fB fN fM he k x2 x3).2.1))), (aM, .inl ((D.1 101), 25, .inl ((F_X0_move fB fN fM he k x2 x3).2.2)))]) (va_A [(hF, .inr (7, [.ref aB, .ref aS, .ref aN, .ref aM, .int he, .int lu])), (aB, .inl ((D.1 101), 25, .inl fB)), (aS, .inl ((D.1 101), 25, .inl fS)), (aN, .inl ((D.1 101), 25, .inl fN)), (aM, .inl ((D.1 101), 25, .inl fM))] sz)) 0 0 (va_A [(hF, .inr (7, [.ref aB, .ref aS, .ref aN, .ref aM, .int he, .int lu])), (aB, .inl ((D.1 101), 25, .inl fB)), (aS, .inl ((D.1 101), 25, .inl fS)), (aN, .inl ((D.1 101), 25, .inl fN)), (aM, .inl ((D.1 101), 25, .inl fM))] sz) := by
  subst hx1
  refine Met.ofW (cc := cX0_move) (maxL := 4) (ret := none) (by decide) rfl ?_
  intro p e s m args below meth c s₁ B hml hv
  obtain ⟨rfl, hsz, hP, hK, hD0, hN, hZ⟩ := hv
  have hx := B.exec
  have hb := B.bytes
  have hr := B.returns
  have hts : ∀ wd ∈ lwAll, wd.before ([.ref hF, .int (nI k), .int x2, .int x3] : List Value).toArray s = true := fun wd h => atoms_spec (ws := (Cond.code yX0_move cX0_move 4 none :: lwAll)) B.pre wd (List.mem_cons_of_mem _ h)
  have hown : s.vm.findClass RX0 = some m.cls := findClass_of_methodNamed B.named
  have hlocks := B.notSynchronized
  subst hsz
  have hD := hD0.self (sz := s.heap.size)
  have hl := lv_entry ([.ref hF, .int (nI k), .int x2, .int x3]) (n := 4) (Nat.le_of_ble_eq_true rfl)
  rw [lg_entry_eq]
  generalize (lg_sl ([.ref hF, .int (nI k), .int x2, .int x3]) ++ List.replicate (4 - (lg_sl ([.ref hF, .int (nI k), .int x2, .int x3])).length) Slot.unset).toArray = ls at hl ⊢
  have hl : lv_has ls 4 [(0, .ref hF), (1, .int (nI k)), (2, .int x2), (3, .int x3)] := hl
  have hS : va_S (va_A [(hF, .inr (7, [.ref aB, .ref aS, .ref aN, .ref aM, .int he, .int lu])), (aB, .inl ((D.1 101), 25, .inl fB)), (aS, .inl ((D.1 101), 25, .inl fS)), (aN, .inl ((D.1 101), 25, .inl fN)), (aM, .inl ((D.1 101), 25, .inl fM))] s.heap.size) s.heap s.heap [] := va_S.rf
  generalize hQe : MQ below (va_Qv (fun (_ : Unit) => True) (fun (_ : Unit) t => va_P D vwCl [(hF, .inr (7, [.ref aB, .ref aS, .ref aN, .ref aM, .int ((F_X0_move fB fN fM he k x2 x3).1), .int lu])), (aB, .inl ((D.1 101), 25, .inl fB)), (aS, .inl ((D.1 101), 25, .inl fS)), (aN, .inl ((D.1 101), 25, .inl ((F_X0_move fB fN fM he k x2 x3).2.1))), (aM, .inl ((D.1 101), 25, .inl ((F_X0_move fB fN fM he k x2 x3).2.2)))] t.heap ∧ va_D (va_A [(hF, .inr (7, [.ref aB, .ref aS, .ref aN, .ref aM, .int he, .int lu])), (aB, .inl ((D.1 101), 25, .inl fB)), (aS, .inl ((D.1 101), 25, .inl fS)), (aN, .inl ((D.1 101), 25, .inl fN)), (aM, .inl ((D.1 101), 25, .inl fM))] s.heap.size) [(hF, .inr (7, [.ref aB, .ref aS, .ref aN, .ref aM, .int ((F_X0_move fB fN fM he k x2 x3).1), .int lu])), (aB, .inl ((D.1 101), 25, .inl fB)), (aS, .inl ((D.1 101), 25, .inl fS)), (aN, .inl ((D.1 101), 25, .inl ((F_X0_move fB fN fM he k x2 x3).2.1))), (aM, .inl ((D.1 101), 25, .inl ((F_X0_move fB fN fM he k x2 x3).2.2)))]) (va_A [(hF, .inr (7, [.ref aB, .ref aS, .ref aN, .ref aM, .int he, .int lu])), (aB, .inl ((D.1 101), 25, .inl fB)), (aS, .inl ((D.1 101), 25, .inl fS)), (aN, .inl ((D.1 101), 25, .inl fN)), (aM, .inl ((D.1 101), 25, .inl fM))] s.heap.size)) ([.ref hF, .int (nI k), .int x2, .int x3] : List Value).toArray s 0 0 (va_A [(hF, .inr (7, [.ref aB, .ref aS, .ref aN, .ref aM, .int he, .int lu])), (aB, .inl ((D.1 101), 25, .inl fB)), (aS, .inl ((D.1 101), 25, .inl fS)), (aN, .inl ((D.1 101), 25, .inl fN)), (aM, .inl ((D.1 101), 25, .inl fM))] s.heap.size) = Q
  have hP : va_P D vwCl [(hF, .inr (7, [.ref aB, .ref aS, .ref aN, .ref aM, .int he, .int lu])), (aB, .inl ((D.1 101), 25, .inl fB)), (aS, .inl ((D.1 101), 25, .inl fS)), (aN, .inl ((D.1 101), 25, .inl fN)), (aM, .inl ((D.1 101), 25, .inl fM))] s.heap := hP
  obtain ⟨A, hAe⟩ : ∃ A, A = va_A [(hF, .inr (7, [.ref aB, .ref aS, .ref aN, .ref aM, .int he, .int lu])), (aB, .inl ((D.1 101), 25, .inl fB)), (aS, .inl ((D.1 101), 25, .inl fS)), (aN, .inl ((D.1 101), 25, .inl fN)), (aM, .inl ((D.1 101), 25, .inl fM))] s.heap.size := ⟨_, rfl⟩
  rw [← hAe] at hD hZ hS
  have hA : ∀ q : Nat, s.heap.size ≤ q → A q := fun q h => by rw [hAe]; exact Or.inr h
  obtain ⟨H, hHe⟩ : ∃ H, H = s.heap := ⟨_, rfl⟩
  obtain ⟨locs, hLe⟩ : ∃ L : List Loc, L = [] := ⟨_, rfl⟩
  have hP : va_P D vwCl [(hF, .inr (7, [.ref aB, .ref aS, .ref aN, .ref aM, .int he, .int lu])), (aB, .inl ((D.1 101), 25, .inl fB)), (aS, .inl ((D.1 101), 25, .inl fS)), (aN, .inl ((D.1 101), 25, .inl fN)), (aM, .inl ((D.1 101), 25, .inl fM))] H := by rw [hHe]; exact hP
  have hS : va_S A s.heap H locs := by rw [hHe, hLe]; exact hS
  have hgoal : W p l e ({ frames := 1, cells := 0, slots := 0, locals := 21 } : Room) s m ([.ref hF, .int (nI k), .int x2, .int x3] : List Value).toArray below meth c H locs 0 0 Q (F0 m 0 ls []) := by
    clear hHe hLe
    refine lv_aload_n hx hb dX0_move_0 rfl (lv_at hl 0 rfl) ?_
    refine va_get (D := D) (ci := 7) (v := .int he) (C := RX0) (T := TX0) (N := 6) hx hb hts in_X0 hown hK hP 0 rfl rfl 4 (by decide) (hts _ q_170) (fun _ h9 => h9) rfl dX0_move_1 ?_
    refine lv_iload_n hx hb dX0_move_4 rfl (lv_at hl 1 rfl) ?_
    have hPc := hP.sub (ws' := []) [] rfl
    have hDc := hD.sub (ws' := []) [] (by decide) rfl
    have hFc := va_free (wc := []) hD hS hA [] rfl
    refine va_calli (va_runSN (As := [.int he, .int (nI k)]) (rest := []) ⟨hx, hb, hml, hown, hts⟩ (c_X4_holds l D he (nI k) H.size ) ⟨va_cnB 2 hts (gi_sub q_713) rfl rfl rfl (hN.1 _ n_904) (hts _ q_80) (by decide +kernel) ⟨Nat.le_of_ble_eq_true rfl, Nat.le_of_ble_eq_true rfl⟩, (hts _ q_712), trivial⟩ ⟨cPre_blind, cPre_mk hPc hK hDc hN (lwZ_for hZ hS hFc)⟩ rfl rfl hl.1 rfl (lv_room (Nat.le_of_ble_eq_true rfl)) dX0_move_5 ⟨(Nat.le_of_ble_eq_true rfl), (Nat.le_of_ble_eq_true rfl)⟩) hS (fun q h1 h2 => absurd h2 (Nat.not_le.mpr h1)) (fun q h => hA q (Nat.le_trans hS.1 h)) (fun r_5 u t H1 locs ht hvm hw hBk hz1 hk1 hS => ?_)
    have hP := va_P_ro hP hk1
    obtain ⟨hw, z_1⟩ := hw
    rw [hw] at z_1
    subst hw
    clear hBk hvm ht u hz1 hk1
    clear hPc hDc hFc; clear t
    generalize H1 = H at hP hS ⊢
    refine lv_iload_n hx hb dX0_move_8 rfl (lv_at hl 2 rfl) ?_
    refine lv_icmp_ne (tgt := 13) hx hb dX0_move_9 (by decide) (fun c_2 => ?_) (fun c_2 => ?_)
    · refine lv_aload_n hx hb dX0_move_13 rfl (lv_at hl 0 rfl) ?_
      refine lv_dup hx hb dX0_move_14 rfl ?_
      refine va_get (D := D) (ci := 7) (v := .int he) (C := RX0) (T := TX0) (N := 6) hx hb hts in_X0 hown hK hP 0 rfl rfl 4 (by decide) (hts _ q_170) (fun _ h9 => h9) rfl dX0_move_15 ?_
      refine lv_iconst (v := 1) hx hb dX0_move_18 (by decide) ?_
      refine lv_iload_n hx hb dX0_move_19 rfl (lv_at hl 1 rfl) ?_
      refine lv_ishl hx hb dX0_move_20 ?_
      refine lv_ixor hx hb dX0_move_21 ?_
      refine va_put (D := D) (ci := 7) (v := .int (he ^^^ ((1 : Int32) <<< ((nI k) &&& 31)))) (ty := .int) (C := RX0) (T := TX0) (N := 6) hx hb hts in_X0 tyX0 tyX0_ok nmX0 hown hK hP hD hS 0 rfl rfl 4 (by decide) (hts _ q_170) (fun _ h9 => h9) rfl (by decide +kernel) rfl rfl (Nat.le_of_ble_eq_true rfl) dX0_move_22 (fun H locs hP hD hS => ?_)
      have hP : va_P D vwCl [(hF, .inr (7, [.ref aB, .ref aS, .ref aN, .ref aM, .int (he ^^^ ((1 : Int32) <<< ((nI k) &&& 31))), .int lu])), (aB, .inl ((D.1 101), 25, .inl fB)), (aS, .inl ((D.1 101), 25, .inl fS)), (aN, .inl ((D.1 101), 25, .inl fN)), (aM, .inl ((D.1 101), 25, .inl fM))] H := hP
      have hD : va_D A [(hF, .inr (7, [.ref aB, .ref aS, .ref aN, .ref aM, .int (he ^^^ ((1 : Int32) <<< ((nI k) &&& 31))), .int lu])), (aB, .inl ((D.1 101), 25, .inl fB)), (aS, .inl ((D.1 101), 25, .inl fS)), (aN, .inl ((D.1 101), 25, .inl fN)), (aM, .inl ((D.1 101), 25, .inl fM))] := hD
      refine lv_aload_n hx hb dX0_move_25 rfl (lv_at hl 0 rfl) ?_
      refine va_get (D := D) (ci := 7) (v := .ref aN) (C := RX0) (T := TX0) (N := 6) hx hb hts in_X0 hown hK hP 0 rfl rfl 2 (by decide) (hts _ q_166) (fun _ h9 => h9) rfl dX0_move_26 ?_
      refine lv_iload_n hx hb dX0_move_29 rfl (lv_at hl 1 rfl) ?_
      refine lv_aload_n hx hb dX0_move_30 rfl (lv_at hl 0 rfl) ?_
      refine va_get (D := D) (ci := 7) (v := .ref aB) (C := RX0) (T := TX0) (N := 6) hx hb hts in_X0 hown hK hP 0 rfl rfl 0 (by decide) (hts _ q_162) (fun _ h9 => h9) rfl dX0_move_31 ?_
      refine lv_iload_n hx hb dX0_move_34 rfl (lv_at hl 1 rfl) ?_
      refine va_iald hx hb hK hP 1 1 rfl rfl (vp_in_nI (by omega) (by omega)) dX0_move_35 ?_
      rw [nI_clamp (by omega)]
      refine va_iast hx hb hK hP hD hS 3 1 rfl rfl (vp_in_nI (by omega) (by omega)) dX0_move_36 (fun H locs hP hD hS => ?_)
      rw [nI_clamp (by omega)] at hP hD
      have hP : va_P D vwCl [(hF, .inr (7, [.ref aB, .ref aS, .ref aN, .ref aM, .int (he ^^^ ((1 : Int32) <<< ((nI k) &&& 31))), .int lu])), (aB, .inl ((D.1 101), 25, .inl fB)), (aS, .inl ((D.1 101), 25, .inl fS)), (aN, .inl ((D.1 101), 25, .inl (upd fN k (fB k)))), (aM, .inl ((D.1 101), 25, .inl fM))] H := hP
      have hD : va_D A [(hF, .inr (7, [.ref aB, .ref aS, .ref aN, .ref aM, .int (he ^^^ ((1 : Int32) <<< ((nI k) &&& 31))), .int lu])), (aB, .inl ((D.1 101), 25, .inl fB)), (aS, .inl ((D.1 101), 25, .inl fS)), (aN, .inl ((D.1 101), 25, .inl (upd fN k (fB k)))), (aM, .inl ((D.1 101), 25, .inl fM))] := hD
      refine lv_aload_n hx hb dX0_move_37 rfl (lv_at hl 0 rfl) ?_
      refine va_get (D := D) (ci := 7) (v := .ref aM) (C := RX0) (T := TX0) (N := 6) hx hb hts in_X0 hown hK hP 0 rfl rfl 3 (by decide) (hts _ q_168) (fun _ h9 => h9) rfl dX0_move_38 ?_
      refine lv_iload_n hx hb dX0_move_41 rfl (lv_at hl 1 rfl) ?_
      refine lv_iload_n hx hb dX0_move_42 rfl (lv_at hl 3 rfl) ?_
      refine va_iast hx hb hK hP hD hS 4 1 rfl rfl (vp_in_nI (by omega) (by omega)) dX0_move_43 (fun H locs hP hD hS => ?_)
      rw [nI_clamp (by omega)] at hP hD
      have hP : va_P D vwCl [(hF, .inr (7, [.ref aB, .ref aS, .ref aN, .ref aM, .int (he ^^^ ((1 : Int32) <<< ((nI k) &&& 31))), .int lu])), (aB, .inl ((D.1 101), 25, .inl fB)), (aS, .inl ((D.1 101), 25, .inl fS)), (aN, .inl ((D.1 101), 25, .inl (upd fN k (fB k)))), (aM, .inl ((D.1 101), 25, .inl (upd fM k x3)))] H := hP
      have hD : va_D A [(hF, .inr (7, [.ref aB, .ref aS, .ref aN, .ref aM, .int (he ^^^ ((1 : Int32) <<< ((nI k) &&& 31))), .int lu])), (aB, .inl ((D.1 101), 25, .inl fB)), (aS, .inl ((D.1 101), 25, .inl fS)), (aN, .inl ((D.1 101), 25, .inl (upd fN k (fB k)))), (aM, .inl ((D.1 101), 25, .inl (upd fM k x3)))] := hD
      subst hQe
      subst hAe
      have hE : (F_X0_move fB fN fM he k x2 x3) = (he ^^^ ((1 : Int32) <<< ((nI k) &&& 31)), upd fN k (fB k), upd fM k x3) := (by unfold F_X0_move; rw [if_neg c_2])
      have hP9 := hP.sub (ws' := [(hF, .inr (7, [.ref aB, .ref aS, .ref aN, .ref aM, .int (he ^^^ ((1 : Int32) <<< ((nI k) &&& 31))), .int lu])), (aB, .inl ((D.1 101), 25, .inl fB)), (aS, .inl ((D.1 101), 25, .inl fS)), (aN, .inl ((D.1 101), 25, .inl (upd fN k (fB k)))), (aM, .inl ((D.1 101), 25, .inl (upd fM k x3)))]) [0, 1, 2, 3, 4] rfl
      have hD9 := hD.sub (ws' := [(hF, .inr (7, [.ref aB, .ref aS, .ref aN, .ref aM, .int (he ^^^ ((1 : Int32) <<< ((nI k) &&& 31))), .int lu])), (aB, .inl ((D.1 101), 25, .inl fB)), (aS, .inl ((D.1 101), 25, .inl fS)), (aN, .inl ((D.1 101), 25, .inl (upd fN k (fB k)))), (aM, .inl ((D.1 101), 25, .inl (upd fM k x3)))]) [0, 1, 2, 3, 4] (by decide) rfl
      exact W.vret hx hb hr (fun t ht hW => ⟨⟨(), rfl, trivial, (by (try rw [hE]); rw [ht]; exact hP9), (by (try rw [hE]); exact hD9)⟩, hS.F ht⟩) hS.2.2 dX0_move_44
    · subst hQe
      subst hAe
      have hE : (F_X0_move fB fN fM he k x2 x3) = (he, fN, fM) := (by unfold F_X0_move; rw [if_pos c_2])
      have hP9 := hP.sub (ws' := [(hF, .inr (7, [.ref aB, .ref aS, .ref aN, .ref aM, .int he, .int lu])), (aB, .inl ((D.1 101), 25, .inl fB)), (aS, .inl ((D.1 101), 25, .inl fS)), (aN, .inl ((D.1 101), 25, .inl fN)), (aM, .inl ((D.1 101), 25, .inl fM))]) [0, 1, 2, 3, 4] rfl
      have hD9 := hD.sub (ws' := [(hF, .inr (7, [.ref aB, .ref aS, .ref aN, .ref aM, .int he, .int lu])), (aB, .inl ((D.1 101), 25, .inl fB)), (aS, .inl ((D.1 101), 25, .inl fS)), (aN, .inl ((D.1 101), 25, .inl fN)), (aM, .inl ((D.1 101), 25, .inl fM))]) [0, 1, 2, 3, 4] (by decide) rfl
      exact W.vret hx hb hr (fun t ht hW => ⟨⟨(), rfl, trivial, (by (try rw [hE]); rw [ht]; exact hP9), (by (try rw [hE]); exact hD9)⟩, hS.F ht⟩) hS.2.2 dX0_move_12
  rw [hHe, hLe] at hgoal
  exact hgoal

def F_X0_isClosedNow (fS : Nat → Int32) (fN : Nat → Int32) (he : Int32) (lu : Int32) (k : Nat) : Int32 × (Nat → Int32) × Int32 := (if (fS k) = 0 then (if (fN k) ≤ 0 then (F_X4_holds he (nI k), fN, lu) else (if ((((61 * lu) + 35) - ((61 * lu) + 35) / 128 * 128) - (((61 * lu) + 35) - ((61 * lu) + 35) / 128 * 128) / 2 * 2) = 1 then (1, upd fN k ((fN k) - 1), ((61 * lu) + 35) - ((61 * lu) + 35) / 128 * 128) else (0, upd fN k ((fN k) - 1), ((61 * lu) + 35) - ((61 * lu) + 35) / 128 * 128))) else (if (fS k) = 1 then (0, fN, lu) else (1, fN, lu)))
set_option maxHeartbeats 4000000 in
set_option maxRecDepth 100000 in
theorem c_X0_isClosedNow (l : Launch) (D : va_G) (hF : Nat) (aB : Nat) (aS : Nat) (aN : Nat) (aM : Nat) (fB : Nat → Int32) (fS : Nat → Int32) (fN : Nat → Int32) (fM : Nat → Int32) (he : Int32) (lu : Int32) (k : Nat) (x1 : Int32) (sz : Nat) (hk : k < 25) (hx1 : x1 = nI k) : Met l yX0_isClosedNow (Cond.code yX0_isClosedNow cX0_isClosedNow 2 (some .boolean) :: lwAll) ({ frames := 1, cells := 0, slots := 0, locals := 21 } : Room) (va_Pc [.ref hF, .int x1] (cPre D (lwTY D) [(hF, .inr (7, [.ref aB, .ref aS, .ref aN, .ref aM, .int he, .int lu])), (aB, .inl ((D.1 101), 25, .inl fB)), (aS, .inl ((D.1 101), 25, .inl fS)), (aN, .inl ((D.1 101), 25, .inl fN)), (aM, .inl ((D.1 101), 25, .inl fM))] sz)) (va_Qi (fun (r : Int32) (_ : Unit) => r = (F_X0_isClosedNow fS fN he lu k).1 ∧ (r = 0 ∨ r = 1)) (fun (_ : Unit) t => va_P D vwCl [(hF, .inr (7, [.ref aB, .ref aS, .ref aN, .ref aM, .int he, .int ((F_X0_isClosedNow fS fN he lu k).2.2)])), (aB, .inl ((D.1 101), 25, .inl fB)), (aS, .inl ((D.1 101), 25, .inl fS)), (aN, .inl ((D.1 101), 25, .inl ((F_X0_isClosedNow fS fN he lu k).2.1))), (aM, .inl ((D.1 101), 25, .inl fM))] t.heap ∧ va_D (va_A [(hF, .inr (7, [.ref aB, .ref aS, .ref aN, .ref aM, .int he, .int lu])), (aB, .inl ((D.1 101), 25, .inl fB)), (aS, .inl ((D.1 101), 25, .inl fS)), (aN, .inl ((D.1 101), 25, .inl fN)), (aM, .inl ((D.1 101), 25, .inl fM))] sz) [(hF, .inr (7, [.ref aB, .ref aS, .ref aN, .ref aM, .int he, .int ((F_X0_isClosedNow fS fN he lu k).2.2)])), (aB, .inl ((D.1 101), 25, .inl fB)), (aS, .inl ((D.1 101), 25, .inl fS)), (aN, .inl ((D.1 101), 25, .inl ((F_X0_isClosedNow fS fN he lu k).2.1))), (aM, .inl ((D.1 101), 25, .inl fM))]) (va_A [(hF, .inr (7, [.ref aB, .ref aS, .ref aN, .ref aM, .int he, .int lu])), (aB, .inl ((D.1 101), 25, .inl fB)), (aS, .inl ((D.1 101), 25, .inl fS)), (aN, .inl ((D.1 101), 25, .inl fN)), (aM, .inl ((D.1 101), 25, .inl fM))] sz)) 0 0 (va_A [(hF, .inr (7, [.ref aB, .ref aS, .ref aN, .ref aM, .int he, .int lu])), (aB, .inl ((D.1 101), 25, .inl fB)), (aS, .inl ((D.1 101), 25, .inl fS)), (aN, .inl ((D.1 101), 25, .inl fN)), (aM, .inl ((D.1 101), 25, .inl fM))] sz) := by
  subst hx1
  refine Met.ofW (cc := cX0_isClosedNow) (maxL := 2) (ret := (some .boolean)) (by decide) rfl ?_
  intro p e s m args below meth c s₁ B hml hv
  obtain ⟨rfl, hsz, hP, hK, hD0, hN, hZ⟩ := hv
  have hx := B.exec
  have hb := B.bytes
  have hr := B.returns
  have hts : ∀ wd ∈ lwAll, wd.before ([.ref hF, .int (nI k)] : List Value).toArray s = true := fun wd h => atoms_spec (ws := (Cond.code yX0_isClosedNow cX0_isClosedNow 2 (some .boolean) :: lwAll)) B.pre wd (List.mem_cons_of_mem _ h)
  have hown : s.vm.findClass RX0 = some m.cls := findClass_of_methodNamed B.named
  have hlocks := B.notSynchronized
  subst hsz
  have hD := hD0.self (sz := s.heap.size)
  have hl := lv_entry ([.ref hF, .int (nI k)]) (n := 2) (Nat.le_of_ble_eq_true rfl)
  rw [lg_entry_eq]
  generalize (lg_sl ([.ref hF, .int (nI k)]) ++ List.replicate (2 - (lg_sl ([.ref hF, .int (nI k)])).length) Slot.unset).toArray = ls at hl ⊢
  have hl : lv_has ls 2 [(0, .ref hF), (1, .int (nI k))] := hl
  have hS : va_S (va_A [(hF, .inr (7, [.ref aB, .ref aS, .ref aN, .ref aM, .int he, .int lu])), (aB, .inl ((D.1 101), 25, .inl fB)), (aS, .inl ((D.1 101), 25, .inl fS)), (aN, .inl ((D.1 101), 25, .inl fN)), (aM, .inl ((D.1 101), 25, .inl fM))] s.heap.size) s.heap s.heap [] := va_S.rf
  generalize hQe : MQ below (va_Qi (fun (r : Int32) (_ : Unit) => r = (F_X0_isClosedNow fS fN he lu k).1 ∧ (r = 0 ∨ r = 1)) (fun (_ : Unit) t => va_P D vwCl [(hF, .inr (7, [.ref aB, .ref aS, .ref aN, .ref aM, .int he, .int ((F_X0_isClosedNow fS fN he lu k).2.2)])), (aB, .inl ((D.1 101), 25, .inl fB)), (aS, .inl ((D.1 101), 25, .inl fS)), (aN, .inl ((D.1 101), 25, .inl ((F_X0_isClosedNow fS fN he lu k).2.1))), (aM, .inl ((D.1 101), 25, .inl fM))] t.heap ∧ va_D (va_A [(hF, .inr (7, [.ref aB, .ref aS, .ref aN, .ref aM, .int he, .int lu])), (aB, .inl ((D.1 101), 25, .inl fB)), (aS, .inl ((D.1 101), 25, .inl fS)), (aN, .inl ((D.1 101), 25, .inl fN)), (aM, .inl ((D.1 101), 25, .inl fM))] s.heap.size) [(hF, .inr (7, [.ref aB, .ref aS, .ref aN, .ref aM, .int he, .int ((F_X0_isClosedNow fS fN he lu k).2.2)])), (aB, .inl ((D.1 101), 25, .inl fB)), (aS, .inl ((D.1 101), 25, .inl fS)), (aN, .inl ((D.1 101), 25, .inl ((F_X0_isClosedNow fS fN he lu k).2.1))), (aM, .inl ((D.1 101), 25, .inl fM))]) (va_A [(hF, .inr (7, [.ref aB, .ref aS, .ref aN, .ref aM, .int he, .int lu])), (aB, .inl ((D.1 101), 25, .inl fB)), (aS, .inl ((D.1 101), 25, .inl fS)), (aN, .inl ((D.1 101), 25, .inl fN)), (aM, .inl ((D.1 101), 25, .inl fM))] s.heap.size)) ([.ref hF, .int (nI k)] : List Value).toArray s 0 0 (va_A [(hF, .inr (7, [.ref aB, .ref aS, .ref aN, .ref aM, .int he, .int lu])), (aB, .inl ((D.1 101), 25, .inl fB)), (aS, .inl ((D.1 101), 25, .inl fS)), (aN, .inl ((D.1 101), 25, .inl fN)), (aM, .inl ((D.1 101), 25, .inl fM))] s.heap.size) = Q
  have hP : va_P D vwCl [(hF, .inr (7, [.ref aB, .ref aS, .ref aN, .ref aM, .int he, .int lu])), (aB, .inl ((D.1 101), 25, .inl fB)), (aS, .inl ((D.1 101), 25, .inl fS)), (aN, .inl ((D.1 101), 25, .inl fN)), (aM, .inl ((D.1 101), 25, .inl fM))] s.heap := hP
  obtain ⟨A, hAe⟩ : ∃ A, A = va_A [(hF, .inr (7, [.ref aB, .ref aS, .ref aN, .ref aM, .int he, .int lu])), (aB, .inl ((D.1 101), 25, .inl fB)), (aS, .inl ((D.1 101), 25, .inl fS)), (aN, .inl ((D.1 101), 25, .inl fN)), (aM, .inl ((D.1 101), 25, .inl fM))] s.heap.size := ⟨_, rfl⟩
  rw [← hAe] at hD hZ hS
  have hA : ∀ q : Nat, s.heap.size ≤ q → A q := fun q h => by rw [hAe]; exact Or.inr h
  obtain ⟨H, hHe⟩ : ∃ H, H = s.heap := ⟨_, rfl⟩
  obtain ⟨locs, hLe⟩ : ∃ L : List Loc, L = [] := ⟨_, rfl⟩
  have hP : va_P D vwCl [(hF, .inr (7, [.ref aB, .ref aS, .ref aN, .ref aM, .int he, .int lu])), (aB, .inl ((D.1 101), 25, .inl fB)), (aS, .inl ((D.1 101), 25, .inl fS)), (aN, .inl ((D.1 101), 25, .inl fN)), (aM, .inl ((D.1 101), 25, .inl fM))] H := by rw [hHe]; exact hP
  have hS : va_S A s.heap H locs := by rw [hHe, hLe]; exact hS
  have hgoal : W p l e ({ frames := 1, cells := 0, slots := 0, locals := 21 } : Room) s m ([.ref hF, .int (nI k)] : List Value).toArray below meth c H locs 0 0 Q (F0 m 0 ls []) := by
    clear hHe hLe
    refine lv_aload_n hx hb dX0_isClosedNow_0 rfl (lv_at hl 0 rfl) ?_
    refine va_get (D := D) (ci := 7) (v := .ref aS) (C := RX0) (T := TX0) (N := 6) hx hb hts in_X0 hown hK hP 0 rfl rfl 1 (by decide) (hts _ q_164) (fun _ h9 => h9) rfl dX0_isClosedNow_1 ?_
    refine lv_iload_n hx hb dX0_isClosedNow_4 rfl (lv_at hl 1 rfl) ?_
    refine va_iald hx hb hK hP 2 1 rfl rfl (vp_in_nI (by omega) (by omega)) dX0_isClosedNow_5 ?_
    rw [nI_clamp (by omega)]
    refine lv_if_eq (tgt := 25) hx hb dX0_isClosedNow_6 (by decide) (fun c_1 => ?_) (fun c_1 => ?_)
    · refine lv_aload_n hx hb dX0_isClosedNow_25 rfl (lv_at hl 0 rfl) ?_
      refine va_get (D := D) (ci := 7) (v := .ref aN) (C := RX0) (T := TX0) (N := 6) hx hb hts in_X0 hown hK hP 0 rfl rfl 2 (by decide) (hts _ q_166) (fun _ h9 => h9) rfl dX0_isClosedNow_26 ?_
      refine lv_iload_n hx hb dX0_isClosedNow_29 rfl (lv_at hl 1 rfl) ?_
      refine va_iald hx hb hK hP 3 1 rfl rfl (vp_in_nI (by omega) (by omega)) dX0_isClosedNow_30 ?_
      rw [nI_clamp (by omega)]
      refine lv_if_le (tgt := 78) hx hb dX0_isClosedNow_31 (by decide) (fun c_2 => ?_) (fun c_2 => ?_)
      · refine lv_aload_n hx hb dX0_isClosedNow_78 rfl (lv_at hl 0 rfl) ?_
        refine va_get (D := D) (ci := 7) (v := .int he) (C := RX0) (T := TX0) (N := 6) hx hb hts in_X0 hown hK hP 0 rfl rfl 4 (by decide) (hts _ q_170) (fun _ h9 => h9) rfl dX0_isClosedNow_79 ?_
        refine lv_iload_n hx hb dX0_isClosedNow_82 rfl (lv_at hl 1 rfl) ?_
        have hPc := hP.sub (ws' := []) [] rfl
        have hDc := hD.sub (ws' := []) [] (by decide) rfl
        have hFc := va_free (wc := []) hD hS hA [] rfl
        refine va_calli (va_runSN (As := [.int he, .int (nI k)]) (rest := []) ⟨hx, hb, hml, hown, hts⟩ (c_X4_holds l D he (nI k) H.size ) ⟨va_cnB 2 hts (gi_sub q_713) rfl rfl rfl (hN.1 _ n_904) (hts _ q_80) (by decide +kernel) ⟨Nat.le_of_ble_eq_true rfl, Nat.le_of_ble_eq_true rfl⟩, (hts _ q_712), trivial⟩ ⟨cPre_blind, cPre_mk hPc hK hDc hN (lwZ_for hZ hS hFc)⟩ rfl rfl hl.1 rfl (lv_room (Nat.le_of_ble_eq_true rfl)) dX0_isClosedNow_83 ⟨(Nat.le_of_ble_eq_true rfl), (Nat.le_of_ble_eq_true rfl)⟩) hS (fun q h1 h2 => absurd h2 (Nat.not_le.mpr h1)) (fun q h => hA q (Nat.le_trans hS.1 h)) (fun r_83 u t H1 locs ht hvm hw hBk hz1 hk1 hS => ?_)
        have hP := va_P_ro hP hk1
        obtain ⟨hw, z_3⟩ := hw
        rw [hw] at z_3
        subst hw
        clear hBk hvm ht u hz1 hk1
        clear hPc hDc hFc; clear t
        generalize H1 = H at hP hS ⊢
        subst hQe
        subst hAe
        have hE : (F_X0_isClosedNow fS fN he lu k) = (F_X4_holds he (nI k), fN, lu) := (by unfold F_X0_isClosedNow; rw [if_pos c_1, if_pos c_2])
        have hP9 := hP.sub (ws' := [(hF, .inr (7, [.ref aB, .ref aS, .ref aN, .ref aM, .int he, .int lu])), (aB, .inl ((D.1 101), 25, .inl fB)), (aS, .inl ((D.1 101), 25, .inl fS)), (aN, .inl ((D.1 101), 25, .inl fN)), (aM, .inl ((D.1 101), 25, .inl fM))]) [0, 1, 2, 3, 4] rfl
        have hD9 := hD.sub (ws' := [(hF, .inr (7, [.ref aB, .ref aS, .ref aN, .ref aM, .int he, .int lu])), (aB, .inl ((D.1 101), 25, .inl fB)), (aS, .inl ((D.1 101), 25, .inl fS)), (aN, .inl ((D.1 101), 25, .inl fN)), (aM, .inl ((D.1 101), 25, .inl fM))]) [0, 1, 2, 3, 4] (by decide) rfl
        exact W.zret (ty := .boolean) (v := F_X4_holds he (nI k)) hx hb hr (zb_narrow (by assumption)) (fun t ht hW => ⟨⟨F_X4_holds he (nI k), (), rfl, ⟨(by rw [hE]), (by assumption)⟩, (by (try rw [hE]); rw [ht]; exact hP9), (by (try rw [hE]); exact hD9)⟩, hS.F ht⟩) hS.2.2 dX0_isClosedNow_86
      · refine lv_aload_n hx hb dX0_isClosedNow_34 rfl (lv_at hl 0 rfl) ?_
        refine va_get (D := D) (ci := 7) (v := .ref aN) (C := RX0) (T := TX0) (N := 6) hx hb hts in_X0 hown hK hP 0 rfl rfl 2 (by decide) (hts _ q_166) (fun _ h9 => h9) rfl dX0_isClosedNow_35 ?_
        refine lv_iload_n hx hb dX0_isClosedNow_38 rfl (lv_at hl 1 rfl) ?_
        refine lv_dup2_11 hx hb dX0_isClosedNow_39 rfl rfl ?_
        refine va_iald hx hb hK hP 3 1 rfl rfl (vp_in_nI (by omega) (by omega)) dX0_isClosedNow_40 ?_
        rw [nI_clamp (by omega)]
        refine lv_iconst (v := 1) hx hb dX0_isClosedNow_41 (by decide) ?_
        refine lv_isub hx hb dX0_isClosedNow_42 ?_
        refine va_iast hx hb hK hP hD hS 3 1 rfl rfl (vp_in_nI (by omega) (by omega)) dX0_isClosedNow_43 (fun H locs hP hD hS => ?_)
        rw [nI_clamp (by omega)] at hP hD
        have hP : va_P D vwCl [(hF, .inr (7, [.ref aB, .ref aS, .ref aN, .ref aM, .int he, .int lu])), (aB, .inl ((D.1 101), 25, .inl fB)), (aS, .inl ((D.1 101), 25, .inl fS)), (aN, .inl ((D.1 101), 25, .inl (upd fN k ((fN k) - 1)))), (aM, .inl ((D.1 101), 25, .inl fM))] H := hP
        have hD : va_D A [(hF, .inr (7, [.ref aB, .ref aS, .ref aN, .ref aM, .int he, .int lu])), (aB, .inl ((D.1 101), 25, .inl fB)), (aS, .inl ((D.1 101), 25, .inl fS)), (aN, .inl ((D.1 101), 25, .inl (upd fN k ((fN k) - 1)))), (aM, .inl ((D.1 101), 25, .inl fM))] := hD
        refine lv_aload_n hx hb dX0_isClosedNow_44 rfl (lv_at hl 0 rfl) ?_
        refine lv_bipush (v := 61) hx hb dX0_isClosedNow_45 (by decide) ?_
        refine lv_aload_n hx hb dX0_isClosedNow_47 rfl (lv_at hl 0 rfl) ?_
        refine va_get (D := D) (ci := 7) (v := .int lu) (C := RX0) (T := TX0) (N := 6) hx hb hts in_X0 hown hK hP 0 rfl rfl 5 (by decide) (hts _ q_172) (fun _ h9 => h9) rfl dX0_isClosedNow_48 ?_
        refine lv_imul hx hb dX0_isClosedNow_51 ?_
        refine lv_bipush (v := 35) hx hb dX0_isClosedNow_52 (by decide) ?_
        refine lv_iadd hx hb dX0_isClosedNow_54 ?_
        refine lv_sipush (v := 128) hx hb dX0_isClosedNow_55 (by decide) ?_
        refine lv_irem hx hb dX0_isClosedNow_58 (by decide) ?_
        refine va_put (D := D) (ci := 7) (v := .int (((61 * lu) + 35) - ((61 * lu) + 35) / 128 * 128)) (ty := .int) (C := RX0) (T := TX0) (N := 6) hx hb hts in_X0 tyX0 tyX0_ok nmX0 hown hK hP hD hS 0 rfl rfl 5 (by decide) (hts _ q_172) (fun _ h9 => h9) rfl (by decide +kernel) rfl rfl (Nat.le_of_ble_eq_true rfl) dX0_isClosedNow_59 (fun H locs hP hD hS => ?_)
        have hP : va_P D vwCl [(hF, .inr (7, [.ref aB, .ref aS, .ref aN, .ref aM, .int he, .int (((61 * lu) + 35) - ((61 * lu) + 35) / 128 * 128)])), (aB, .inl ((D.1 101), 25, .inl fB)), (aS, .inl ((D.1 101), 25, .inl fS)), (aN, .inl ((D.1 101), 25, .inl (upd fN k ((fN k) - 1)))), (aM, .inl ((D.1 101), 25, .inl fM))] H := hP
        have hD : va_D A [(hF, .inr (7, [.ref aB, .ref aS, .ref aN, .ref aM, .int he, .int (((61 * lu) + 35) - ((61 * lu) + 35) / 128 * 128)])), (aB, .inl ((D.1 101), 25, .inl fB)), (aS, .inl ((D.1 101), 25, .inl fS)), (aN, .inl ((D.1 101), 25, .inl (upd fN k ((fN k) - 1)))), (aM, .inl ((D.1 101), 25, .inl fM))] := hD
        refine lv_aload_n hx hb dX0_isClosedNow_62 rfl (lv_at hl 0 rfl) ?_
        refine va_get (D := D) (ci := 7) (v := .int (((61 * lu) + 35) - ((61 * lu) + 35) / 128 * 128)) (C := RX0) (T := TX0) (N := 6) hx hb hts in_X0 hown hK hP 0 rfl rfl 5 (by decide) (hts _ q_172) (fun _ h9 => h9) rfl dX0_isClosedNow_63 ?_
        refine lv_iconst (v := 2) hx hb dX0_isClosedNow_66 (by decide) ?_
        refine lv_irem hx hb dX0_isClosedNow_67 (by decide) ?_
        refine lv_iconst (v := 1) hx hb dX0_isClosedNow_68 (by decide) ?_
        refine lv_icmp_ne (tgt := 76) hx hb dX0_isClosedNow_69 (by decide) (fun c_4 => ?_) (fun c_4 => ?_)
        · refine lv_iconst (v := 0) hx hb dX0_isClosedNow_76 (by decide) ?_
          subst hQe
          subst hAe
          have hE : (F_X0_isClosedNow fS fN he lu k) = (0, upd fN k ((fN k) - 1), ((61 * lu) + 35) - ((61 * lu) + 35) / 128 * 128) := (by unfold F_X0_isClosedNow; rw [if_pos c_1, if_neg c_2, if_neg c_4])
          have hP9 := hP.sub (ws' := [(hF, .inr (7, [.ref aB, .ref aS, .ref aN, .ref aM, .int he, .int (((61 * lu) + 35) - ((61 * lu) + 35) / 128 * 128)])), (aB, .inl ((D.1 101), 25, .inl fB)), (aS, .inl ((D.1 101), 25, .inl fS)), (aN, .inl ((D.1 101), 25, .inl (upd fN k ((fN k) - 1)))), (aM, .inl ((D.1 101), 25, .inl fM))]) [0, 1, 2, 3, 4] rfl
          have hD9 := hD.sub (ws' := [(hF, .inr (7, [.ref aB, .ref aS, .ref aN, .ref aM, .int he, .int (((61 * lu) + 35) - ((61 * lu) + 35) / 128 * 128)])), (aB, .inl ((D.1 101), 25, .inl fB)), (aS, .inl ((D.1 101), 25, .inl fS)), (aN, .inl ((D.1 101), 25, .inl (upd fN k ((fN k) - 1)))), (aM, .inl ((D.1 101), 25, .inl fM))]) [0, 1, 2, 3, 4] (by decide) rfl
          exact W.zret (ty := .boolean) (v := 0) hx hb hr (zb_narrow zb_0) (fun t ht hW => ⟨⟨0, (), rfl, ⟨(by rw [hE]), zb_0⟩, (by (try rw [hE]); rw [ht]; exact hP9), (by (try rw [hE]); exact hD9)⟩, hS.F ht⟩) hS.2.2 dX0_isClosedNow_77
        · refine lv_iconst (v := 1) hx hb dX0_isClosedNow_72 (by decide) ?_
          refine lv_goto (tgt := 77) hx hb dX0_isClosedNow_73 (by decide) ?_
          subst hQe
          subst hAe
          have hE : (F_X0_isClosedNow fS fN he lu k) = (1, upd fN k ((fN k) - 1), ((61 * lu) + 35) - ((61 * lu) + 35) / 128 * 128) := (by unfold F_X0_isClosedNow; rw [if_pos c_1, if_neg c_2, if_pos c_4])
          have hP9 := hP.sub (ws' := [(hF, .inr (7, [.ref aB, .ref aS, .ref aN, .ref aM, .int he, .int (((61 * lu) + 35) - ((61 * lu) + 35) / 128 * 128)])), (aB, .inl ((D.1 101), 25, .inl fB)), (aS, .inl ((D.1 101), 25, .inl fS)), (aN, .inl ((D.1 101), 25, .inl (upd fN k ((fN k) - 1)))), (aM, .inl ((D.1 101), 25, .inl fM))]) [0, 1, 2, 3, 4] rfl
          have hD9 := hD.sub (ws' := [(hF, .inr (7, [.ref aB, .ref aS, .ref aN, .ref aM, .int he, .int (((61 * lu) + 35) - ((61 * lu) + 35) / 128 * 128)])), (aB, .inl ((D.1 101), 25, .inl fB)), (aS, .inl ((D.1 101), 25, .inl fS)), (aN, .inl ((D.1 101), 25, .inl (upd fN k ((fN k) - 1)))), (aM, .inl ((D.1 101), 25, .inl fM))]) [0, 1, 2, 3, 4] (by decide) rfl
          exact W.zret (ty := .boolean) (v := 1) hx hb hr (zb_narrow zb_1) (fun t ht hW => ⟨⟨1, (), rfl, ⟨(by rw [hE]), zb_1⟩, (by (try rw [hE]); rw [ht]; exact hP9), (by (try rw [hE]); exact hD9)⟩, hS.F ht⟩) hS.2.2 dX0_isClosedNow_77
    · refine lv_aload_n hx hb dX0_isClosedNow_9 rfl (lv_at hl 0 rfl) ?_
      refine va_get (D := D) (ci := 7) (v := .ref aS) (C := RX0) (T := TX0) (N := 6) hx hb hts in_X0 hown hK hP 0 rfl rfl 1 (by decide) (hts _ q_164) (fun _ h9 => h9) rfl dX0_isClosedNow_10 ?_
      refine lv_iload_n hx hb dX0_isClosedNow_13 rfl (lv_at hl 1 rfl) ?_
      refine va_iald hx hb hK hP 2 1 rfl rfl (vp_in_nI (by omega) (by omega)) dX0_isClosedNow_14 ?_
      rw [nI_clamp (by omega)]
      refine lv_iconst (v := 1) hx hb dX0_isClosedNow_15 (by decide) ?_
      refine lv_icmp_eq (tgt := 23) hx hb dX0_isClosedNow_16 (by decide) (fun c_5 => ?_) (fun c_5 => ?_)
      · refine lv_iconst (v := 0) hx hb dX0_isClosedNow_23 (by decide) ?_
        subst hQe
        subst hAe
        have hE : (F_X0_isClosedNow fS fN he lu k) = (0, fN, lu) := (by unfold F_X0_isClosedNow; rw [if_neg c_1, if_pos c_5])
        have hP9 := hP.sub (ws' := [(hF, .inr (7, [.ref aB, .ref aS, .ref aN, .ref aM, .int he, .int lu])), (aB, .inl ((D.1 101), 25, .inl fB)), (aS, .inl ((D.1 101), 25, .inl fS)), (aN, .inl ((D.1 101), 25, .inl fN)), (aM, .inl ((D.1 101), 25, .inl fM))]) [0, 1, 2, 3, 4] rfl
        have hD9 := hD.sub (ws' := [(hF, .inr (7, [.ref aB, .ref aS, .ref aN, .ref aM, .int he, .int lu])), (aB, .inl ((D.1 101), 25, .inl fB)), (aS, .inl ((D.1 101), 25, .inl fS)), (aN, .inl ((D.1 101), 25, .inl fN)), (aM, .inl ((D.1 101), 25, .inl fM))]) [0, 1, 2, 3, 4] (by decide) rfl
        exact W.zret (ty := .boolean) (v := 0) hx hb hr (zb_narrow zb_0) (fun t ht hW => ⟨⟨0, (), rfl, ⟨(by rw [hE]), zb_0⟩, (by (try rw [hE]); rw [ht]; exact hP9), (by (try rw [hE]); exact hD9)⟩, hS.F ht⟩) hS.2.2 dX0_isClosedNow_24
      · refine lv_iconst (v := 1) hx hb dX0_isClosedNow_19 (by decide) ?_
        refine lv_goto (tgt := 24) hx hb dX0_isClosedNow_20 (by decide) ?_
        subst hQe
        subst hAe
        have hE : (F_X0_isClosedNow fS fN he lu k) = (1, fN, lu) := (by unfold F_X0_isClosedNow; rw [if_neg c_1, if_neg c_5])
        have hP9 := hP.sub (ws' := [(hF, .inr (7, [.ref aB, .ref aS, .ref aN, .ref aM, .int he, .int lu])), (aB, .inl ((D.1 101), 25, .inl fB)), (aS, .inl ((D.1 101), 25, .inl fS)), (aN, .inl ((D.1 101), 25, .inl fN)), (aM, .inl ((D.1 101), 25, .inl fM))]) [0, 1, 2, 3, 4] rfl
        have hD9 := hD.sub (ws' := [(hF, .inr (7, [.ref aB, .ref aS, .ref aN, .ref aM, .int he, .int lu])), (aB, .inl ((D.1 101), 25, .inl fB)), (aS, .inl ((D.1 101), 25, .inl fS)), (aN, .inl ((D.1 101), 25, .inl fN)), (aM, .inl ((D.1 101), 25, .inl fM))]) [0, 1, 2, 3, 4] (by decide) rfl
        exact W.zret (ty := .boolean) (v := 1) hx hb hr (zb_narrow zb_1) (fun t ht hW => ⟨⟨1, (), rfl, ⟨(by rw [hE]), zb_1⟩, (by (try rw [hE]); rw [ht]; exact hP9), (by (try rw [hE]); exact hD9)⟩, hS.F ht⟩) hS.2.2 dX0_isClosedNow_24
  rw [hHe, hLe] at hgoal
  exact hgoal

def S_X0_closedNow_5 (fS : Nat → Int32) (he : Int32) (x1 : Int32) (i0 : Nat) (a0 : Int32 × (Nat → Int32) × Int32) : Int32 × (Nat → Int32) × Int32 := (if (F_X4_holds x1 (nI i0)) = 0 then (a0.1, a0.2.1, a0.2.2) else (if ((F_X0_isClosedNow fS a0.2.1 he a0.2.2 i0).1) = 0 then (a0.1, (F_X0_isClosedNow fS a0.2.1 he a0.2.2 i0).2.1, (F_X0_isClosedNow fS a0.2.1 he a0.2.2 i0).2.2) else (a0.1 ||| ((1 : Int32) <<< ((nI i0) &&& 31)), (F_X0_isClosedNow fS a0.2.1 he a0.2.2 i0).2.1, (F_X0_isClosedNow fS a0.2.1 he a0.2.2 i0).2.2)))
def F_X0_closedNow (fS : Nat → Int32) (fN : Nat → Int32) (he : Int32) (lu : Int32) (x1 : Int32) (K : Nat) : Int32 × (Nat → Int32) × Int32 := ((itr (fun i a => S_X0_closedNow_5 fS he x1 i a) K 0 (0, fN, lu)).1, (itr (fun i a => S_X0_closedNow_5 fS he x1 i a) K 0 (0, fN, lu)).2.1, (itr (fun i a => S_X0_closedNow_5 fS he x1 i a) K 0 (0, fN, lu)).2.2)
set_option maxHeartbeats 4000000 in
set_option maxRecDepth 100000 in
theorem c_X0_closedNow (l : Launch) (D : va_G) (hF : Nat) (aB : Nat) (aS : Nat) (aN : Nat) (aM : Nat) (fB : Nat → Int32) (fS : Nat → Int32) (fN : Nat → Int32) (fM : Nat → Int32) (he : Int32) (lu : Int32) (x1 : Int32) (K : Nat) (x2 : Int32) (sz : Nat) (hK_ : K ≤ 25) (hx2 : x2 = nI K) : Met l yX0_closedNow (Cond.code yX0_closedNow cX0_closedNow 5 (some .int) :: lwAll) ({ frames := 2, cells := 0, slots := 0, locals := 42 } : Room) (va_Pc [.ref hF, .int x1, .int x2] (cPre D (lwTY D) [(hF, .inr (7, [.ref aB, .ref aS, .ref aN, .ref aM, .int he, .int lu])), (aB, .inl ((D.1 101), 25, .inl fB)), (aS, .inl ((D.1 101), 25, .inl fS)), (aN, .inl ((D.1 101), 25, .inl fN)), (aM, .inl ((D.1 101), 25, .inl fM))] sz)) (va_Qi (fun (r : Int32) (_ : Unit) => r = (F_X0_closedNow fS fN he lu x1 K).1) (fun (_ : Unit) t => va_P D vwCl [(hF, .inr (7, [.ref aB, .ref aS, .ref aN, .ref aM, .int he, .int ((F_X0_closedNow fS fN he lu x1 K).2.2)])), (aB, .inl ((D.1 101), 25, .inl fB)), (aS, .inl ((D.1 101), 25, .inl fS)), (aN, .inl ((D.1 101), 25, .inl ((F_X0_closedNow fS fN he lu x1 K).2.1))), (aM, .inl ((D.1 101), 25, .inl fM))] t.heap ∧ va_D (va_A [(hF, .inr (7, [.ref aB, .ref aS, .ref aN, .ref aM, .int he, .int lu])), (aB, .inl ((D.1 101), 25, .inl fB)), (aS, .inl ((D.1 101), 25, .inl fS)), (aN, .inl ((D.1 101), 25, .inl fN)), (aM, .inl ((D.1 101), 25, .inl fM))] sz) [(hF, .inr (7, [.ref aB, .ref aS, .ref aN, .ref aM, .int he, .int ((F_X0_closedNow fS fN he lu x1 K).2.2)])), (aB, .inl ((D.1 101), 25, .inl fB)), (aS, .inl ((D.1 101), 25, .inl fS)), (aN, .inl ((D.1 101), 25, .inl ((F_X0_closedNow fS fN he lu x1 K).2.1))), (aM, .inl ((D.1 101), 25, .inl fM))]) (va_A [(hF, .inr (7, [.ref aB, .ref aS, .ref aN, .ref aM, .int he, .int lu])), (aB, .inl ((D.1 101), 25, .inl fB)), (aS, .inl ((D.1 101), 25, .inl fS)), (aN, .inl ((D.1 101), 25, .inl fN)), (aM, .inl ((D.1 101), 25, .inl fM))] sz)) 0 0 (va_A [(hF, .inr (7, [.ref aB, .ref aS, .ref aN, .ref aM, .int he, .int lu])), (aB, .inl ((D.1 101), 25, .inl fB)), (aS, .inl ((D.1 101), 25, .inl fS)), (aN, .inl ((D.1 101), 25, .inl fN)), (aM, .inl ((D.1 101), 25, .inl fM))] sz) := by
  subst hx2
  refine Met.ofW (cc := cX0_closedNow) (maxL := 5) (ret := (some .int)) (by decide) rfl ?_
  intro p e s m args below meth c s₁ B hml hv
  obtain ⟨rfl, hsz, hP, hK, hD0, hN, hZ⟩ := hv
  have hx := B.exec
  have hb := B.bytes
  have hr := B.returns
  have hts : ∀ wd ∈ lwAll, wd.before ([.ref hF, .int x1, .int (nI K)] : List Value).toArray s = true := fun wd h => atoms_spec (ws := (Cond.code yX0_closedNow cX0_closedNow 5 (some .int) :: lwAll)) B.pre wd (List.mem_cons_of_mem _ h)
  have hown : s.vm.findClass RX0 = some m.cls := findClass_of_methodNamed B.named
  have hlocks := B.notSynchronized
  subst hsz
  have hD := hD0.self (sz := s.heap.size)
  have hl := lv_entry ([.ref hF, .int x1, .int (nI K)]) (n := 5) (Nat.le_of_ble_eq_true rfl)
  rw [lg_entry_eq]
  generalize (lg_sl ([.ref hF, .int x1, .int (nI K)]) ++ List.replicate (5 - (lg_sl ([.ref hF, .int x1, .int (nI K)])).length) Slot.unset).toArray = ls at hl ⊢
  have hl : lv_has ls 5 [(0, .ref hF), (1, .int x1), (2, .int (nI K))] := hl
  have hS : va_S (va_A [(hF, .inr (7, [.ref aB, .ref aS, .ref aN, .ref aM, .int he, .int lu])), (aB, .inl ((D.1 101), 25, .inl fB)), (aS, .inl ((D.1 101), 25, .inl fS)), (aN, .inl ((D.1 101), 25, .inl fN)), (aM, .inl ((D.1 101), 25, .inl fM))] s.heap.size) s.heap s.heap [] := va_S.rf
  generalize hQe : MQ below (va_Qi (fun (r : Int32) (_ : Unit) => r = (F_X0_closedNow fS fN he lu x1 K).1) (fun (_ : Unit) t => va_P D vwCl [(hF, .inr (7, [.ref aB, .ref aS, .ref aN, .ref aM, .int he, .int ((F_X0_closedNow fS fN he lu x1 K).2.2)])), (aB, .inl ((D.1 101), 25, .inl fB)), (aS, .inl ((D.1 101), 25, .inl fS)), (aN, .inl ((D.1 101), 25, .inl ((F_X0_closedNow fS fN he lu x1 K).2.1))), (aM, .inl ((D.1 101), 25, .inl fM))] t.heap ∧ va_D (va_A [(hF, .inr (7, [.ref aB, .ref aS, .ref aN, .ref aM, .int he, .int lu])), (aB, .inl ((D.1 101), 25, .inl fB)), (aS, .inl ((D.1 101), 25, .inl fS)), (aN, .inl ((D.1 101), 25, .inl fN)), (aM, .inl ((D.1 101), 25, .inl fM))] s.heap.size) [(hF, .inr (7, [.ref aB, .ref aS, .ref aN, .ref aM, .int he, .int ((F_X0_closedNow fS fN he lu x1 K).2.2)])), (aB, .inl ((D.1 101), 25, .inl fB)), (aS, .inl ((D.1 101), 25, .inl fS)), (aN, .inl ((D.1 101), 25, .inl ((F_X0_closedNow fS fN he lu x1 K).2.1))), (aM, .inl ((D.1 101), 25, .inl fM))]) (va_A [(hF, .inr (7, [.ref aB, .ref aS, .ref aN, .ref aM, .int he, .int lu])), (aB, .inl ((D.1 101), 25, .inl fB)), (aS, .inl ((D.1 101), 25, .inl fS)), (aN, .inl ((D.1 101), 25, .inl fN)), (aM, .inl ((D.1 101), 25, .inl fM))] s.heap.size)) ([.ref hF, .int x1, .int (nI K)] : List Value).toArray s 0 0 (va_A [(hF, .inr (7, [.ref aB, .ref aS, .ref aN, .ref aM, .int he, .int lu])), (aB, .inl ((D.1 101), 25, .inl fB)), (aS, .inl ((D.1 101), 25, .inl fS)), (aN, .inl ((D.1 101), 25, .inl fN)), (aM, .inl ((D.1 101), 25, .inl fM))] s.heap.size) = Q
  have hP : va_P D vwCl [(hF, .inr (7, [.ref aB, .ref aS, .ref aN, .ref aM, .int he, .int lu])), (aB, .inl ((D.1 101), 25, .inl fB)), (aS, .inl ((D.1 101), 25, .inl fS)), (aN, .inl ((D.1 101), 25, .inl fN)), (aM, .inl ((D.1 101), 25, .inl fM))] s.heap := hP
  obtain ⟨A, hAe⟩ : ∃ A, A = va_A [(hF, .inr (7, [.ref aB, .ref aS, .ref aN, .ref aM, .int he, .int lu])), (aB, .inl ((D.1 101), 25, .inl fB)), (aS, .inl ((D.1 101), 25, .inl fS)), (aN, .inl ((D.1 101), 25, .inl fN)), (aM, .inl ((D.1 101), 25, .inl fM))] s.heap.size := ⟨_, rfl⟩
  rw [← hAe] at hD hZ hS
  have hA : ∀ q : Nat, s.heap.size ≤ q → A q := fun q h => by rw [hAe]; exact Or.inr h
  obtain ⟨H, hHe⟩ : ∃ H, H = s.heap := ⟨_, rfl⟩
  obtain ⟨locs, hLe⟩ : ∃ L : List Loc, L = [] := ⟨_, rfl⟩
  have hP : va_P D vwCl [(hF, .inr (7, [.ref aB, .ref aS, .ref aN, .ref aM, .int he, .int lu])), (aB, .inl ((D.1 101), 25, .inl fB)), (aS, .inl ((D.1 101), 25, .inl fS)), (aN, .inl ((D.1 101), 25, .inl fN)), (aM, .inl ((D.1 101), 25, .inl fM))] H := by rw [hHe]; exact hP
  have hS : va_S A s.heap H locs := by rw [hHe, hLe]; exact hS
  have hgoal : W p l e ({ frames := 2, cells := 0, slots := 0, locals := 42 } : Room) s m ([.ref hF, .int x1, .int (nI K)] : List Value).toArray below meth c H locs 0 0 Q (F0 m 0 ls []) := by
    clear hHe hLe
    refine lv_iconst (v := 0) hx hb dX0_closedNow_0 (by decide) ?_
    refine lv_istore_n (lv' := [(3, .int 0), (0, .ref hF), (1, .int x1), (2, .int (nI K))]) hx hb dX0_closedNow_1 rfl hl (by decide) rfl (fun ls hl => ?_)
    refine lv_iconst (v := 0) hx hb dX0_closedNow_2 (by decide) ?_
    refine lv_istore (lv' := [(4, .int 0), (3, .int 0), (0, .ref hF), (1, .int x1), (2, .int (nI K))]) hx hb dX0_closedNow_3 hl (by decide) rfl (fun ls hl => ?_)
    have lp_5 : ∀ (n0 i0 : Nat), i0 + n0 = K → ∀ (a0 : Int32 × (Nat → Int32) × Int32) (H : Heap) (locs : List Loc) (ls : Array Slot), va_P D vwCl [(hF, .inr (7, [.ref aB, .ref aS, .ref aN, .ref aM, .int he, .int a0.2.2])), (aB, .inl ((D.1 101), 25, .inl fB)), (aS, .inl ((D.1 101), 25, .inl fS)), (aN, .inl ((D.1 101), 25, .inl a0.2.1)), (aM, .inl ((D.1 101), 25, .inl fM))] H → va_D A [(hF, .inr (7, [.ref aB, .ref aS, .ref aN, .ref aM, .int he, .int a0.2.2])), (aB, .inl ((D.1 101), 25, .inl fB)), (aS, .inl ((D.1 101), 25, .inl fS)), (aN, .inl ((D.1 101), 25, .inl a0.2.1)), (aM, .inl ((D.1 101), 25, .inl fM))] → va_S A s.heap H locs → lv_has ls 5 [(0, .ref hF), (1, .int x1), (2, .int (nI K)), (3, .int a0.1), (4, .int (nI i0))] → (∀ (H : Heap) (locs : List Loc) (ls : Array Slot), va_P D vwCl [(hF, .inr (7, [.ref aB, .ref aS, .ref aN, .ref aM, .int he, .int ((itr (fun i a => S_X0_closedNow_5 fS he x1 i a) n0 i0 a0).2.2)])), (aB, .inl ((D.1 101), 25, .inl fB)), (aS, .inl ((D.1 101), 25, .inl fS)), (aN, .inl ((D.1 101), 25, .inl ((itr (fun i a => S_X0_closedNow_5 fS he x1 i a) n0 i0 a0).2.1))), (aM, .inl ((D.1 101), 25, .inl fM))] H → va_D A [(hF, .inr (7, [.ref aB, .ref aS, .ref aN, .ref aM, .int he, .int ((itr (fun i a => S_X0_closedNow_5 fS he x1 i a) n0 i0 a0).2.2)])), (aB, .inl ((D.1 101), 25, .inl fB)), (aS, .inl ((D.1 101), 25, .inl fS)), (aN, .inl ((D.1 101), 25, .inl ((itr (fun i a => S_X0_closedNow_5 fS he x1 i a) n0 i0 a0).2.1))), (aM, .inl ((D.1 101), 25, .inl fM))] → va_S A s.heap H locs → lv_has ls 5 [(0, .ref hF), (1, .int x1), (2, .int (nI K)), (3, .int ((itr (fun i a => S_X0_closedNow_5 fS he x1 i a) n0 i0 a0).1)), (4, .int (nI K))] → W p l e ({ frames := 2, cells := 0, slots := 0, locals := 42 } : Room) s m ([.ref hF, .int x1, .int (nI K)] : List Value).toArray below meth c H locs 0 0 Q (F0 m 42 ls [])) → W p l e ({ frames := 2, cells := 0, slots := 0, locals := 42 } : Room) s m ([.ref hF, .int x1, .int (nI K)] : List Value).toArray below meth c H locs 0 0 Q (F0 m 5 ls []) := by
      intro n0
      induction n0 with
      | zero =>
        intro i0 hi0 a0 H locs ls hP hD hS hl kon
        have he0 : i0 = K := by omega
        refine lv_iload hx hb dX0_closedNow_5 (lv_at hl 4 rfl) ?_
        refine lv_iload_n hx hb dX0_closedNow_7 rfl (lv_at hl 2 rfl) ?_
        refine lv_icmp_ge (tgt := 42) hx hb dX0_closedNow_8 (by decide) (fun c_1 => ?_) (fun c_1 => ?_)
        · subst he0
          exact kon H locs ls hP hD hS (lv_sub hl [0, 1, 2, 3, 4] rfl)
        · exact absurd (nI_le (a := K) (b := i0) (by omega) (by omega)) c_1
      | succ n0 ih0 =>
        intro i0 hi0 a0 H locs ls hP hD hS hl kon
        refine lv_iload hx hb dX0_closedNow_5 (lv_at hl 4 rfl) ?_
        refine lv_iload_n hx hb dX0_closedNow_7 rfl (lv_at hl 2 rfl) ?_
        refine lv_icmp_ge (tgt := 42) hx hb dX0_closedNow_8 (by decide) (fun c_2 => ?_) (fun c_2 => ?_)
        · exact absurd c_2 (nI_ge (a := i0) (b := K) (by omega) (by omega))
        · refine lv_iload_n hx hb dX0_closedNow_11 rfl (lv_at hl 1 rfl) ?_
          refine lv_iload hx hb dX0_closedNow_12 (lv_at hl 4 rfl) ?_
          have hPc := hP.sub (ws' := []) [] rfl
          have hDc := hD.sub (ws' := []) [] (by decide) rfl
          have hFc := va_free (wc := []) hD hS hA [] rfl
          refine va_calli (va_runSN (As := [.int x1, .int (nI i0)]) (rest := []) ⟨hx, hb, hml, hown, hts⟩ (c_X4_holds l D x1 (nI i0) H.size ) ⟨va_cnB 2 hts (gi_sub q_713) rfl rfl rfl (hN.1 _ n_904) (hts _ q_80) (by decide +kernel) ⟨Nat.le_of_ble_eq_true rfl, Nat.le_of_ble_eq_true rfl⟩, (hts _ q_712), trivial⟩ ⟨cPre_blind, cPre_mk hPc hK hDc hN (lwZ_for hZ hS hFc)⟩ rfl rfl hl.1 rfl (lv_room (Nat.le_of_ble_eq_true rfl)) dX0_closedNow_14 ⟨(Nat.le_of_ble_eq_true rfl), (Nat.le_of_ble_eq_true rfl)⟩) hS (fun q h1 h2 => absurd h2 (Nat.not_le.mpr h1)) (fun q h => hA q (Nat.le_trans hS.1 h)) (fun r_14 u t H1 locs ht hvm hw hBk hz1 hk1 hS => ?_)
          have hP := va_P_ro hP hk1
          obtain ⟨hw, z_3⟩ := hw
          rw [hw] at z_3
          subst hw
          clear hBk hvm ht u hz1 hk1
          clear hPc hDc hFc; clear t
          generalize H1 = H at hP hS ⊢
          refine lv_if_eq (tgt := 36) hx hb dX0_closedNow_17 (by decide) (fun c_4 => ?_) (fun c_4 => ?_)
          · refine lv_iinc (v := nI (i0 + 1)) (lv' := [(4, .int (nI (i0 + 1))), (0, .ref hF), (1, .int x1), (2, .int (nI K)), (3, .int a0.1)]) hx hb dX0_closedNow_36 hl (k := 4) rfl (nI_1 _) (by decide) rfl (fun ls hl => ?_)
            refine lv_goto (tgt := 5) hx hb dX0_closedNow_39 (by decide) ?_
            have hE : S_X0_closedNow_5 fS he x1 i0 a0 = (a0.1, a0.2.1, a0.2.2) := (by unfold S_X0_closedNow_5; rw [if_pos c_4])
            have hl : lv_has ls 5 [(0, .ref hF), (1, .int x1), (2, .int (nI K)), (3, .int a0.1), (4, .int (nI (i0 + 1)))] := lv_sub hl [1, 2, 3, 4, 0] rfl
            have hP := hP.sub (ws' := [(hF, .inr (7, [.ref aB, .ref aS, .ref aN, .ref aM, .int he, .int a0.2.2])), (aB, .inl ((D.1 101), 25, .inl fB)), (aS, .inl ((D.1 101), 25, .inl fS)), (aN, .inl ((D.1 101), 25, .inl a0.2.1)), (aM, .inl ((D.1 101), 25, .inl fM))]) [0, 1, 2, 3, 4] rfl
            have hD := hD.sub (ws' := [(hF, .inr (7, [.ref aB, .ref aS, .ref aN, .ref aM, .int he, .int a0.2.2])), (aB, .inl ((D.1 101), 25, .inl fB)), (aS, .inl ((D.1 101), 25, .inl fS)), (aN, .inl ((D.1 101), 25, .inl a0.2.1)), (aM, .inl ((D.1 101), 25, .inl fM))]) [0, 1, 2, 3, 4] (by decide) rfl
            exact ih0 (i0 + 1) (by omega) (S_X0_closedNow_5 fS he x1 i0 a0) H locs ls (by (try rw [hE]); exact hP) (by (try rw [hE]); exact hD) hS (by (try rw [hE]); exact hl) kon
          · refine lv_aload_n hx hb dX0_closedNow_20 rfl (lv_at hl 0 rfl) ?_
            refine lv_iload hx hb dX0_closedNow_21 (lv_at hl 4 rfl) ?_
            have hPc := hP.sub (ws' := [(hF, .inr (7, [.ref aB, .ref aS, .ref aN, .ref aM, .int he, .int a0.2.2])), (aB, .inl ((D.1 101), 25, .inl fB)), (aS, .inl ((D.1 101), 25, .inl fS)), (aN, .inl ((D.1 101), 25, .inl a0.2.1)), (aM, .inl ((D.1 101), 25, .inl fM))]) [0, 1, 2, 3, 4] rfl
            have hDc := hD.sub (ws' := [(hF, .inr (7, [.ref aB, .ref aS, .ref aN, .ref aM, .int he, .int a0.2.2])), (aB, .inl ((D.1 101), 25, .inl fB)), (aS, .inl ((D.1 101), 25, .inl fS)), (aN, .inl ((D.1 101), 25, .inl a0.2.1)), (aM, .inl ((D.1 101), 25, .inl fM))]) [0, 1, 2, 3, 4] (by decide) rfl
            have hFc := va_free (wc := [(hF, .inr (7, [.ref aB, .ref aS, .ref aN, .ref aM, .int he, .int a0.2.2])), (aB, .inl ((D.1 101), 25, .inl fB)), (aS, .inl ((D.1 101), 25, .inl fS)), (aN, .inl ((D.1 101), 25, .inl a0.2.1)), (aM, .inl ((D.1 101), 25, .inl fM))]) hD hS hA [0, 1, 2, 3, 4] rfl
            refine va_calli (va_runV (As := [.int (nI i0)]) (rest := []) ⟨hx, hb, hml, hown, hts⟩ (c_X0_isClosedNow l D hF aB aS aN aM fB fS a0.2.1 fM he a0.2.2 i0 (nI i0) H.size (show i0 < 25 from (by omega)) (show (nI i0) = nI i0 from rfl)) (cwV 1 hts (gi_V q_988 q_990 q_36 q_82 q_991) rfl rfl rfl (by decide +kernel) ⟨Nat.le_of_ble_eq_true rfl, Nat.le_of_ble_eq_true rfl⟩) ⟨cPre_blind, va_recv hK hP (ci := 7) (q0 := 0) rfl rfl, cPre_mk hPc hK hDc hN (lwZ_for hZ hS hFc)⟩ rfl rfl hl.1 rfl (lv_room (Nat.le_of_ble_eq_true rfl)) dX0_closedNow_23 ⟨(Nat.le_of_ble_eq_true rfl), (Nat.le_of_ble_eq_true rfl)⟩) hS (fun q _ h => hFc q h) hFc (fun r_23 u t H1 locs ht hvm hw hBk hz1 hk1 hS => ?_)
            obtain ⟨hP1, hD1⟩ := hBk
            rw [ht] at hP1
            obtain ⟨hP, hD⟩ := va_join (wr := []) (w1 := [(hF, .inr (7, [.ref aB, .ref aS, .ref aN, .ref aM, .int he, .int ((F_X0_isClosedNow fS a0.2.1 he a0.2.2 i0).2.2)])), (aB, .inl ((D.1 101), 25, .inl fB)), (aS, .inl ((D.1 101), 25, .inl fS)), (aN, .inl ((D.1 101), 25, .inl ((F_X0_isClosedNow fS a0.2.1 he a0.2.2 i0).2.1))), (aM, .inl ((D.1 101), 25, .inl fM))]) hP hD [0, 1, 2, 3, 4] [] rfl rfl (by decide) (by decide) hk1 hFc hP1 hD1
            obtain ⟨hw, z_5⟩ := hw
            rw [hw] at z_5
            subst hw
            clear hPc hDc hFc hP1 hD1 hk1 hz1
            clear hvm ht u; clear t
            generalize H1 = H at hP hS ⊢
            have hP : va_P D vwCl [(hF, .inr (7, [.ref aB, .ref aS, .ref aN, .ref aM, .int he, .int ((F_X0_isClosedNow fS a0.2.1 he a0.2.2 i0).2.2)])), (aB, .inl ((D.1 101), 25, .inl fB)), (aS, .inl ((D.1 101), 25, .inl fS)), (aN, .inl ((D.1 101), 25, .inl ((F_X0_isClosedNow fS a0.2.1 he a0.2.2 i0).2.1))), (aM, .inl ((D.1 101), 25, .inl fM))] H := hP
            have hD : va_D A [(hF, .inr (7, [.ref aB, .ref aS, .ref aN, .ref aM, .int he, .int ((F_X0_isClosedNow fS a0.2.1 he a0.2.2 i0).2.2)])), (aB, .inl ((D.1 101), 25, .inl fB)), (aS, .inl ((D.1 101), 25, .inl fS)), (aN, .inl ((D.1 101), 25, .inl ((F_X0_isClosedNow fS a0.2.1 he a0.2.2 i0).2.1))), (aM, .inl ((D.1 101), 25, .inl fM))] := hD
            refine lv_if_eq (tgt := 36) hx hb dX0_closedNow_26 (by decide) (fun c_6 => ?_) (fun c_6 => ?_)
            · refine lv_iinc (v := nI (i0 + 1)) (lv' := [(4, .int (nI (i0 + 1))), (0, .ref hF), (1, .int x1), (2, .int (nI K)), (3, .int a0.1)]) hx hb dX0_closedNow_36 hl (k := 4) rfl (nI_1 _) (by decide) rfl (fun ls hl => ?_)
              refine lv_goto (tgt := 5) hx hb dX0_closedNow_39 (by decide) ?_
              have hE : S_X0_closedNow_5 fS he x1 i0 a0 = (a0.1, (F_X0_isClosedNow fS a0.2.1 he a0.2.2 i0).2.1, (F_X0_isClosedNow fS a0.2.1 he a0.2.2 i0).2.2) := (by unfold S_X0_closedNow_5; rw [if_neg c_4, if_pos c_6])
              have hl : lv_has ls 5 [(0, .ref hF), (1, .int x1), (2, .int (nI K)), (3, .int a0.1), (4, .int (nI (i0 + 1)))] := lv_sub hl [1, 2, 3, 4, 0] rfl
              have hP := hP.sub (ws' := [(hF, .inr (7, [.ref aB, .ref aS, .ref aN, .ref aM, .int he, .int ((F_X0_isClosedNow fS a0.2.1 he a0.2.2 i0).2.2)])), (aB, .inl ((D.1 101), 25, .inl fB)), (aS, .inl ((D.1 101), 25, .inl fS)), (aN, .inl ((D.1 101), 25, .inl ((F_X0_isClosedNow fS a0.2.1 he a0.2.2 i0).2.1))), (aM, .inl ((D.1 101), 25, .inl fM))]) [0, 1, 2, 3, 4] rfl
              have hD := hD.sub (ws' := [(hF, .inr (7, [.ref aB, .ref aS, .ref aN, .ref aM, .int he, .int ((F_X0_isClosedNow fS a0.2.1 he a0.2.2 i0).2.2)])), (aB, .inl ((D.1 101), 25, .inl fB)), (aS, .inl ((D.1 101), 25, .inl fS)), (aN, .inl ((D.1 101), 25, .inl ((F_X0_isClosedNow fS a0.2.1 he a0.2.2 i0).2.1))), (aM, .inl ((D.1 101), 25, .inl fM))]) [0, 1, 2, 3, 4] (by decide) rfl
              exact ih0 (i0 + 1) (by omega) (S_X0_closedNow_5 fS he x1 i0 a0) H locs ls (by (try rw [hE]); exact hP) (by (try rw [hE]); exact hD) hS (by (try rw [hE]); exact hl) kon
            · refine lv_iload_n hx hb dX0_closedNow_29 rfl (lv_at hl 3 rfl) ?_
              refine lv_iconst (v := 1) hx hb dX0_closedNow_30 (by decide) ?_
              refine lv_iload hx hb dX0_closedNow_31 (lv_at hl 4 rfl) ?_
              refine lv_ishl hx hb dX0_closedNow_33 ?_
              refine lv_ior hx hb dX0_closedNow_34 ?_
              refine lv_istore_n (lv' := [(3, .int (a0.1 ||| ((1 : Int32) <<< ((nI i0) &&& 31)))), (0, .ref hF), (1, .int x1), (2, .int (nI K)), (4, .int (nI i0))]) hx hb dX0_closedNow_35 rfl hl (by decide) rfl (fun ls hl => ?_)
              refine lv_iinc (v := nI (i0 + 1)) (lv' := [(4, .int (nI (i0 + 1))), (3, .int (a0.1 ||| ((1 : Int32) <<< ((nI i0) &&& 31)))), (0, .ref hF), (1, .int x1), (2, .int (nI K))]) hx hb dX0_closedNow_36 hl (k := 4) rfl (nI_1 _) (by decide) rfl (fun ls hl => ?_)
              refine lv_goto (tgt := 5) hx hb dX0_closedNow_39 (by decide) ?_
              have hE : S_X0_closedNow_5 fS he x1 i0 a0 = (a0.1 ||| ((1 : Int32) <<< ((nI i0) &&& 31)), (F_X0_isClosedNow fS a0.2.1 he a0.2.2 i0).2.1, (F_X0_isClosedNow fS a0.2.1 he a0.2.2 i0).2.2) := (by unfold S_X0_closedNow_5; rw [if_neg c_4, if_neg c_6])
              have hl : lv_has ls 5 [(0, .ref hF), (1, .int x1), (2, .int (nI K)), (3, .int (a0.1 ||| ((1 : Int32) <<< ((nI i0) &&& 31)))), (4, .int (nI (i0 + 1)))] := lv_sub hl [2, 3, 4, 1, 0] rfl
              have hP := hP.sub (ws' := [(hF, .inr (7, [.ref aB, .ref aS, .ref aN, .ref aM, .int he, .int ((F_X0_isClosedNow fS a0.2.1 he a0.2.2 i0).2.2)])), (aB, .inl ((D.1 101), 25, .inl fB)), (aS, .inl ((D.1 101), 25, .inl fS)), (aN, .inl ((D.1 101), 25, .inl ((F_X0_isClosedNow fS a0.2.1 he a0.2.2 i0).2.1))), (aM, .inl ((D.1 101), 25, .inl fM))]) [0, 1, 2, 3, 4] rfl
              have hD := hD.sub (ws' := [(hF, .inr (7, [.ref aB, .ref aS, .ref aN, .ref aM, .int he, .int ((F_X0_isClosedNow fS a0.2.1 he a0.2.2 i0).2.2)])), (aB, .inl ((D.1 101), 25, .inl fB)), (aS, .inl ((D.1 101), 25, .inl fS)), (aN, .inl ((D.1 101), 25, .inl ((F_X0_isClosedNow fS a0.2.1 he a0.2.2 i0).2.1))), (aM, .inl ((D.1 101), 25, .inl fM))]) [0, 1, 2, 3, 4] (by decide) rfl
              exact ih0 (i0 + 1) (by omega) (S_X0_closedNow_5 fS he x1 i0 a0) H locs ls (by (try rw [hE]); exact hP) (by (try rw [hE]); exact hD) hS (by (try rw [hE]); exact hl) kon
    have hl : lv_has ls 5 [(0, .ref hF), (1, .int x1), (2, .int (nI K)), (3, .int 0), (4, .int (nI 0))] := lv_sub hl [2, 3, 4, 1, 0] rfl
    refine lp_5 K 0 (by omega) (0, fN, lu) H locs ls hP hD hS hl ?_
    clear lp_5 hP hD hS hl
    intro H locs ls hP hD hS hl
    refine lv_iload_n hx hb dX0_closedNow_42 rfl (lv_at hl 3 rfl) ?_
    subst hQe
    subst hAe
    have hE : (F_X0_closedNow fS fN he lu x1 K) = ((itr (fun i a => S_X0_closedNow_5 fS he x1 i a) K 0 (0, fN, lu)).1, (itr (fun i a => S_X0_closedNow_5 fS he x1 i a) K 0 (0, fN, lu)).2.1, (itr (fun i a => S_X0_closedNow_5 fS he x1 i a) K 0 (0, fN, lu)).2.2) := (by rfl)
    have hP9 := hP.sub (ws' := [(hF, .inr (7, [.ref aB, .ref aS, .ref aN, .ref aM, .int he, .int ((itr (fun i a => S_X0_closedNow_5 fS he x1 i a) K 0 (0, fN, lu)).2.2)])), (aB, .inl ((D.1 101), 25, .inl fB)), (aS, .inl ((D.1 101), 25, .inl fS)), (aN, .inl ((D.1 101), 25, .inl ((itr (fun i a => S_X0_closedNow_5 fS he x1 i a) K 0 (0, fN, lu)).2.1))), (aM, .inl ((D.1 101), 25, .inl fM))]) [0, 1, 2, 3, 4] rfl
    have hD9 := hD.sub (ws' := [(hF, .inr (7, [.ref aB, .ref aS, .ref aN, .ref aM, .int he, .int ((itr (fun i a => S_X0_closedNow_5 fS he x1 i a) K 0 (0, fN, lu)).2.2)])), (aB, .inl ((D.1 101), 25, .inl fB)), (aS, .inl ((D.1 101), 25, .inl fS)), (aN, .inl ((D.1 101), 25, .inl ((itr (fun i a => S_X0_closedNow_5 fS he x1 i a) K 0 (0, fN, lu)).2.1))), (aM, .inl ((D.1 101), 25, .inl fM))]) [0, 1, 2, 3, 4] (by decide) rfl
    exact W.iret (v := (itr (fun i a => S_X0_closedNow_5 fS he x1 i a) K 0 (0, fN, lu)).1) hx hb hr (fun t ht hW => ⟨⟨(itr (fun i a => S_X0_closedNow_5 fS he x1 i a) K 0 (0, fN, lu)).1, (), rfl, (by rw [hE]), (by (try rw [hE]); rw [ht]; exact hP9), (by (try rw [hE]); exact hD9)⟩, hS.F ht⟩) hS.2.2 dX0_closedNow_43
  rw [hHe, hLe] at hgoal
  exact hgoal

def S_X0_startAnew_2  (i0 : Nat) (a0 : (Nat → Int32) × (Nat → Int32) × (Nat → Int32) × (Nat → Int32)) : (Nat → Int32) × (Nat → Int32) × (Nat → Int32) × (Nat → Int32) := (upd a0.1 i0 0, upd a0.2.1 i0 0, upd a0.2.2.1 i0 0, upd a0.2.2.2 i0 (-1))
def F_X0_startAnew (fB : Nat → Int32) (fS : Nat → Int32) (fN : Nat → Int32) (fM : Nat → Int32) : (Nat → Int32) × (Nat → Int32) × (Nat → Int32) × (Nat → Int32) × Int32 := ((itr (fun i a => S_X0_startAnew_2 i a) 25 0 (fB, fS, fN, fM)).1, (itr (fun i a => S_X0_startAnew_2 i a) 25 0 (fB, fS, fN, fM)).2.1, (itr (fun i a => S_X0_startAnew_2 i a) 25 0 (fB, fS, fN, fM)).2.2.1, (itr (fun i a => S_X0_startAnew_2 i a) 25 0 (fB, fS, fN, fM)).2.2.2, 0)
set_option maxHeartbeats 4000000 in
set_option maxRecDepth 100000 in
theorem c_X0_startAnew (l : Launch) (D : va_G) (hF : Nat) (aB : Nat) (aS : Nat) (aN : Nat) (aM : Nat) (fB : Nat → Int32) (fS : Nat → Int32) (fN : Nat → Int32) (fM : Nat → Int32) (he : Int32) (lu : Int32) (sz : Nat)  : Met l yX0_startAnew (Cond.code yX0_startAnew cX0_startAnew 2 none :: lwAll) ({ frames := 0, cells := 0, slots := 0, locals := 0 } : Room) (va_Pc [.ref hF] (cPre D (lwTY D) [(hF, .inr (7, [.ref aB, .ref aS, .ref aN, .ref aM, .int he, .int lu])), (aB, .inl ((D.1 101), 25, .inl fB)), (aS, .inl ((D.1 101), 25, .inl fS)), (aN, .inl ((D.1 101), 25, .inl fN)), (aM, .inl ((D.1 101), 25, .inl fM))] sz)) (va_Qv (fun (_ : Unit) => True) (fun (_ : Unit) t => va_P D vwCl [(hF, .inr (7, [.ref aB, .ref aS, .ref aN, .ref aM, .int ((F_X0_startAnew fB fS fN fM).2.2.2.2), .int lu])), (aB, .inl ((D.1 101), 25, .inl ((F_X0_startAnew fB fS fN fM).1))), (aS, .inl ((D.1 101), 25, .inl ((F_X0_startAnew fB fS fN fM).2.1))), (aN, .inl ((D.1 101), 25, .inl ((F_X0_startAnew fB fS fN fM).2.2.1))), (aM, .inl ((D.1 101), 25, .inl ((F_X0_startAnew fB fS fN fM).2.2.2.1)))] t.heap ∧ va_D (va_A [(hF, .inr (7, [.ref aB, .ref aS, .ref aN, .ref aM, .int he, .int lu])), (aB, .inl ((D.1 101), 25, .inl fB)), (aS, .inl ((D.1 101), 25, .inl fS)), (aN, .inl ((D.1 101), 25, .inl fN)), (aM, .inl ((D.1 101), 25, .inl fM))] sz) [(hF, .inr (7, [.ref aB, .ref aS, .ref aN, .ref aM, .int ((F_X0_startAnew fB fS fN fM).2.2.2.2), .int lu])), (aB, .inl ((D.1 101), 25, .inl ((F_X0_startAnew fB fS fN fM).1))), (aS, .inl ((D.1 101), 25, .inl ((F_X0_startAnew fB fS fN fM).2.1))), (aN, .inl ((D.1 101), 25, .inl ((F_X0_startAnew fB fS fN fM).2.2.1))), (aM, .inl ((D.1 101), 25, .inl ((F_X0_startAnew fB fS fN fM).2.2.2.1)))]) (va_A [(hF, .inr (7, [.ref aB, .ref aS, .ref aN, .ref aM, .int he, .int lu])), (aB, .inl ((D.1 101), 25, .inl fB)), (aS, .inl ((D.1 101), 25, .inl fS)), (aN, .inl ((D.1 101), 25, .inl fN)), (aM, .inl ((D.1 101), 25, .inl fM))] sz)) 0 0 (va_A [(hF, .inr (7, [.ref aB, .ref aS, .ref aN, .ref aM, .int he, .int lu])), (aB, .inl ((D.1 101), 25, .inl fB)), (aS, .inl ((D.1 101), 25, .inl fS)), (aN, .inl ((D.1 101), 25, .inl fN)), (aM, .inl ((D.1 101), 25, .inl fM))] sz) := by
  refine Met.ofW (cc := cX0_startAnew) (maxL := 2) (ret := none) (by decide) rfl ?_
  intro p e s m args below meth c s₁ B hml hv
  obtain ⟨rfl, hsz, hP, hK, hD0, hN, hZ⟩ := hv
  have hx := B.exec
  have hb := B.bytes
  have hr := B.returns
  have hts : ∀ wd ∈ lwAll, wd.before ([.ref hF] : List Value).toArray s = true := fun wd h => atoms_spec (ws := (Cond.code yX0_startAnew cX0_startAnew 2 none :: lwAll)) B.pre wd (List.mem_cons_of_mem _ h)
  have hown : s.vm.findClass RX0 = some m.cls := findClass_of_methodNamed B.named
  have hlocks := B.notSynchronized
  subst hsz
  have hD := hD0.self (sz := s.heap.size)
  have hl := lv_entry ([.ref hF]) (n := 2) (Nat.le_of_ble_eq_true rfl)
  rw [lg_entry_eq]
  generalize (lg_sl ([.ref hF]) ++ List.replicate (2 - (lg_sl ([.ref hF])).length) Slot.unset).toArray = ls at hl ⊢
  have hl : lv_has ls 2 [(0, .ref hF)] := hl
  have hS : va_S (va_A [(hF, .inr (7, [.ref aB, .ref aS, .ref aN, .ref aM, .int he, .int lu])), (aB, .inl ((D.1 101), 25, .inl fB)), (aS, .inl ((D.1 101), 25, .inl fS)), (aN, .inl ((D.1 101), 25, .inl fN)), (aM, .inl ((D.1 101), 25, .inl fM))] s.heap.size) s.heap s.heap [] := va_S.rf
  generalize hQe : MQ below (va_Qv (fun (_ : Unit) => True) (fun (_ : Unit) t => va_P D vwCl [(hF, .inr (7, [.ref aB, .ref aS, .ref aN, .ref aM, .int ((F_X0_startAnew fB fS fN fM).2.2.2.2), .int lu])), (aB, .inl ((D.1 101), 25, .inl ((F_X0_startAnew fB fS fN fM).1))), (aS, .inl ((D.1 101), 25, .inl ((F_X0_startAnew fB fS fN fM).2.1))), (aN, .inl ((D.1 101), 25, .inl ((F_X0_startAnew fB fS fN fM).2.2.1))), (aM, .inl ((D.1 101), 25, .inl ((F_X0_startAnew fB fS fN fM).2.2.2.1)))] t.heap ∧ va_D (va_A [(hF, .inr (7, [.ref aB, .ref aS, .ref aN, .ref aM, .int he, .int lu])), (aB, .inl ((D.1 101), 25, .inl fB)), (aS, .inl ((D.1 101), 25, .inl fS)), (aN, .inl ((D.1 101), 25, .inl fN)), (aM, .inl ((D.1 101), 25, .inl fM))] s.heap.size) [(hF, .inr (7, [.ref aB, .ref aS, .ref aN, .ref aM, .int ((F_X0_startAnew fB fS fN fM).2.2.2.2), .int lu])), (aB, .inl ((D.1 101), 25, .inl ((F_X0_startAnew fB fS fN fM).1))), (aS, .inl ((D.1 101), 25, .inl ((F_X0_startAnew fB fS fN fM).2.1))), (aN, .inl ((D.1 101), 25, .inl ((F_X0_startAnew fB fS fN fM).2.2.1))), (aM, .inl ((D.1 101), 25, .inl ((F_X0_startAnew fB fS fN fM).2.2.2.1)))]) (va_A [(hF, .inr (7, [.ref aB, .ref aS, .ref aN, .ref aM, .int he, .int lu])), (aB, .inl ((D.1 101), 25, .inl fB)), (aS, .inl ((D.1 101), 25, .inl fS)), (aN, .inl ((D.1 101), 25, .inl fN)), (aM, .inl ((D.1 101), 25, .inl fM))] s.heap.size)) ([.ref hF] : List Value).toArray s 0 0 (va_A [(hF, .inr (7, [.ref aB, .ref aS, .ref aN, .ref aM, .int he, .int lu])), (aB, .inl ((D.1 101), 25, .inl fB)), (aS, .inl ((D.1 101), 25, .inl fS)), (aN, .inl ((D.1 101), 25, .inl fN)), (aM, .inl ((D.1 101), 25, .inl fM))] s.heap.size) = Q
  have hP : va_P D vwCl [(hF, .inr (7, [.ref aB, .ref aS, .ref aN, .ref aM, .int he, .int lu])), (aB, .inl ((D.1 101), 25, .inl fB)), (aS, .inl ((D.1 101), 25, .inl fS)), (aN, .inl ((D.1 101), 25, .inl fN)), (aM, .inl ((D.1 101), 25, .inl fM))] s.heap := hP
  obtain ⟨A, hAe⟩ : ∃ A, A = va_A [(hF, .inr (7, [.ref aB, .ref aS, .ref aN, .ref aM, .int he, .int lu])), (aB, .inl ((D.1 101), 25, .inl fB)), (aS, .inl ((D.1 101), 25, .inl fS)), (aN, .inl ((D.1 101), 25, .inl fN)), (aM, .inl ((D.1 101), 25, .inl fM))] s.heap.size := ⟨_, rfl⟩
  rw [← hAe] at hD hZ hS
  have hA : ∀ q : Nat, s.heap.size ≤ q → A q := fun q h => by rw [hAe]; exact Or.inr h
  obtain ⟨H, hHe⟩ : ∃ H, H = s.heap := ⟨_, rfl⟩
  obtain ⟨locs, hLe⟩ : ∃ L : List Loc, L = [] := ⟨_, rfl⟩
  have hP : va_P D vwCl [(hF, .inr (7, [.ref aB, .ref aS, .ref aN, .ref aM, .int he, .int lu])), (aB, .inl ((D.1 101), 25, .inl fB)), (aS, .inl ((D.1 101), 25, .inl fS)), (aN, .inl ((D.1 101), 25, .inl fN)), (aM, .inl ((D.1 101), 25, .inl fM))] H := by rw [hHe]; exact hP
  have hS : va_S A s.heap H locs := by rw [hHe, hLe]; exact hS
  have hgoal : W p l e ({ frames := 0, cells := 0, slots := 0, locals := 0 } : Room) s m ([.ref hF] : List Value).toArray below meth c H locs 0 0 Q (F0 m 0 ls []) := by
    clear hHe hLe
    refine lv_iconst (v := 0) hx hb dX0_startAnew_0 (by decide) ?_
    refine lv_istore_n (lv' := [(1, .int 0), (0, .ref hF)]) hx hb dX0_startAnew_1 rfl hl (by decide) rfl (fun ls hl => ?_)
    have lp_2 : ∀ (n0 i0 : Nat), i0 + n0 = 25 → ∀ (a0 : (Nat → Int32) × (Nat → Int32) × (Nat → Int32) × (Nat → Int32)) (H : Heap) (locs : List Loc) (ls : Array Slot), va_P D vwCl [(hF, .inr (7, [.ref aB, .ref aS, .ref aN, .ref aM, .int he, .int lu])), (aB, .inl ((D.1 101), 25, .inl a0.1)), (aS, .inl ((D.1 101), 25, .inl a0.2.1)), (aN, .inl ((D.1 101), 25, .inl a0.2.2.1)), (aM, .inl ((D.1 101), 25, .inl a0.2.2.2))] H → va_D A [(hF, .inr (7, [.ref aB, .ref aS, .ref aN, .ref aM, .int he, .int lu])), (aB, .inl ((D.1 101), 25, .inl a0.1)), (aS, .inl ((D.1 101), 25, .inl a0.2.1)), (aN, .inl ((D.1 101), 25, .inl a0.2.2.1)), (aM, .inl ((D.1 101), 25, .inl a0.2.2.2))] → va_S A s.heap H locs → lv_has ls 2 [(0, .ref hF), (1, .int (nI i0))] → (∀ (H : Heap) (locs : List Loc) (ls : Array Slot), va_P D vwCl [(hF, .inr (7, [.ref aB, .ref aS, .ref aN, .ref aM, .int he, .int lu])), (aB, .inl ((D.1 101), 25, .inl ((itr (fun i a => S_X0_startAnew_2 i a) n0 i0 a0).1))), (aS, .inl ((D.1 101), 25, .inl ((itr (fun i a => S_X0_startAnew_2 i a) n0 i0 a0).2.1))), (aN, .inl ((D.1 101), 25, .inl ((itr (fun i a => S_X0_startAnew_2 i a) n0 i0 a0).2.2.1))), (aM, .inl ((D.1 101), 25, .inl ((itr (fun i a => S_X0_startAnew_2 i a) n0 i0 a0).2.2.2)))] H → va_D A [(hF, .inr (7, [.ref aB, .ref aS, .ref aN, .ref aM, .int he, .int lu])), (aB, .inl ((D.1 101), 25, .inl ((itr (fun i a => S_X0_startAnew_2 i a) n0 i0 a0).1))), (aS, .inl ((D.1 101), 25, .inl ((itr (fun i a => S_X0_startAnew_2 i a) n0 i0 a0).2.1))), (aN, .inl ((D.1 101), 25, .inl ((itr (fun i a => S_X0_startAnew_2 i a) n0 i0 a0).2.2.1))), (aM, .inl ((D.1 101), 25, .inl ((itr (fun i a => S_X0_startAnew_2 i a) n0 i0 a0).2.2.2)))] → va_S A s.heap H locs → lv_has ls 2 [(0, .ref hF), (1, .int (nI 25))] → W p l e ({ frames := 0, cells := 0, slots := 0, locals := 0 } : Room) s m ([.ref hF] : List Value).toArray below meth c H locs 0 0 Q (F0 m 42 ls [])) → W p l e ({ frames := 0, cells := 0, slots := 0, locals := 0 } : Room) s m ([.ref hF] : List Value).toArray below meth c H locs 0 0 Q (F0 m 2 ls []) := by
      intro n0
      induction n0 with
      | zero =>
        intro i0 hi0 a0 H locs ls hP hD hS hl kon
        have he0 : i0 = 25 := by omega
        refine lv_iload_n hx hb dX0_startAnew_2 rfl (lv_at hl 1 rfl) ?_
        refine lv_bipush (v := 25) hx hb dX0_startAnew_3 (by decide) ?_
        refine lv_icmp_ge (tgt := 42) hx hb dX0_startAnew_5 (by decide) (fun c_1 => ?_) (fun c_1 => ?_)
        · subst he0
          exact kon H locs ls hP hD hS (lv_sub hl [0, 1] rfl)
        · exact absurd (nI_le (a := 25) (b := i0) (by omega) (by omega)) c_1
      | succ n0 ih0 =>
        intro i0 hi0 a0 H locs ls hP hD hS hl kon
        refine lv_iload_n hx hb dX0_startAnew_2 rfl (lv_at hl 1 rfl) ?_
        refine lv_bipush (v := 25) hx hb dX0_startAnew_3 (by decide) ?_
        refine lv_icmp_ge (tgt := 42) hx hb dX0_startAnew_5 (by decide) (fun c_2 => ?_) (fun c_2 => ?_)
        · exact absurd c_2 (nI_ge (a := i0) (b := 25) (by omega) (by omega))
        · refine lv_aload_n hx hb dX0_startAnew_8 rfl (lv_at hl 0 rfl) ?_
          refine va_get (D := D) (ci := 7) (v := .ref aB) (C := RX0) (T := TX0) (N := 6) hx hb hts in_X0 hown hK hP 0 rfl rfl 0 (by decide) (hts _ q_162) (fun _ h9 => h9) rfl dX0_startAnew_9 ?_
          refine lv_iload_n hx hb dX0_startAnew_12 rfl (lv_at hl 1 rfl) ?_
          refine lv_iconst (v := 0) hx hb dX0_startAnew_13 (by decide) ?_
          refine va_iast hx hb hK hP hD hS 1 1 rfl rfl (vp_in_nI (by omega) (by omega)) dX0_startAnew_14 (fun H locs hP hD hS => ?_)
          rw [nI_clamp (by omega)] at hP hD
          have hP : va_P D vwCl [(hF, .inr (7, [.ref aB, .ref aS, .ref aN, .ref aM, .int he, .int lu])), (aB, .inl ((D.1 101), 25, .inl (upd a0.1 i0 0))), (aS, .inl ((D.1 101), 25, .inl a0.2.1)), (aN, .inl ((D.1 101), 25, .inl a0.2.2.1)), (aM, .inl ((D.1 101), 25, .inl a0.2.2.2))] H := hP
          have hD : va_D A [(hF, .inr (7, [.ref aB, .ref aS, .ref aN, .ref aM, .int he, .int lu])), (aB, .inl ((D.1 101), 25, .inl (upd a0.1 i0 0))), (aS, .inl ((D.1 101), 25, .inl a0.2.1)), (aN, .inl ((D.1 101), 25, .inl a0.2.2.1)), (aM, .inl ((D.1 101), 25, .inl a0.2.2.2))] := hD
          refine lv_aload_n hx hb dX0_startAnew_15 rfl (lv_at hl 0 rfl) ?_
          refine va_get (D := D) (ci := 7) (v := .ref aS) (C := RX0) (T := TX0) (N := 6) hx hb hts in_X0 hown hK hP 0 rfl rfl 1 (by decide) (hts _ q_164) (fun _ h9 => h9) rfl dX0_startAnew_16 ?_
          refine lv_iload_n hx hb dX0_startAnew_19 rfl (lv_at hl 1 rfl) ?_
          refine lv_iconst (v := 0) hx hb dX0_startAnew_20 (by decide) ?_
          refine va_iast hx hb hK hP hD hS 2 1 rfl rfl (vp_in_nI (by omega) (by omega)) dX0_startAnew_21 (fun H locs hP hD hS => ?_)
          rw [nI_clamp (by omega)] at hP hD
          have hP : va_P D vwCl [(hF, .inr (7, [.ref aB, .ref aS, .ref aN, .ref aM, .int he, .int lu])), (aB, .inl ((D.1 101), 25, .inl (upd a0.1 i0 0))), (aS, .inl ((D.1 101), 25, .inl (upd a0.2.1 i0 0))), (aN, .inl ((D.1 101), 25, .inl a0.2.2.1)), (aM, .inl ((D.1 101), 25, .inl a0.2.2.2))] H := hP
          have hD : va_D A [(hF, .inr (7, [.ref aB, .ref aS, .ref aN, .ref aM, .int he, .int lu])), (aB, .inl ((D.1 101), 25, .inl (upd a0.1 i0 0))), (aS, .inl ((D.1 101), 25, .inl (upd a0.2.1 i0 0))), (aN, .inl ((D.1 101), 25, .inl a0.2.2.1)), (aM, .inl ((D.1 101), 25, .inl a0.2.2.2))] := hD
          refine lv_aload_n hx hb dX0_startAnew_22 rfl (lv_at hl 0 rfl) ?_
          refine va_get (D := D) (ci := 7) (v := .ref aN) (C := RX0) (T := TX0) (N := 6) hx hb hts in_X0 hown hK hP 0 rfl rfl 2 (by decide) (hts _ q_166) (fun _ h9 => h9) rfl dX0_startAnew_23 ?_
          refine lv_iload_n hx hb dX0_startAnew_26 rfl (lv_at hl 1 rfl) ?_
          refine lv_iconst (v := 0) hx hb dX0_startAnew_27 (by decide) ?_
          refine va_iast hx hb hK hP hD hS 3 1 rfl rfl (vp_in_nI (by omega) (by omega)) dX0_startAnew_28 (fun H locs hP hD hS => ?_)
          rw [nI_clamp (by omega)] at hP hD
          have hP : va_P D vwCl [(hF, .inr (7, [.ref aB, .ref aS, .ref aN, .ref aM, .int he, .int lu])), (aB, .inl ((D.1 101), 25, .inl (upd a0.1 i0 0))), (aS, .inl ((D.1 101), 25, .inl (upd a0.2.1 i0 0))), (aN, .inl ((D.1 101), 25, .inl (upd a0.2.2.1 i0 0))), (aM, .inl ((D.1 101), 25, .inl a0.2.2.2))] H := hP
          have hD : va_D A [(hF, .inr (7, [.ref aB, .ref aS, .ref aN, .ref aM, .int he, .int lu])), (aB, .inl ((D.1 101), 25, .inl (upd a0.1 i0 0))), (aS, .inl ((D.1 101), 25, .inl (upd a0.2.1 i0 0))), (aN, .inl ((D.1 101), 25, .inl (upd a0.2.2.1 i0 0))), (aM, .inl ((D.1 101), 25, .inl a0.2.2.2))] := hD
          refine lv_aload_n hx hb dX0_startAnew_29 rfl (lv_at hl 0 rfl) ?_
          refine va_get (D := D) (ci := 7) (v := .ref aM) (C := RX0) (T := TX0) (N := 6) hx hb hts in_X0 hown hK hP 0 rfl rfl 3 (by decide) (hts _ q_168) (fun _ h9 => h9) rfl dX0_startAnew_30 ?_
          refine lv_iload_n hx hb dX0_startAnew_33 rfl (lv_at hl 1 rfl) ?_
          refine lv_iconst (v := (-1)) hx hb dX0_startAnew_34 (by decide) ?_
          refine va_iast hx hb hK hP hD hS 4 1 rfl rfl (vp_in_nI (by omega) (by omega)) dX0_startAnew_35 (fun H locs hP hD hS => ?_)
          rw [nI_clamp (by omega)] at hP hD
          have hP : va_P D vwCl [(hF, .inr (7, [.ref aB, .ref aS, .ref aN, .ref aM, .int he, .int lu])), (aB, .inl ((D.1 101), 25, .inl (upd a0.1 i0 0))), (aS, .inl ((D.1 101), 25, .inl (upd a0.2.1 i0 0))), (aN, .inl ((D.1 101), 25, .inl (upd a0.2.2.1 i0 0))), (aM, .inl ((D.1 101), 25, .inl (upd a0.2.2.2 i0 (-1))))] H := hP
          have hD : va_D A [(hF, .inr (7, [.ref aB, .ref aS, .ref aN, .ref aM, .int he, .int lu])), (aB, .inl ((D.1 101), 25, .inl (upd a0.1 i0 0))), (aS, .inl ((D.1 101), 25, .inl (upd a0.2.1 i0 0))), (aN, .inl ((D.1 101), 25, .inl (upd a0.2.2.1 i0 0))), (aM, .inl ((D.1 101), 25, .inl (upd a0.2.2.2 i0 (-1))))] := hD
          refine lv_iinc (v := nI (i0 + 1)) (lv' := [(1, .int (nI (i0 + 1))), (0, .ref hF)]) hx hb dX0_startAnew_36 hl (k := 1) rfl (nI_1 _) (by decide) rfl (fun ls hl => ?_)
          refine lv_goto (tgt := 2) hx hb dX0_startAnew_39 (by decide) ?_
          have hE : S_X0_startAnew_2 i0 a0 = (upd a0.1 i0 0, upd a0.2.1 i0 0, upd a0.2.2.1 i0 0, upd a0.2.2.2 i0 (-1)) := (by rfl)
          have hl : lv_has ls 2 [(0, .ref hF), (1, .int (nI (i0 + 1)))] := lv_sub hl [1, 0] rfl
          have hP := hP.sub (ws' := [(hF, .inr (7, [.ref aB, .ref aS, .ref aN, .ref aM, .int he, .int lu])), (aB, .inl ((D.1 101), 25, .inl (upd a0.1 i0 0))), (aS, .inl ((D.1 101), 25, .inl (upd a0.2.1 i0 0))), (aN, .inl ((D.1 101), 25, .inl (upd a0.2.2.1 i0 0))), (aM, .inl ((D.1 101), 25, .inl (upd a0.2.2.2 i0 (-1))))]) [0, 1, 2, 3, 4] rfl
          have hD := hD.sub (ws' := [(hF, .inr (7, [.ref aB, .ref aS, .ref aN, .ref aM, .int he, .int lu])), (aB, .inl ((D.1 101), 25, .inl (upd a0.1 i0 0))), (aS, .inl ((D.1 101), 25, .inl (upd a0.2.1 i0 0))), (aN, .inl ((D.1 101), 25, .inl (upd a0.2.2.1 i0 0))), (aM, .inl ((D.1 101), 25, .inl (upd a0.2.2.2 i0 (-1))))]) [0, 1, 2, 3, 4] (by decide) rfl
          exact ih0 (i0 + 1) (by omega) (S_X0_startAnew_2 i0 a0) H locs ls (by (try rw [hE]); exact hP) (by (try rw [hE]); exact hD) hS (by (try rw [hE]); exact hl) kon
    have hl : lv_has ls 2 [(0, .ref hF), (1, .int (nI 0))] := lv_sub hl [1, 0] rfl
    refine lp_2 25 0 (by omega) (fB, fS, fN, fM) H locs ls hP hD hS hl ?_
    clear lp_2 hP hD hS hl
    intro H locs ls hP hD hS hl
    refine lv_aload_n hx hb dX0_startAnew_42 rfl (lv_at hl 0 rfl) ?_
    refine lv_iconst (v := 0) hx hb dX0_startAnew_43 (by decide) ?_
    refine va_put (D := D) (ci := 7) (v := .int 0) (ty := .int) (C := RX0) (T := TX0) (N := 6) hx hb hts in_X0 tyX0 tyX0_ok nmX0 hown hK hP hD hS 0 rfl rfl 4 (by decide) (hts _ q_170) (fun _ h9 => h9) rfl (by decide +kernel) rfl rfl (Nat.le_of_ble_eq_true rfl) dX0_startAnew_44 (fun H locs hP hD hS => ?_)
    have hP : va_P D vwCl [(hF, .inr (7, [.ref aB, .ref aS, .ref aN, .ref aM, .int 0, .int lu])), (aB, .inl ((D.1 101), 25, .inl ((itr (fun i a => S_X0_startAnew_2 i a) 25 0 (fB, fS, fN, fM)).1))), (aS, .inl ((D.1 101), 25, .inl ((itr (fun i a => S_X0_startAnew_2 i a) 25 0 (fB, fS, fN, fM)).2.1))), (aN, .inl ((D.1 101), 25, .inl ((itr (fun i a => S_X0_startAnew_2 i a) 25 0 (fB, fS, fN, fM)).2.2.1))), (aM, .inl ((D.1 101), 25, .inl ((itr (fun i a => S_X0_startAnew_2 i a) 25 0 (fB, fS, fN, fM)).2.2.2)))] H := hP
    have hD : va_D A [(hF, .inr (7, [.ref aB, .ref aS, .ref aN, .ref aM, .int 0, .int lu])), (aB, .inl ((D.1 101), 25, .inl ((itr (fun i a => S_X0_startAnew_2 i a) 25 0 (fB, fS, fN, fM)).1))), (aS, .inl ((D.1 101), 25, .inl ((itr (fun i a => S_X0_startAnew_2 i a) 25 0 (fB, fS, fN, fM)).2.1))), (aN, .inl ((D.1 101), 25, .inl ((itr (fun i a => S_X0_startAnew_2 i a) 25 0 (fB, fS, fN, fM)).2.2.1))), (aM, .inl ((D.1 101), 25, .inl ((itr (fun i a => S_X0_startAnew_2 i a) 25 0 (fB, fS, fN, fM)).2.2.2)))] := hD
    subst hQe
    subst hAe
    have hE : (F_X0_startAnew fB fS fN fM) = ((itr (fun i a => S_X0_startAnew_2 i a) 25 0 (fB, fS, fN, fM)).1, (itr (fun i a => S_X0_startAnew_2 i a) 25 0 (fB, fS, fN, fM)).2.1, (itr (fun i a => S_X0_startAnew_2 i a) 25 0 (fB, fS, fN, fM)).2.2.1, (itr (fun i a => S_X0_startAnew_2 i a) 25 0 (fB, fS, fN, fM)).2.2.2, 0) := (by rfl)
    have hP9 := hP.sub (ws' := [(hF, .inr (7, [.ref aB, .ref aS, .ref aN, .ref aM, .int 0, .int lu])), (aB, .inl ((D.1 101), 25, .inl ((itr (fun i a => S_X0_startAnew_2 i a) 25 0 (fB, fS, fN, fM)).1))), (aS, .inl ((D.1 101), 25, .inl ((itr (fun i a => S_X0_startAnew_2 i a) 25 0 (fB, fS, fN, fM)).2.1))), (aN, .inl ((D.1 101), 25, .inl ((itr (fun i a => S_X0_startAnew_2 i a) 25 0 (fB, fS, fN, fM)).2.2.1))), (aM, .inl ((D.1 101), 25, .inl ((itr (fun i a => S_X0_startAnew_2 i a) 25 0 (fB, fS, fN, fM)).2.2.2)))]) [0, 1, 2, 3, 4] rfl
    have hD9 := hD.sub (ws' := [(hF, .inr (7, [.ref aB, .ref aS, .ref aN, .ref aM, .int 0, .int lu])), (aB, .inl ((D.1 101), 25, .inl ((itr (fun i a => S_X0_startAnew_2 i a) 25 0 (fB, fS, fN, fM)).1))), (aS, .inl ((D.1 101), 25, .inl ((itr (fun i a => S_X0_startAnew_2 i a) 25 0 (fB, fS, fN, fM)).2.1))), (aN, .inl ((D.1 101), 25, .inl ((itr (fun i a => S_X0_startAnew_2 i a) 25 0 (fB, fS, fN, fM)).2.2.1))), (aM, .inl ((D.1 101), 25, .inl ((itr (fun i a => S_X0_startAnew_2 i a) 25 0 (fB, fS, fN, fM)).2.2.2)))]) [0, 1, 2, 3, 4] (by decide) rfl
    exact W.vret hx hb hr (fun t ht hW => ⟨⟨(), rfl, trivial, (by (try rw [hE]); rw [ht]; exact hP9), (by (try rw [hE]); exact hD9)⟩, hS.F ht⟩) hS.2.2 dX0_startAnew_47
  rw [hHe, hLe] at hgoal
  exact hgoal

def F_X2_isDue (fCn : Nat → Int32) (dn : Int32) (k : Nat) (x2 : Int32) (x3 : Int32) : Int32 × (Nat → Int32) := (if x2 = (F_X4_holds dn (nI k)) then (0, upd fCn k 0) else (if ((upd fCn k ((fCn k) + 1)) k) < x3 then (0, upd fCn k ((fCn k) + 1)) else (1, upd fCn k ((fCn k) + 1))))
set_option maxHeartbeats 4000000 in
set_option maxRecDepth 100000 in
theorem c_X2_isDue (l : Launch) (D : va_G) (hA_ : Nat) (aCn : Nat) (aE : Nat) (aLE : Nat) (fCn : Nat → Int32) (fE : Nat → Int32) (fLE : Nat → Int32) (dn : Int32) (ea : Int32) (k : Nat) (x2 : Int32) (x3 : Int32) (x1 : Int32) (sz : Nat) (hk : k < 25) (hx1 : x1 = nI k) : Met l yX2_isDue (Cond.code yX2_isDue cX2_isDue 4 (some .boolean) :: lwAll) ({ frames := 1, cells := 0, slots := 0, locals := 21 } : Room) (va_Pc [.ref hA_, .int x1, .int x2, .int x3] (cPre D (lwTY D) [(hA_, .inr (9, [.ref aCn, .ref aE, .ref aLE, .int dn, .int ea])), (aCn, .inl ((D.1 101), 25, .inl fCn)), (aE, .inl ((D.1 101), 25, .inl fE)), (aLE, .inl ((D.1 101), 25, .inl fLE))] sz)) (va_Qi (fun (r : Int32) (_ : Unit) => r = (F_X2_isDue fCn dn k x2 x3).1 ∧ (r = 0 ∨ r = 1)) (fun (_ : Unit) t => va_P D vwCl [(hA_, .inr (9, [.ref aCn, .ref aE, .ref aLE, .int dn, .int ea])), (aCn, .inl ((D.1 101), 25, .inl ((F_X2_isDue fCn dn k x2 x3).2))), (aE, .inl ((D.1 101), 25, .inl fE)), (aLE, .inl ((D.1 101), 25, .inl fLE))] t.heap ∧ va_D (va_A [(hA_, .inr (9, [.ref aCn, .ref aE, .ref aLE, .int dn, .int ea])), (aCn, .inl ((D.1 101), 25, .inl fCn)), (aE, .inl ((D.1 101), 25, .inl fE)), (aLE, .inl ((D.1 101), 25, .inl fLE))] sz) [(hA_, .inr (9, [.ref aCn, .ref aE, .ref aLE, .int dn, .int ea])), (aCn, .inl ((D.1 101), 25, .inl ((F_X2_isDue fCn dn k x2 x3).2))), (aE, .inl ((D.1 101), 25, .inl fE)), (aLE, .inl ((D.1 101), 25, .inl fLE))]) (va_A [(hA_, .inr (9, [.ref aCn, .ref aE, .ref aLE, .int dn, .int ea])), (aCn, .inl ((D.1 101), 25, .inl fCn)), (aE, .inl ((D.1 101), 25, .inl fE)), (aLE, .inl ((D.1 101), 25, .inl fLE))] sz)) 0 0 (va_A [(hA_, .inr (9, [.ref aCn, .ref aE, .ref aLE, .int dn, .int ea])), (aCn, .inl ((D.1 101), 25, .inl fCn)), (aE, .inl ((D.1 101), 25, .inl fE)), (aLE, .inl ((D.1 101), 25, .inl fLE))] sz) := by
  subst hx1
  refine Met.ofW (cc := cX2_isDue) (maxL := 4) (ret := (some .boolean)) (by decide) rfl ?_
  intro p e s m args below meth c s₁ B hml hv
  obtain ⟨rfl, hsz, hP, hK, hD0, hN, hZ⟩ := hv
  have hx := B.exec
  have hb := B.bytes
  have hr := B.returns
  have hts : ∀ wd ∈ lwAll, wd.before ([.ref hA_, .int (nI k), .int x2, .int x3] : List Value).toArray s = true := fun wd h => atoms_spec (ws := (Cond.code yX2_isDue cX2_isDue 4 (some .boolean) :: lwAll)) B.pre wd (List.mem_cons_of_mem _ h)
  have hown : s.vm.findClass RX2 = some m.cls := findClass_of_methodNamed B.named
  have hlocks := B.notSynchronized
  subst hsz
  have hD := hD0.self (sz := s.heap.size)
  have hl := lv_entry ([.ref hA_, .int (nI k), .int x2, .int x3]) (n := 4) (Nat.le_of_ble_eq_true rfl)
  rw [lg_entry_eq]
  generalize (lg_sl ([.ref hA_, .int (nI k), .int x2, .int x3]) ++ List.replicate (4 - (lg_sl ([.ref hA_, .int (nI k), .int x2, .int x3])).length) Slot.unset).toArray = ls at hl ⊢
  have hl : lv_has ls 4 [(0, .ref hA_), (1, .int (nI k)), (2, .int x2), (3, .int x3)] := hl
  have hS : va_S (va_A [(hA_, .inr (9, [.ref aCn, .ref aE, .ref aLE, .int dn, .int ea])), (aCn, .inl ((D.1 101), 25, .inl fCn)), (aE, .inl ((D.1 101), 25, .inl fE)), (aLE, .inl ((D.1 101), 25, .inl fLE))] s.heap.size) s.heap s.heap [] := va_S.rf
  generalize hQe : MQ below (va_Qi (fun (r : Int32) (_ : Unit) => r = (F_X2_isDue fCn dn k x2 x3).1 ∧ (r = 0 ∨ r = 1)) (fun (_ : Unit) t => va_P D vwCl [(hA_, .inr (9, [.ref aCn, .ref aE, .ref aLE, .int dn, .int ea])), (aCn, .inl ((D.1 101), 25, .inl ((F_X2_isDue fCn dn k x2 x3).2))), (aE, .inl ((D.1 101), 25, .inl fE)), (aLE, .inl ((D.1 101), 25, .inl fLE))] t.heap ∧ va_D (va_A [(hA_, .inr (9, [.ref aCn, .ref aE, .ref aLE, .int dn, .int ea])), (aCn, .inl ((D.1 101), 25, .inl fCn)), (aE, .inl ((D.1 101), 25, .inl fE)), (aLE, .inl ((D.1 101), 25, .inl fLE))] s.heap.size) [(hA_, .inr (9, [.ref aCn, .ref aE, .ref aLE, .int dn, .int ea])), (aCn, .inl ((D.1 101), 25, .inl ((F_X2_isDue fCn dn k x2 x3).2))), (aE, .inl ((D.1 101), 25, .inl fE)), (aLE, .inl ((D.1 101), 25, .inl fLE))]) (va_A [(hA_, .inr (9, [.ref aCn, .ref aE, .ref aLE, .int dn, .int ea])), (aCn, .inl ((D.1 101), 25, .inl fCn)), (aE, .inl ((D.1 101), 25, .inl fE)), (aLE, .inl ((D.1 101), 25, .inl fLE))] s.heap.size)) ([.ref hA_, .int (nI k), .int x2, .int x3] : List Value).toArray s 0 0 (va_A [(hA_, .inr (9, [.ref aCn, .ref aE, .ref aLE, .int dn, .int ea])), (aCn, .inl ((D.1 101), 25, .inl fCn)), (aE, .inl ((D.1 101), 25, .inl fE)), (aLE, .inl ((D.1 101), 25, .inl fLE))] s.heap.size) = Q
  have hP : va_P D vwCl [(hA_, .inr (9, [.ref aCn, .ref aE, .ref aLE, .int dn, .int ea])), (aCn, .inl ((D.1 101), 25, .inl fCn)), (aE, .inl ((D.1 101), 25, .inl fE)), (aLE, .inl ((D.1 101), 25, .inl fLE))] s.heap := hP
  obtain ⟨A, hAe⟩ : ∃ A, A = va_A [(hA_, .inr (9, [.ref aCn, .ref aE, .ref aLE, .int dn, .int ea])), (aCn, .inl ((D.1 101), 25, .inl fCn)), (aE, .inl ((D.1 101), 25, .inl fE)), (aLE, .inl ((D.1 101), 25, .inl fLE))] s.heap.size := ⟨_, rfl⟩
  rw [← hAe] at hD hZ hS
  have hA : ∀ q : Nat, s.heap.size ≤ q → A q := fun q h => by rw [hAe]; exact Or.inr h
  obtain ⟨H, hHe⟩ : ∃ H, H = s.heap := ⟨_, rfl⟩
  obtain ⟨locs, hLe⟩ : ∃ L : List Loc, L = [] := ⟨_, rfl⟩
  have hP : va_P D vwCl [(hA_, .inr (9, [.ref aCn, .ref aE, .ref aLE, .int dn, .int ea])), (aCn, .inl ((D.1 101), 25, .inl fCn)), (aE, .inl ((D.1 101), 25, .inl fE)), (aLE, .inl ((D.1 101), 25, .inl fLE))] H := by rw [hHe]; exact hP
  have hS : va_S A s.heap H locs := by rw [hHe, hLe]; exact hS
  have hgoal : W p l e ({ frames := 1, cells := 0, slots := 0, locals := 21 } : Room) s m ([.ref hA_, .int (nI k), .int x2, .int x3] : List Value).toArray below meth c H locs 0 0 Q (F0 m 0 ls []) := by
    clear hHe hLe
    refine lv_iload_n hx hb dX2_isDue_0 rfl (lv_at hl 2 rfl) ?_
    refine lv_aload_n hx hb dX2_isDue_1 rfl (lv_at hl 0 rfl) ?_
    refine va_get (D := D) (ci := 9) (v := .int dn) (C := RX2) (T := TX2) (N := 5) hx hb hts in_X2 hown hK hP 0 rfl rfl 3 (by decide) (hts _ q_200) (fun _ h9 => h9) rfl dX2_isDue_2 ?_
    refine lv_iload_n hx hb dX2_isDue_5 rfl (lv_at hl 1 rfl) ?_
    have hPc := hP.sub (ws' := []) [] rfl
    have hDc := hD.sub (ws' := []) [] (by decide) rfl
    have hFc := va_free (wc := []) hD hS hA [] rfl
    refine va_calli (va_runSN (As := [.int dn, .int (nI k)]) (rest := [.int x2]) ⟨hx, hb, hml, hown, hts⟩ (c_X4_holds l D dn (nI k) H.size ) ⟨va_cnB 2 hts (gi_sub q_713) rfl rfl rfl (hN.1 _ n_997) (hts _ q_80) (by decide +kernel) ⟨Nat.le_of_ble_eq_true rfl, Nat.le_of_ble_eq_true rfl⟩, (hts _ q_712), trivial⟩ ⟨cPre_blind, cPre_mk hPc hK hDc hN (lwZ_for hZ hS hFc)⟩ rfl rfl hl.1 rfl (lv_room (Nat.le_of_ble_eq_true rfl)) dX2_isDue_6 ⟨(Nat.le_of_ble_eq_true rfl), (Nat.le_of_ble_eq_true rfl)⟩) hS (fun q h1 h2 => absurd h2 (Nat.not_le.mpr h1)) (fun q h => hA q (Nat.le_trans hS.1 h)) (fun r_6 u t H1 locs ht hvm hw hBk hz1 hk1 hS => ?_)
    have hP := va_P_ro hP hk1
    obtain ⟨hw, z_1⟩ := hw
    rw [hw] at z_1
    subst hw
    clear hBk hvm ht u hz1 hk1
    clear hPc hDc hFc; clear t
    generalize H1 = H at hP hS ⊢
    refine lv_icmp_ne (tgt := 21) hx hb dX2_isDue_9 (by decide) (fun c_2 => ?_) (fun c_2 => ?_)
    · refine lv_aload_n hx hb dX2_isDue_21 rfl (lv_at hl 0 rfl) ?_
      refine va_get (D := D) (ci := 9) (v := .ref aCn) (C := RX2) (T := TX2) (N := 5) hx hb hts in_X2 hown hK hP 0 rfl rfl 0 (by decide) (hts _ q_194) (fun _ h9 => h9) rfl dX2_isDue_22 ?_
      refine lv_iload_n hx hb dX2_isDue_25 rfl (lv_at hl 1 rfl) ?_
      refine lv_dup2_11 hx hb dX2_isDue_26 rfl rfl ?_
      refine va_iald hx hb hK hP 1 1 rfl rfl (vp_in_nI (by omega) (by omega)) dX2_isDue_27 ?_
      rw [nI_clamp (by omega)]
      refine lv_iconst (v := 1) hx hb dX2_isDue_28 (by decide) ?_
      refine lv_iadd hx hb dX2_isDue_29 ?_
      refine va_iast hx hb hK hP hD hS 1 1 rfl rfl (vp_in_nI (by omega) (by omega)) dX2_isDue_30 (fun H locs hP hD hS => ?_)
      rw [nI_clamp (by omega)] at hP hD
      have hP : va_P D vwCl [(hA_, .inr (9, [.ref aCn, .ref aE, .ref aLE, .int dn, .int ea])), (aCn, .inl ((D.1 101), 25, .inl (upd fCn k ((fCn k) + 1)))), (aE, .inl ((D.1 101), 25, .inl fE)), (aLE, .inl ((D.1 101), 25, .inl fLE))] H := hP
      have hD : va_D A [(hA_, .inr (9, [.ref aCn, .ref aE, .ref aLE, .int dn, .int ea])), (aCn, .inl ((D.1 101), 25, .inl (upd fCn k ((fCn k) + 1)))), (aE, .inl ((D.1 101), 25, .inl fE)), (aLE, .inl ((D.1 101), 25, .inl fLE))] := hD
      refine lv_aload_n hx hb dX2_isDue_31 rfl (lv_at hl 0 rfl) ?_
      refine va_get (D := D) (ci := 9) (v := .ref aCn) (C := RX2) (T := TX2) (N := 5) hx hb hts in_X2 hown hK hP 0 rfl rfl 0 (by decide) (hts _ q_194) (fun _ h9 => h9) rfl dX2_isDue_32 ?_
      refine lv_iload_n hx hb dX2_isDue_35 rfl (lv_at hl 1 rfl) ?_
      refine va_iald hx hb hK hP 1 1 rfl rfl (vp_in_nI (by omega) (by omega)) dX2_isDue_36 ?_
      rw [nI_clamp (by omega)]
      refine lv_iload_n hx hb dX2_isDue_37 rfl (lv_at hl 3 rfl) ?_
      refine lv_icmp_lt (tgt := 45) hx hb dX2_isDue_38 (by decide) (fun c_3 => ?_) (fun c_3 => ?_)
      · refine lv_iconst (v := 0) hx hb dX2_isDue_45 (by decide) ?_
        subst hQe
        subst hAe
        have hE : (F_X2_isDue fCn dn k x2 x3) = (0, upd fCn k ((fCn k) + 1)) := (by unfold F_X2_isDue; rw [if_neg c_2, if_pos c_3])
        have hP9 := hP.sub (ws' := [(hA_, .inr (9, [.ref aCn, .ref aE, .ref aLE, .int dn, .int ea])), (aCn, .inl ((D.1 101), 25, .inl (upd fCn k ((fCn k) + 1)))), (aE, .inl ((D.1 101), 25, .inl fE)), (aLE, .inl ((D.1 101), 25, .inl fLE))]) [0, 1, 2, 3] rfl
        have hD9 := hD.sub (ws' := [(hA_, .inr (9, [.ref aCn, .ref aE, .ref aLE, .int dn, .int ea])), (aCn, .inl ((D.1 101), 25, .inl (upd fCn k ((fCn k) + 1)))), (aE, .inl ((D.1 101), 25, .inl fE)), (aLE, .inl ((D.1 101), 25, .inl fLE))]) [0, 1, 2, 3] (by decide) rfl
        exact W.zret (ty := .boolean) (v := 0) hx hb hr (zb_narrow zb_0) (fun t ht hW => ⟨⟨0, (), rfl, ⟨(by rw [hE]), zb_0⟩, (by (try rw [hE]); rw [ht]; exact hP9), (by (try rw [hE]); exact hD9)⟩, hS.F ht⟩) hS.2.2 dX2_isDue_46
      · refine lv_iconst (v := 1) hx hb dX2_isDue_41 (by decide) ?_
        refine lv_goto (tgt := 46) hx hb dX2_isDue_42 (by decide) ?_
        subst hQe
        subst hAe
        have hE : (F_X2_isDue fCn dn k x2 x3) = (1, upd fCn k ((fCn k) + 1)) := (by unfold F_X2_isDue; rw [if_neg c_2, if_neg c_3])
        have hP9 := hP.sub (ws' := [(hA_, .inr (9, [.ref aCn, .ref aE, .ref aLE, .int dn, .int ea])), (aCn, .inl ((D.1 101), 25, .inl (upd fCn k ((fCn k) + 1)))), (aE, .inl ((D.1 101), 25, .inl fE)), (aLE, .inl ((D.1 101), 25, .inl fLE))]) [0, 1, 2, 3] rfl
        have hD9 := hD.sub (ws' := [(hA_, .inr (9, [.ref aCn, .ref aE, .ref aLE, .int dn, .int ea])), (aCn, .inl ((D.1 101), 25, .inl (upd fCn k ((fCn k) + 1)))), (aE, .inl ((D.1 101), 25, .inl fE)), (aLE, .inl ((D.1 101), 25, .inl fLE))]) [0, 1, 2, 3] (by decide) rfl
        exact W.zret (ty := .boolean) (v := 1) hx hb hr (zb_narrow zb_1) (fun t ht hW => ⟨⟨1, (), rfl, ⟨(by rw [hE]), zb_1⟩, (by (try rw [hE]); rw [ht]; exact hP9), (by (try rw [hE]); exact hD9)⟩, hS.F ht⟩) hS.2.2 dX2_isDue_46
    · refine lv_aload_n hx hb dX2_isDue_12 rfl (lv_at hl 0 rfl) ?_
      refine va_get (D := D) (ci := 9) (v := .ref aCn) (C := RX2) (T := TX2) (N := 5) hx hb hts in_X2 hown hK hP 0 rfl rfl 0 (by decide) (hts _ q_194) (fun _ h9 => h9) rfl dX2_isDue_13 ?_
      refine lv_iload_n hx hb dX2_isDue_16 rfl (lv_at hl 1 rfl) ?_
      refine lv_iconst (v := 0) hx hb dX2_isDue_17 (by decide) ?_
      refine va_iast hx hb hK hP hD hS 1 1 rfl rfl (vp_in_nI (by omega) (by omega)) dX2_isDue_18 (fun H locs hP hD hS => ?_)
      rw [nI_clamp (by omega)] at hP hD
      have hP : va_P D vwCl [(hA_, .inr (9, [.ref aCn, .ref aE, .ref aLE, .int dn, .int ea])), (aCn, .inl ((D.1 101), 25, .inl (upd fCn k 0))), (aE, .inl ((D.1 101), 25, .inl fE)), (aLE, .inl ((D.1 101), 25, .inl fLE))] H := hP
      have hD : va_D A [(hA_, .inr (9, [.ref aCn, .ref aE, .ref aLE, .int dn, .int ea])), (aCn, .inl ((D.1 101), 25, .inl (upd fCn k 0))), (aE, .inl ((D.1 101), 25, .inl fE)), (aLE, .inl ((D.1 101), 25, .inl fLE))] := hD
      refine lv_iconst (v := 0) hx hb dX2_isDue_19 (by decide) ?_
      subst hQe
      subst hAe
      have hE : (F_X2_isDue fCn dn k x2 x3) = (0, upd fCn k 0) := (by unfold F_X2_isDue; rw [if_pos c_2])
      have hP9 := hP.sub (ws' := [(hA_, .inr (9, [.ref aCn, .ref aE, .ref aLE, .int dn, .int ea])), (aCn, .inl ((D.1 101), 25, .inl (upd fCn k 0))), (aE, .inl ((D.1 101), 25, .inl fE)), (aLE, .inl ((D.1 101), 25, .inl fLE))]) [0, 1, 2, 3] rfl
      have hD9 := hD.sub (ws' := [(hA_, .inr (9, [.ref aCn, .ref aE, .ref aLE, .int dn, .int ea])), (aCn, .inl ((D.1 101), 25, .inl (upd fCn k 0))), (aE, .inl ((D.1 101), 25, .inl fE)), (aLE, .inl ((D.1 101), 25, .inl fLE))]) [0, 1, 2, 3] (by decide) rfl
      exact W.zret (ty := .boolean) (v := 0) hx hb hr (zb_narrow zb_0) (fun t ht hW => ⟨⟨0, (), rfl, ⟨(by rw [hE]), zb_0⟩, (by (try rw [hE]); rw [ht]; exact hP9), (by (try rw [hE]); exact hD9)⟩, hS.F ht⟩) hS.2.2 dX2_isDue_20
  rw [hHe, hLe] at hgoal
  exact hgoal

def F_X2_change (fCn : Nat → Int32) (fE : Nat → Int32) (fLE : Nat → Int32) (dn : Int32) (ea : Int32) (k : Nat) (x2 : Int32) : (Nat → Int32) × (Nat → Int32) × (Nat → Int32) × Int32 × Int32 := (upd fCn k 0, upd fE k ((fE k) + 1), upd fLE k x2, dn ^^^ ((1 : Int32) <<< ((nI k) &&& 31)), ea + 1)
set_option maxHeartbeats 4000000 in
set_option maxRecDepth 100000 in
theorem c_X2_change (l : Launch) (D : va_G) (hA_ : Nat) (aCn : Nat) (aE : Nat) (aLE : Nat) (fCn : Nat → Int32) (fE : Nat → Int32) (fLE : Nat → Int32) (dn : Int32) (ea : Int32) (k : Nat) (x2 : Int32) (x1 : Int32) (sz : Nat) (hk : k < 25) (hx1 : x1 = nI k) : Met l yX2_change (Cond.code yX2_change cX2_change 3 none :: lwAll) ({ frames := 0, cells := 0, slots := 0, locals := 0 } : Room) (va_Pc [.ref hA_, .int x1, .int x2] (cPre D (lwTY D) [(hA_, .inr (9, [.ref aCn, .ref aE, .ref aLE, .int dn, .int ea])), (aCn, .inl ((D.1 101), 25, .inl fCn)), (aE, .inl ((D.1 101), 25, .inl fE)), (aLE, .inl ((D.1 101), 25, .inl fLE))] sz)) (va_Qv (fun (_ : Unit) => True) (fun (_ : Unit) t => va_P D vwCl [(hA_, .inr (9, [.ref aCn, .ref aE, .ref aLE, .int ((F_X2_change fCn fE fLE dn ea k x2).2.2.2.1), .int ((F_X2_change fCn fE fLE dn ea k x2).2.2.2.2)])), (aCn, .inl ((D.1 101), 25, .inl ((F_X2_change fCn fE fLE dn ea k x2).1))), (aE, .inl ((D.1 101), 25, .inl ((F_X2_change fCn fE fLE dn ea k x2).2.1))), (aLE, .inl ((D.1 101), 25, .inl ((F_X2_change fCn fE fLE dn ea k x2).2.2.1)))] t.heap ∧ va_D (va_A [(hA_, .inr (9, [.ref aCn, .ref aE, .ref aLE, .int dn, .int ea])), (aCn, .inl ((D.1 101), 25, .inl fCn)), (aE, .inl ((D.1 101), 25, .inl fE)), (aLE, .inl ((D.1 101), 25, .inl fLE))] sz) [(hA_, .inr (9, [.ref aCn, .ref aE, .ref aLE, .int ((F_X2_change fCn fE fLE dn ea k x2).2.2.2.1), .int ((F_X2_change fCn fE fLE dn ea k x2).2.2.2.2)])), (aCn, .inl ((D.1 101), 25, .inl ((F_X2_change fCn fE fLE dn ea k x2).1))), (aE, .inl ((D.1 101), 25, .inl ((F_X2_change fCn fE fLE dn ea k x2).2.1))), (aLE, .inl ((D.1 101), 25, .inl ((F_X2_change fCn fE fLE dn ea k x2).2.2.1)))]) (va_A [(hA_, .inr (9, [.ref aCn, .ref aE, .ref aLE, .int dn, .int ea])), (aCn, .inl ((D.1 101), 25, .inl fCn)), (aE, .inl ((D.1 101), 25, .inl fE)), (aLE, .inl ((D.1 101), 25, .inl fLE))] sz)) 0 0 (va_A [(hA_, .inr (9, [.ref aCn, .ref aE, .ref aLE, .int dn, .int ea])), (aCn, .inl ((D.1 101), 25, .inl fCn)), (aE, .inl ((D.1 101), 25, .inl fE)), (aLE, .inl ((D.1 101), 25, .inl fLE))] sz) := by
  subst hx1
  refine Met.ofW (cc := cX2_change) (maxL := 3) (ret := none) (by decide) rfl ?_
  intro p e s m args below meth c s₁ B hml hv
  obtain ⟨rfl, hsz, hP, hK, hD0, hN, hZ⟩ := hv
  have hx := B.exec
  have hb := B.bytes
  have hr := B.returns
  have hts : ∀ wd ∈ lwAll, wd.before ([.ref hA_, .int (nI k), .int x2] : List Value).toArray s = true := fun wd h => atoms_spec (ws := (Cond.code yX2_change cX2_change 3 none :: lwAll)) B.pre wd (List.mem_cons_of_mem _ h)
  have hown : s.vm.findClass RX2 = some m.cls := findClass_of_methodNamed B.named
  have hlocks := B.notSynchronized
  subst hsz
  have hD := hD0.self (sz := s.heap.size)
  have hl := lv_entry ([.ref hA_, .int (nI k), .int x2]) (n := 3) (Nat.le_of_ble_eq_true rfl)
  rw [lg_entry_eq]
  generalize (lg_sl ([.ref hA_, .int (nI k), .int x2]) ++ List.replicate (3 - (lg_sl ([.ref hA_, .int (nI k), .int x2])).length) Slot.unset).toArray = ls at hl ⊢
  have hl : lv_has ls 3 [(0, .ref hA_), (1, .int (nI k)), (2, .int x2)] := hl
  have hS : va_S (va_A [(hA_, .inr (9, [.ref aCn, .ref aE, .ref aLE, .int dn, .int ea])), (aCn, .inl ((D.1 101), 25, .inl fCn)), (aE, .inl ((D.1 101), 25, .inl fE)), (aLE, .inl ((D.1 101), 25, .inl fLE))] s.heap.size) s.heap s.heap [] := va_S.rf
  generalize hQe : MQ below (va_Qv (fun (_ : Unit) => True) (fun (_ : Unit) t => va_P D vwCl [(hA_, .inr (9, [.ref aCn, .ref aE, .ref aLE, .int ((F_X2_change fCn fE fLE dn ea k x2).2.2.2.1), .int ((F_X2_change fCn fE fLE dn ea k x2).2.2.2.2)])), (aCn, .inl ((D.1 101), 25, .inl ((F_X2_change fCn fE fLE dn ea k x2).1))), (aE, .inl ((D.1 101), 25, .inl ((F_X2_change fCn fE fLE dn ea k x2).2.1))), (aLE, .inl ((D.1 101), 25, .inl ((F_X2_change fCn fE fLE dn ea k x2).2.2.1)))] t.heap ∧ va_D (va_A [(hA_, .inr (9, [.ref aCn, .ref aE, .ref aLE, .int dn, .int ea])), (aCn, .inl ((D.1 101), 25, .inl fCn)), (aE, .inl ((D.1 101), 25, .inl fE)), (aLE, .inl ((D.1 101), 25, .inl fLE))] s.heap.size) [(hA_, .inr (9, [.ref aCn, .ref aE, .ref aLE, .int ((F_X2_change fCn fE fLE dn ea k x2).2.2.2.1), .int ((F_X2_change fCn fE fLE dn ea k x2).2.2.2.2)])), (aCn, .inl ((D.1 101), 25, .inl ((F_X2_change fCn fE fLE dn ea k x2).1))), (aE, .inl ((D.1 101), 25, .inl ((F_X2_change fCn fE fLE dn ea k x2).2.1))), (aLE, .inl ((D.1 101), 25, .inl ((F_X2_change fCn fE fLE dn ea k x2).2.2.1)))]) (va_A [(hA_, .inr (9, [.ref aCn, .ref aE, .ref aLE, .int dn, .int ea])), (aCn, .inl ((D.1 101), 25, .inl fCn)), (aE, .inl ((D.1 101), 25, .inl fE)), (aLE, .inl ((D.1 101), 25, .inl fLE))] s.heap.size)) ([.ref hA_, .int (nI k), .int x2] : List Value).toArray s 0 0 (va_A [(hA_, .inr (9, [.ref aCn, .ref aE, .ref aLE, .int dn, .int ea])), (aCn, .inl ((D.1 101), 25, .inl fCn)), (aE, .inl ((D.1 101), 25, .inl fE)), (aLE, .inl ((D.1 101), 25, .inl fLE))] s.heap.size) = Q
  have hP : va_P D vwCl [(hA_, .inr (9, [.ref aCn, .ref aE, .ref aLE, .int dn, .int ea])), (aCn, .inl ((D.1 101), 25, .inl fCn)), (aE, .inl ((D.1 101), 25, .inl fE)), (aLE, .inl ((D.1 101), 25, .inl fLE))] s.heap := hP
  obtain ⟨A, hAe⟩ : ∃ A, A = va_A [(hA_, .inr (9, [.ref aCn, .ref aE, .ref aLE, .int dn, .int ea])), (aCn, .inl ((D.1 101), 25, .inl fCn)), (aE, .inl ((D.1 101), 25, .inl fE)), (aLE, .inl ((D.1 101), 25, .inl fLE))] s.heap.size := ⟨_, rfl⟩
  rw [← hAe] at hD hZ hS
  have hA : ∀ q : Nat, s.heap.size ≤ q → A q := fun q h => by rw [hAe]; exact Or.inr h
  obtain ⟨H, hHe⟩ : ∃ H, H = s.heap := ⟨_, rfl⟩
  obtain ⟨locs, hLe⟩ : ∃ L : List Loc, L = [] := ⟨_, rfl⟩
  have hP : va_P D vwCl [(hA_, .inr (9, [.ref aCn, .ref aE, .ref aLE, .int dn, .int ea])), (aCn, .inl ((D.1 101), 25, .inl fCn)), (aE, .inl ((D.1 101), 25, .inl fE)), (aLE, .inl ((D.1 101), 25, .inl fLE))] H := by rw [hHe]; exact hP
  have hS : va_S A s.heap H locs := by rw [hHe, hLe]; exact hS
  have hgoal : W p l e ({ frames := 0, cells := 0, slots := 0, locals := 0 } : Room) s m ([.ref hA_, .int (nI k), .int x2] : List Value).toArray below meth c H locs 0 0 Q (F0 m 0 ls []) := by
    clear hHe hLe
    refine lv_aload_n hx hb dX2_change_0 rfl (lv_at hl 0 rfl) ?_
    refine lv_dup hx hb dX2_change_1 rfl ?_
    refine va_get (D := D) (ci := 9) (v := .int dn) (C := RX2) (T := TX2) (N := 5) hx hb hts in_X2 hown hK hP 0 rfl rfl 3 (by decide) (hts _ q_200) (fun _ h9 => h9) rfl dX2_change_2 ?_
    refine lv_iconst (v := 1) hx hb dX2_change_5 (by decide) ?_
    refine lv_iload_n hx hb dX2_change_6 rfl (lv_at hl 1 rfl) ?_
    refine lv_ishl hx hb dX2_change_7 ?_
    refine lv_ixor hx hb dX2_change_8 ?_
    refine va_put (D := D) (ci := 9) (v := .int (dn ^^^ ((1 : Int32) <<< ((nI k) &&& 31)))) (ty := .int) (C := RX2) (T := TX2) (N := 5) hx hb hts in_X2 tyX2 tyX2_ok nmX2 hown hK hP hD hS 0 rfl rfl 3 (by decide) (hts _ q_200) (fun _ h9 => h9) rfl (by decide +kernel) rfl rfl (Nat.le_of_ble_eq_true rfl) dX2_change_9 (fun H locs hP hD hS => ?_)
    have hP : va_P D vwCl [(hA_, .inr (9, [.ref aCn, .ref aE, .ref aLE, .int (dn ^^^ ((1 : Int32) <<< ((nI k) &&& 31))), .int ea])), (aCn, .inl ((D.1 101), 25, .inl fCn)), (aE, .inl ((D.1 101), 25, .inl fE)), (aLE, .inl ((D.1 101), 25, .inl fLE))] H := hP
    have hD : va_D A [(hA_, .inr (9, [.ref aCn, .ref aE, .ref aLE, .int (dn ^^^ ((1 : Int32) <<< ((nI k) &&& 31))), .int ea])), (aCn, .inl ((D.1 101), 25, .inl fCn)), (aE, .inl ((D.1 101), 25, .inl fE)), (aLE, .inl ((D.1 101), 25, .inl fLE))] := hD
    refine lv_aload_n hx hb dX2_change_12 rfl (lv_at hl 0 rfl) ?_
    refine va_get (D := D) (ci := 9) (v := .ref aCn) (C := RX2) (T := TX2) (N := 5) hx hb hts in_X2 hown hK hP 0 rfl rfl 0 (by decide) (hts _ q_194) (fun _ h9 => h9) rfl dX2_change_13 ?_
    refine lv_iload_n hx hb dX2_change_16 rfl (lv_at hl 1 rfl) ?_
    refine lv_iconst (v := 0) hx hb dX2_change_17 (by decide) ?_
    refine va_iast hx hb hK hP hD hS 1 1 rfl rfl (vp_in_nI (by omega) (by omega)) dX2_change_18 (fun H locs hP hD hS => ?_)
    rw [nI_clamp (by omega)] at hP hD
    have hP : va_P D vwCl [(hA_, .inr (9, [.ref aCn, .ref aE, .ref aLE, .int (dn ^^^ ((1 : Int32) <<< ((nI k) &&& 31))), .int ea])), (aCn, .inl ((D.1 101), 25, .inl (upd fCn k 0))), (aE, .inl ((D.1 101), 25, .inl fE)), (aLE, .inl ((D.1 101), 25, .inl fLE))] H := hP
    have hD : va_D A [(hA_, .inr (9, [.ref aCn, .ref aE, .ref aLE, .int (dn ^^^ ((1 : Int32) <<< ((nI k) &&& 31))), .int ea])), (aCn, .inl ((D.1 101), 25, .inl (upd fCn k 0))), (aE, .inl ((D.1 101), 25, .inl fE)), (aLE, .inl ((D.1 101), 25, .inl fLE))] := hD
    refine lv_aload_n hx hb dX2_change_19 rfl (lv_at hl 0 rfl) ?_
    refine va_get (D := D) (ci := 9) (v := .ref aE) (C := RX2) (T := TX2) (N := 5) hx hb hts in_X2 hown hK hP 0 rfl rfl 1 (by decide) (hts _ q_196) (fun _ h9 => h9) rfl dX2_change_20 ?_
    refine lv_iload_n hx hb dX2_change_23 rfl (lv_at hl 1 rfl) ?_
    refine lv_dup2_11 hx hb dX2_change_24 rfl rfl ?_
    refine va_iald hx hb hK hP 2 1 rfl rfl (vp_in_nI (by omega) (by omega)) dX2_change_25 ?_
    rw [nI_clamp (by omega)]
    refine lv_iconst (v := 1) hx hb dX2_change_26 (by decide) ?_
    refine lv_iadd hx hb dX2_change_27 ?_
    refine va_iast hx hb hK hP hD hS 2 1 rfl rfl (vp_in_nI (by omega) (by omega)) dX2_change_28 (fun H locs hP hD hS => ?_)
    rw [nI_clamp (by omega)] at hP hD
    have hP : va_P D vwCl [(hA_, .inr (9, [.ref aCn, .ref aE, .ref aLE, .int (dn ^^^ ((1 : Int32) <<< ((nI k) &&& 31))), .int ea])), (aCn, .inl ((D.1 101), 25, .inl (upd fCn k 0))), (aE, .inl ((D.1 101), 25, .inl (upd fE k ((fE k) + 1)))), (aLE, .inl ((D.1 101), 25, .inl fLE))] H := hP
    have hD : va_D A [(hA_, .inr (9, [.ref aCn, .ref aE, .ref aLE, .int (dn ^^^ ((1 : Int32) <<< ((nI k) &&& 31))), .int ea])), (aCn, .inl ((D.1 101), 25, .inl (upd fCn k 0))), (aE, .inl ((D.1 101), 25, .inl (upd fE k ((fE k) + 1)))), (aLE, .inl ((D.1 101), 25, .inl fLE))] := hD
    refine lv_aload_n hx hb dX2_change_29 rfl (lv_at hl 0 rfl) ?_
    refine va_get (D := D) (ci := 9) (v := .ref aLE) (C := RX2) (T := TX2) (N := 5) hx hb hts in_X2 hown hK hP 0 rfl rfl 2 (by decide) (hts _ q_198) (fun _ h9 => h9) rfl dX2_change_30 ?_
    refine lv_iload_n hx hb dX2_change_33 rfl (lv_at hl 1 rfl) ?_
    refine lv_iload_n hx hb dX2_change_34 rfl (lv_at hl 2 rfl) ?_
    refine va_iast hx hb hK hP hD hS 3 1 rfl rfl (vp_in_nI (by omega) (by omega)) dX2_change_35 (fun H locs hP hD hS => ?_)
    rw [nI_clamp (by omega)] at hP hD
    have hP : va_P D vwCl [(hA_, .inr (9, [.ref aCn, .ref aE, .ref aLE, .int (dn ^^^ ((1 : Int32) <<< ((nI k) &&& 31))), .int ea])), (aCn, .inl ((D.1 101), 25, .inl (upd fCn k 0))), (aE, .inl ((D.1 101), 25, .inl (upd fE k ((fE k) + 1)))), (aLE, .inl ((D.1 101), 25, .inl (upd fLE k x2)))] H := hP
    have hD : va_D A [(hA_, .inr (9, [.ref aCn, .ref aE, .ref aLE, .int (dn ^^^ ((1 : Int32) <<< ((nI k) &&& 31))), .int ea])), (aCn, .inl ((D.1 101), 25, .inl (upd fCn k 0))), (aE, .inl ((D.1 101), 25, .inl (upd fE k ((fE k) + 1)))), (aLE, .inl ((D.1 101), 25, .inl (upd fLE k x2)))] := hD
    refine lv_aload_n hx hb dX2_change_36 rfl (lv_at hl 0 rfl) ?_
    refine lv_dup hx hb dX2_change_37 rfl ?_
    refine va_get (D := D) (ci := 9) (v := .int ea) (C := RX2) (T := TX2) (N := 5) hx hb hts in_X2 hown hK hP 0 rfl rfl 4 (by decide) (hts _ q_202) (fun _ h9 => h9) rfl dX2_change_38 ?_
    refine lv_iconst (v := 1) hx hb dX2_change_41 (by decide) ?_
    refine lv_iadd hx hb dX2_change_42 ?_
    refine va_put (D := D) (ci := 9) (v := .int (ea + 1)) (ty := .int) (C := RX2) (T := TX2) (N := 5) hx hb hts in_X2 tyX2 tyX2_ok nmX2 hown hK hP hD hS 0 rfl rfl 4 (by decide) (hts _ q_202) (fun _ h9 => h9) rfl (by decide +kernel) rfl rfl (Nat.le_of_ble_eq_true rfl) dX2_change_43 (fun H locs hP hD hS => ?_)
    have hP : va_P D vwCl [(hA_, .inr (9, [.ref aCn, .ref aE, .ref aLE, .int (dn ^^^ ((1 : Int32) <<< ((nI k) &&& 31))), .int (ea + 1)])), (aCn, .inl ((D.1 101), 25, .inl (upd fCn k 0))), (aE, .inl ((D.1 101), 25, .inl (upd fE k ((fE k) + 1)))), (aLE, .inl ((D.1 101), 25, .inl (upd fLE k x2)))] H := hP
    have hD : va_D A [(hA_, .inr (9, [.ref aCn, .ref aE, .ref aLE, .int (dn ^^^ ((1 : Int32) <<< ((nI k) &&& 31))), .int (ea + 1)])), (aCn, .inl ((D.1 101), 25, .inl (upd fCn k 0))), (aE, .inl ((D.1 101), 25, .inl (upd fE k ((fE k) + 1)))), (aLE, .inl ((D.1 101), 25, .inl (upd fLE k x2)))] := hD
    subst hQe
    subst hAe
    have hE : (F_X2_change fCn fE fLE dn ea k x2) = (upd fCn k 0, upd fE k ((fE k) + 1), upd fLE k x2, dn ^^^ ((1 : Int32) <<< ((nI k) &&& 31)), ea + 1) := (by rfl)
    have hP9 := hP.sub (ws' := [(hA_, .inr (9, [.ref aCn, .ref aE, .ref aLE, .int (dn ^^^ ((1 : Int32) <<< ((nI k) &&& 31))), .int (ea + 1)])), (aCn, .inl ((D.1 101), 25, .inl (upd fCn k 0))), (aE, .inl ((D.1 101), 25, .inl (upd fE k ((fE k) + 1)))), (aLE, .inl ((D.1 101), 25, .inl (upd fLE k x2)))]) [0, 1, 2, 3] rfl
    have hD9 := hD.sub (ws' := [(hA_, .inr (9, [.ref aCn, .ref aE, .ref aLE, .int (dn ^^^ ((1 : Int32) <<< ((nI k) &&& 31))), .int (ea + 1)])), (aCn, .inl ((D.1 101), 25, .inl (upd fCn k 0))), (aE, .inl ((D.1 101), 25, .inl (upd fE k ((fE k) + 1)))), (aLE, .inl ((D.1 101), 25, .inl (upd fLE k x2)))]) [0, 1, 2, 3] (by decide) rfl
    exact W.vret hx hb hr (fun t ht hW => ⟨⟨(), rfl, trivial, (by (try rw [hE]); rw [ht]; exact hP9), (by (try rw [hE]); exact hD9)⟩, hS.F ht⟩) hS.2.2 dX2_change_46
  rw [hHe, hLe] at hgoal
  exact hgoal

def S_X2_startAnew_2  (i0 : Nat) (a0 : (Nat → Int32) × (Nat → Int32) × (Nat → Int32)) : (Nat → Int32) × (Nat → Int32) × (Nat → Int32) := (upd a0.1 i0 0, upd a0.2.1 i0 0, upd a0.2.2 i0 0)
def F_X2_startAnew (fCn : Nat → Int32) (fE : Nat → Int32) (fLE : Nat → Int32) : (Nat → Int32) × (Nat → Int32) × (Nat → Int32) × Int32 × Int32 := ((itr (fun i a => S_X2_startAnew_2 i a) 25 0 (fCn, fE, fLE)).1, (itr (fun i a => S_X2_startAnew_2 i a) 25 0 (fCn, fE, fLE)).2.1, (itr (fun i a => S_X2_startAnew_2 i a) 25 0 (fCn, fE, fLE)).2.2, 0, 0)
set_option maxHeartbeats 4000000 in
set_option maxRecDepth 100000 in
theorem c_X2_startAnew (l : Launch) (D : va_G) (hA_ : Nat) (aCn : Nat) (aE : Nat) (aLE : Nat) (fCn : Nat → Int32) (fE : Nat → Int32) (fLE : Nat → Int32) (dn : Int32) (ea : Int32) (sz : Nat)  : Met l yX2_startAnew (Cond.code yX2_startAnew cX2_startAnew 2 none :: lwAll) ({ frames := 0, cells := 0, slots := 0, locals := 0 } : Room) (va_Pc [.ref hA_] (cPre D (lwTY D) [(hA_, .inr (9, [.ref aCn, .ref aE, .ref aLE, .int dn, .int ea])), (aCn, .inl ((D.1 101), 25, .inl fCn)), (aE, .inl ((D.1 101), 25, .inl fE)), (aLE, .inl ((D.1 101), 25, .inl fLE))] sz)) (va_Qv (fun (_ : Unit) => True) (fun (_ : Unit) t => va_P D vwCl [(hA_, .inr (9, [.ref aCn, .ref aE, .ref aLE, .int ((F_X2_startAnew fCn fE fLE).2.2.2.1), .int ((F_X2_startAnew fCn fE fLE).2.2.2.2)])), (aCn, .inl ((D.1 101), 25, .inl ((F_X2_startAnew fCn fE fLE).1))), (aE, .inl ((D.1 101), 25, .inl ((F_X2_startAnew fCn fE fLE).2.1))), (aLE, .inl ((D.1 101), 25, .inl ((F_X2_startAnew fCn fE fLE).2.2.1)))] t.heap ∧ va_D (va_A [(hA_, .inr (9, [.ref aCn, .ref aE, .ref aLE, .int dn, .int ea])), (aCn, .inl ((D.1 101), 25, .inl fCn)), (aE, .inl ((D.1 101), 25, .inl fE)), (aLE, .inl ((D.1 101), 25, .inl fLE))] sz) [(hA_, .inr (9, [.ref aCn, .ref aE, .ref aLE, .int ((F_X2_startAnew fCn fE fLE).2.2.2.1), .int ((F_X2_startAnew fCn fE fLE).2.2.2.2)])), (aCn, .inl ((D.1 101), 25, .inl ((F_X2_startAnew fCn fE fLE).1))), (aE, .inl ((D.1 101), 25, .inl ((F_X2_startAnew fCn fE fLE).2.1))), (aLE, .inl ((D.1 101), 25, .inl ((F_X2_startAnew fCn fE fLE).2.2.1)))]) (va_A [(hA_, .inr (9, [.ref aCn, .ref aE, .ref aLE, .int dn, .int ea])), (aCn, .inl ((D.1 101), 25, .inl fCn)), (aE, .inl ((D.1 101), 25, .inl fE)), (aLE, .inl ((D.1 101), 25, .inl fLE))] sz)) 0 0 (va_A [(hA_, .inr (9, [.ref aCn, .ref aE, .ref aLE, .int dn, .int ea])), (aCn, .inl ((D.1 101), 25, .inl fCn)), (aE, .inl ((D.1 101), 25, .inl fE)), (aLE, .inl ((D.1 101), 25, .inl fLE))] sz) := by
  refine Met.ofW (cc := cX2_startAnew) (maxL := 2) (ret := none) (by decide) rfl ?_
  intro p e s m args below meth c s₁ B hml hv
  obtain ⟨rfl, hsz, hP, hK, hD0, hN, hZ⟩ := hv
  have hx := B.exec
  have hb := B.bytes
  have hr := B.returns
  have hts : ∀ wd ∈ lwAll, wd.before ([.ref hA_] : List Value).toArray s = true := fun wd h => atoms_spec (ws := (Cond.code yX2_startAnew cX2_startAnew 2 none :: lwAll)) B.pre wd (List.mem_cons_of_mem _ h)
  have hown : s.vm.findClass RX2 = some m.cls := findClass_of_methodNamed B.named
  have hlocks := B.notSynchronized
  subst hsz
  have hD := hD0.self (sz := s.heap.size)
  have hl := lv_entry ([.ref hA_]) (n := 2) (Nat.le_of_ble_eq_true rfl)
  rw [lg_entry_eq]
  generalize (lg_sl ([.ref hA_]) ++ List.replicate (2 - (lg_sl ([.ref hA_])).length) Slot.unset).toArray = ls at hl ⊢
  have hl : lv_has ls 2 [(0, .ref hA_)] := hl
  have hS : va_S (va_A [(hA_, .inr (9, [.ref aCn, .ref aE, .ref aLE, .int dn, .int ea])), (aCn, .inl ((D.1 101), 25, .inl fCn)), (aE, .inl ((D.1 101), 25, .inl fE)), (aLE, .inl ((D.1 101), 25, .inl fLE))] s.heap.size) s.heap s.heap [] := va_S.rf
  generalize hQe : MQ below (va_Qv (fun (_ : Unit) => True) (fun (_ : Unit) t => va_P D vwCl [(hA_, .inr (9, [.ref aCn, .ref aE, .ref aLE, .int ((F_X2_startAnew fCn fE fLE).2.2.2.1), .int ((F_X2_startAnew fCn fE fLE).2.2.2.2)])), (aCn, .inl ((D.1 101), 25, .inl ((F_X2_startAnew fCn fE fLE).1))), (aE, .inl ((D.1 101), 25, .inl ((F_X2_startAnew fCn fE fLE).2.1))), (aLE, .inl ((D.1 101), 25, .inl ((F_X2_startAnew fCn fE fLE).2.2.1)))] t.heap ∧ va_D (va_A [(hA_, .inr (9, [.ref aCn, .ref aE, .ref aLE, .int dn, .int ea])), (aCn, .inl ((D.1 101), 25, .inl fCn)), (aE, .inl ((D.1 101), 25, .inl fE)), (aLE, .inl ((D.1 101), 25, .inl fLE))] s.heap.size) [(hA_, .inr (9, [.ref aCn, .ref aE, .ref aLE, .int ((F_X2_startAnew fCn fE fLE).2.2.2.1), .int ((F_X2_startAnew fCn fE fLE).2.2.2.2)])), (aCn, .inl ((D.1 101), 25, .inl ((F_X2_startAnew fCn fE fLE).1))), (aE, .inl ((D.1 101), 25, .inl ((F_X2_startAnew fCn fE fLE).2.1))), (aLE, .inl ((D.1 101), 25, .inl ((F_X2_startAnew fCn fE fLE).2.2.1)))]) (va_A [(hA_, .inr (9, [.ref aCn, .ref aE, .ref aLE, .int dn, .int ea])), (aCn, .inl ((D.1 101), 25, .inl fCn)), (aE, .inl ((D.1 101), 25, .inl fE)), (aLE, .inl ((D.1 101), 25, .inl fLE))] s.heap.size)) ([.ref hA_] : List Value).toArray s 0 0 (va_A [(hA_, .inr (9, [.ref aCn, .ref aE, .ref aLE, .int dn, .int ea])), (aCn, .inl ((D.1 101), 25, .inl fCn)), (aE, .inl ((D.1 101), 25, .inl fE)), (aLE, .inl ((D.1 101), 25, .inl fLE))] s.heap.size) = Q
  have hP : va_P D vwCl [(hA_, .inr (9, [.ref aCn, .ref aE, .ref aLE, .int dn, .int ea])), (aCn, .inl ((D.1 101), 25, .inl fCn)), (aE, .inl ((D.1 101), 25, .inl fE)), (aLE, .inl ((D.1 101), 25, .inl fLE))] s.heap := hP
  obtain ⟨A, hAe⟩ : ∃ A, A = va_A [(hA_, .inr (9, [.ref aCn, .ref aE, .ref aLE, .int dn, .int ea])), (aCn, .inl ((D.1 101), 25, .inl fCn)), (aE, .inl ((D.1 101), 25, .inl fE)), (aLE, .inl ((D.1 101), 25, .inl fLE))] s.heap.size := ⟨_, rfl⟩
  rw [← hAe] at hD hZ hS
  have hA : ∀ q : Nat, s.heap.size ≤ q → A q := fun q h => by rw [hAe]; exact Or.inr h
  obtain ⟨H, hHe⟩ : ∃ H, H = s.heap := ⟨_, rfl⟩
  obtain ⟨locs, hLe⟩ : ∃ L : List Loc, L = [] := ⟨_, rfl⟩
  have hP : va_P D vwCl [(hA_, .inr (9, [.ref aCn, .ref aE, .ref aLE, .int dn, .int ea])), (aCn, .inl ((D.1 101), 25, .inl fCn)), (aE, .inl ((D.1 101), 25, .inl fE)), (aLE, .inl ((D.1 101), 25, .inl fLE))] H := by rw [hHe]; exact hP
  have hS : va_S A s.heap H locs := by rw [hHe, hLe]; exact hS
  have hgoal : W p l e ({ frames := 0, cells := 0, slots := 0, locals := 0 } : Room) s m ([.ref hA_] : List Value).toArray below meth c H locs 0 0 Q (F0 m 0 ls []) := by
    clear hHe hLe
    refine lv_iconst (v := 0) hx hb dX2_startAnew_0 (by decide) ?_
    refine lv_istore_n (lv' := [(1, .int 0), (0, .ref hA_)]) hx hb dX2_startAnew_1 rfl hl (by decide) rfl (fun ls hl => ?_)
    have lp_2 : ∀ (n0 i0 : Nat), i0 + n0 = 25 → ∀ (a0 : (Nat → Int32) × (Nat → Int32) × (Nat → Int32)) (H : Heap) (locs : List Loc) (ls : Array Slot), va_P D vwCl [(hA_, .inr (9, [.ref aCn, .ref aE, .ref aLE, .int dn, .int ea])), (aCn, .inl ((D.1 101), 25, .inl a0.1)), (aE, .inl ((D.1 101), 25, .inl a0.2.1)), (aLE, .inl ((D.1 101), 25, .inl a0.2.2))] H → va_D A [(hA_, .inr (9, [.ref aCn, .ref aE, .ref aLE, .int dn, .int ea])), (aCn, .inl ((D.1 101), 25, .inl a0.1)), (aE, .inl ((D.1 101), 25, .inl a0.2.1)), (aLE, .inl ((D.1 101), 25, .inl a0.2.2))] → va_S A s.heap H locs → lv_has ls 2 [(0, .ref hA_), (1, .int (nI i0))] → (∀ (H : Heap) (locs : List Loc) (ls : Array Slot), va_P D vwCl [(hA_, .inr (9, [.ref aCn, .ref aE, .ref aLE, .int dn, .int ea])), (aCn, .inl ((D.1 101), 25, .inl ((itr (fun i a => S_X2_startAnew_2 i a) n0 i0 a0).1))), (aE, .inl ((D.1 101), 25, .inl ((itr (fun i a => S_X2_startAnew_2 i a) n0 i0 a0).2.1))), (aLE, .inl ((D.1 101), 25, .inl ((itr (fun i a => S_X2_startAnew_2 i a) n0 i0 a0).2.2)))] H → va_D A [(hA_, .inr (9, [.ref aCn, .ref aE, .ref aLE, .int dn, .int ea])), (aCn, .inl ((D.1 101), 25, .inl ((itr (fun i a => S_X2_startAnew_2 i a) n0 i0 a0).1))), (aE, .inl ((D.1 101), 25, .inl ((itr (fun i a => S_X2_startAnew_2 i a) n0 i0 a0).2.1))), (aLE, .inl ((D.1 101), 25, .inl ((itr (fun i a => S_X2_startAnew_2 i a) n0 i0 a0).2.2)))] → va_S A s.heap H locs → lv_has ls 2 [(0, .ref hA_), (1, .int (nI 25))] → W p l e ({ frames := 0, cells := 0, slots := 0, locals := 0 } : Room) s m ([.ref hA_] : List Value).toArray below meth c H locs 0 0 Q (F0 m 35 ls [])) → W p l e ({ frames := 0, cells := 0, slots := 0, locals := 0 } : Room) s m ([.ref hA_] : List Value).toArray below meth c H locs 0 0 Q (F0 m 2 ls []) := by
      intro n0
      induction n0 with
      | zero =>
        intro i0 hi0 a0 H locs ls hP hD hS hl kon
        have he0 : i0 = 25 := by omega
        refine lv_iload_n hx hb dX2_startAnew_2 rfl (lv_at hl 1 rfl) ?_
        refine lv_bipush (v := 25) hx hb dX2_startAnew_3 (by decide) ?_
        refine lv_icmp_ge (tgt := 35) hx hb dX2_startAnew_5 (by decide) (fun c_1 => ?_) (fun c_1 => ?_)
        · subst he0
          exact kon H locs ls hP hD hS (lv_sub hl [0, 1] rfl)
        · exact absurd (nI_le (a := 25) (b := i0) (by omega) (by omega)) c_1
      | succ n0 ih0 =>
        intro i0 hi0 a0 H locs ls hP hD hS hl kon
        refine lv_iload_n hx hb dX2_startAnew_2 rfl (lv_at hl 1 rfl) ?_
        refine lv_bipush (v := 25) hx hb dX2_startAnew_3 (by decide) ?_
        refine lv_icmp_ge (tgt := 35) hx hb dX2_startAnew_5 (by decide) (fun c_2 => ?_) (fun c_2 => ?_)
        · exact absurd c_2 (nI_ge (a := i0) (b := 25) (by omega) (by omega))
        · refine lv_aload_n hx hb dX2_startAnew_8 rfl (lv_at hl 0 rfl) ?_
          refine va_get (D := D) (ci := 9) (v := .ref aCn) (C := RX2) (T := TX2) (N := 5) hx hb hts in_X2 hown hK hP 0 rfl rfl 0 (by decide) (hts _ q_194) (fun _ h9 => h9) rfl dX2_startAnew_9 ?_
          refine lv_iload_n hx hb dX2_startAnew_12 rfl (lv_at hl 1 rfl) ?_
          refine lv_iconst (v := 0) hx hb dX2_startAnew_13 (by decide) ?_
          refine va_iast hx hb hK hP hD hS 1 1 rfl rfl (vp_in_nI (by omega) (by omega)) dX2_startAnew_14 (fun H locs hP hD hS => ?_)
          rw [nI_clamp (by omega)] at hP hD
          have hP : va_P D vwCl [(hA_, .inr (9, [.ref aCn, .ref aE, .ref aLE, .int dn, .int ea])), (aCn, .inl ((D.1 101), 25, .inl (upd a0.1 i0 0))), (aE, .inl ((D.1 101), 25, .inl a0.2.1)), (aLE, .inl ((D.1 101), 25, .inl a0.2.2))] H := hP
          have hD : va_D A [(hA_, .inr (9, [.ref aCn, .ref aE, .ref aLE, .int dn, .int ea])), (aCn, .inl ((D.1 101), 25, .inl (upd a0.1 i0 0))), (aE, .inl ((D.1 101), 25, .inl a0.2.1)), (aLE, .inl ((D.1 101), 25, .inl a0.2.2))] := hD
          refine lv_aload_n hx hb dX2_startAnew_15 rfl (lv_at hl 0 rfl) ?_
          refine va_get (D := D) (ci := 9) (v := .ref aE) (C := RX2) (T := TX2) (N := 5) hx hb hts in_X2 hown hK hP 0 rfl rfl 1 (by decide) (hts _ q_196) (fun _ h9 => h9) rfl dX2_startAnew_16 ?_
          refine lv_iload_n hx hb dX2_startAnew_19 rfl (lv_at hl 1 rfl) ?_
          refine lv_iconst (v := 0) hx hb dX2_startAnew_20 (by decide) ?_
          refine va_iast hx hb hK hP hD hS 2 1 rfl rfl (vp_in_nI (by omega) (by omega)) dX2_startAnew_21 (fun H locs hP hD hS => ?_)
          rw [nI_clamp (by omega)] at hP hD
          have hP : va_P D vwCl [(hA_, .inr (9, [.ref aCn, .ref aE, .ref aLE, .int dn, .int ea])), (aCn, .inl ((D.1 101), 25, .inl (upd a0.1 i0 0))), (aE, .inl ((D.1 101), 25, .inl (upd a0.2.1 i0 0))), (aLE, .inl ((D.1 101), 25, .inl a0.2.2))] H := hP
          have hD : va_D A [(hA_, .inr (9, [.ref aCn, .ref aE, .ref aLE, .int dn, .int ea])), (aCn, .inl ((D.1 101), 25, .inl (upd a0.1 i0 0))), (aE, .inl ((D.1 101), 25, .inl (upd a0.2.1 i0 0))), (aLE, .inl ((D.1 101), 25, .inl a0.2.2))] := hD
          refine lv_aload_n hx hb dX2_startAnew_22 rfl (lv_at hl 0 rfl) ?_
          refine va_get (D := D) (ci := 9) (v := .ref aLE) (C := RX2) (T := TX2) (N := 5) hx hb hts in_X2 hown hK hP 0 rfl rfl 2 (by decide) (hts _ q_198) (fun _ h9 => h9) rfl dX2_startAnew_23 ?_
          refine lv_iload_n hx hb dX2_startAnew_26 rfl (lv_at hl 1 rfl) ?_
          refine lv_iconst (v := 0) hx hb dX2_startAnew_27 (by decide) ?_
          refine va_iast hx hb hK hP hD hS 3 1 rfl rfl (vp_in_nI (by omega) (by omega)) dX2_startAnew_28 (fun H locs hP hD hS => ?_)
          rw [nI_clamp (by omega)] at hP hD
          have hP : va_P D vwCl [(hA_, .inr (9, [.ref aCn, .ref aE, .ref aLE, .int dn, .int ea])), (aCn, .inl ((D.1 101), 25, .inl (upd a0.1 i0 0))), (aE, .inl ((D.1 101), 25, .inl (upd a0.2.1 i0 0))), (aLE, .inl ((D.1 101), 25, .inl (upd a0.2.2 i0 0)))] H := hP
          have hD : va_D A [(hA_, .inr (9, [.ref aCn, .ref aE, .ref aLE, .int dn, .int ea])), (aCn, .inl ((D.1 101), 25, .inl (upd a0.1 i0 0))), (aE, .inl ((D.1 101), 25, .inl (upd a0.2.1 i0 0))), (aLE, .inl ((D.1 101), 25, .inl (upd a0.2.2 i0 0)))] := hD
          refine lv_iinc (v := nI (i0 + 1)) (lv' := [(1, .int (nI (i0 + 1))), (0, .ref hA_)]) hx hb dX2_startAnew_29 hl (k := 1) rfl (nI_1 _) (by decide) rfl (fun ls hl => ?_)
          refine lv_goto (tgt := 2) hx hb dX2_startAnew_32 (by decide) ?_
          have hE : S_X2_startAnew_2 i0 a0 = (upd a0.1 i0 0, upd a0.2.1 i0 0, upd a0.2.2 i0 0) := (by rfl)
          have hl : lv_has ls 2 [(0, .ref hA_), (1, .int (nI (i0 + 1)))] := lv_sub hl [1, 0] rfl
          have hP := hP.sub (ws' := [(hA_, .inr (9, [.ref aCn, .ref aE, .ref aLE, .int dn, .int ea])), (aCn, .inl ((D.1 101), 25, .inl (upd a0.1 i0 0))), (aE, .inl ((D.1 101), 25, .inl (upd a0.2.1 i0 0))), (aLE, .inl ((D.1 101), 25, .inl (upd a0.2.2 i0 0)))]) [0, 1, 2, 3] rfl
          have hD := hD.sub (ws' := [(hA_, .inr (9, [.ref aCn, .ref aE, .ref aLE, .int dn, .int ea])), (aCn, .inl ((D.1 101), 25, .inl (upd a0.1 i0 0))), (aE, .inl ((D.1 101), 25, .inl (upd a0.2.1 i0 0))), (aLE, .inl ((D.1 101), 25, .inl (upd a0.2.2 i0 0)))]) [0, 1, 2, 3] (by decide) rfl
          exact ih0 (i0 + 1) (by omega) (S_X2_startAnew_2 i0 a0) H locs ls (by (try rw [hE]); exact hP) (by (try rw [hE]); exact hD) hS (by (try rw [hE]); exact hl) kon
    have hl : lv_has ls 2 [(0, .ref hA_), (1, .int (nI 0))] := lv_sub hl [1, 0] rfl
    refine lp_2 25 0 (by omega) (fCn, fE, fLE) H locs ls hP hD hS hl ?_
    clear lp_2 hP hD hS hl
    intro H locs ls hP hD hS hl
    refine lv_aload_n hx hb dX2_startAnew_35 rfl (lv_at hl 0 rfl) ?_
    refine lv_iconst (v := 0) hx hb dX2_startAnew_36 (by decide) ?_
    refine va_put (D := D) (ci := 9) (v := .int 0) (ty := .int) (C := RX2) (T := TX2) (N := 5) hx hb hts in_X2 tyX2 tyX2_ok nmX2 hown hK hP hD hS 0 rfl rfl 3 (by decide) (hts _ q_200) (fun _ h9 => h9) rfl (by decide +kernel) rfl rfl (Nat.le_of_ble_eq_true rfl) dX2_startAnew_37 (fun H locs hP hD hS => ?_)
    have hP : va_P D vwCl [(hA_, .inr (9, [.ref aCn, .ref aE, .ref aLE, .int 0, .int ea])), (aCn, .inl ((D.1 101), 25, .inl ((itr (fun i a => S_X2_startAnew_2 i a) 25 0 (fCn, fE, fLE)).1))), (aE, .inl ((D.1 101), 25, .inl ((itr (fun i a => S_X2_startAnew_2 i a) 25 0 (fCn, fE, fLE)).2.1))), (aLE, .inl ((D.1 101), 25, .inl ((itr (fun i a => S_X2_startAnew_2 i a) 25 0 (fCn, fE, fLE)).2.2)))] H := hP
    have hD : va_D A [(hA_, .inr (9, [.ref aCn, .ref aE, .ref aLE, .int 0, .int ea])), (aCn, .inl ((D.1 101), 25, .inl ((itr (fun i a => S_X2_startAnew_2 i a) 25 0 (fCn, fE, fLE)).1))), (aE, .inl ((D.1 101), 25, .inl ((itr (fun i a => S_X2_startAnew_2 i a) 25 0 (fCn, fE, fLE)).2.1))), (aLE, .inl ((D.1 101), 25, .inl ((itr (fun i a => S_X2_startAnew_2 i a) 25 0 (fCn, fE, fLE)).2.2)))] := hD
    refine lv_aload_n hx hb dX2_startAnew_40 rfl (lv_at hl 0 rfl) ?_
    refine lv_iconst (v := 0) hx hb dX2_startAnew_41 (by decide) ?_
    refine va_put (D := D) (ci := 9) (v := .int 0) (ty := .int) (C := RX2) (T := TX2) (N := 5) hx hb hts in_X2 tyX2 tyX2_ok nmX2 hown hK hP hD hS 0 rfl rfl 4 (by decide) (hts _ q_202) (fun _ h9 => h9) rfl (by decide +kernel) rfl rfl (Nat.le_of_ble_eq_true rfl) dX2_startAnew_42 (fun H locs hP hD hS => ?_)
    have hP : va_P D vwCl [(hA_, .inr (9, [.ref aCn, .ref aE, .ref aLE, .int 0, .int 0])), (aCn, .inl ((D.1 101), 25, .inl ((itr (fun i a => S_X2_startAnew_2 i a) 25 0 (fCn, fE, fLE)).1))), (aE, .inl ((D.1 101), 25, .inl ((itr (fun i a => S_X2_startAnew_2 i a) 25 0 (fCn, fE, fLE)).2.1))), (aLE, .inl ((D.1 101), 25, .inl ((itr (fun i a => S_X2_startAnew_2 i a) 25 0 (fCn, fE, fLE)).2.2)))] H := hP
    have hD : va_D A [(hA_, .inr (9, [.ref aCn, .ref aE, .ref aLE, .int 0, .int 0])), (aCn, .inl ((D.1 101), 25, .inl ((itr (fun i a => S_X2_startAnew_2 i a) 25 0 (fCn, fE, fLE)).1))), (aE, .inl ((D.1 101), 25, .inl ((itr (fun i a => S_X2_startAnew_2 i a) 25 0 (fCn, fE, fLE)).2.1))), (aLE, .inl ((D.1 101), 25, .inl ((itr (fun i a => S_X2_startAnew_2 i a) 25 0 (fCn, fE, fLE)).2.2)))] := hD
    subst hQe
    subst hAe
    have hE : (F_X2_startAnew fCn fE fLE) = ((itr (fun i a => S_X2_startAnew_2 i a) 25 0 (fCn, fE, fLE)).1, (itr (fun i a => S_X2_startAnew_2 i a) 25 0 (fCn, fE, fLE)).2.1, (itr (fun i a => S_X2_startAnew_2 i a) 25 0 (fCn, fE, fLE)).2.2, 0, 0) := (by rfl)
    have hP9 := hP.sub (ws' := [(hA_, .inr (9, [.ref aCn, .ref aE, .ref aLE, .int 0, .int 0])), (aCn, .inl ((D.1 101), 25, .inl ((itr (fun i a => S_X2_startAnew_2 i a) 25 0 (fCn, fE, fLE)).1))), (aE, .inl ((D.1 101), 25, .inl ((itr (fun i a => S_X2_startAnew_2 i a) 25 0 (fCn, fE, fLE)).2.1))), (aLE, .inl ((D.1 101), 25, .inl ((itr (fun i a => S_X2_startAnew_2 i a) 25 0 (fCn, fE, fLE)).2.2)))]) [0, 1, 2, 3] rfl
    have hD9 := hD.sub (ws' := [(hA_, .inr (9, [.ref aCn, .ref aE, .ref aLE, .int 0, .int 0])), (aCn, .inl ((D.1 101), 25, .inl ((itr (fun i a => S_X2_startAnew_2 i a) 25 0 (fCn, fE, fLE)).1))), (aE, .inl ((D.1 101), 25, .inl ((itr (fun i a => S_X2_startAnew_2 i a) 25 0 (fCn, fE, fLE)).2.1))), (aLE, .inl ((D.1 101), 25, .inl ((itr (fun i a => S_X2_startAnew_2 i a) 25 0 (fCn, fE, fLE)).2.2)))]) [0, 1, 2, 3] (by decide) rfl
    exact W.vret hx hb hr (fun t ht hW => ⟨⟨(), rfl, trivial, (by (try rw [hE]); rw [ht]; exact hP9), (by (try rw [hE]); exact hD9)⟩, hS.F ht⟩) hS.2.2 dX2_startAnew_45
  rw [hHe, hLe] at hgoal
  exact hgoal
