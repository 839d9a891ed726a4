def F_X7_refuse (th : Int32) (x1 : Int32) (x2 : Int32) : Int32 × Int32 := (if x1 = 0 then (if th ≤ 0 then (0, th) else (1, th)) else (if th = 0 then (if x2 ≤ 0 then (0, x2) else (1, x2)) else (if th ≤ 0 then (0, th) else (1, th))))
set_option maxHeartbeats 4000000 in
set_option maxRecDepth 100000 in
theorem c_X7_refuse (l : Launch) (D : va_G) (hM : Nat) (th : Int32) (R : Nat) (C : Nat) (fi : Int32) (di : Int32) (he : Int32) (br : Int32) (pa : Int32) (gu : Int32) (sc : Nat) (cl : Int32) (se : Int32) (lo : Int32) (lu : Int32) (rf : Int32) (kl : Nat) (kc : Nat) (hB : Nat) (x1 : Int32) (x2 : Int32) (sz : Nat)  : Met l yX7_refuse (Cond.code yX7_refuse cX7_refuse 3 (some .boolean) :: lwAll) ({ frames := 0, cells := 0, slots := 0, locals := 0 } : Room) (va_Pc [.ref hM, .int x1, .int x2] (cPre D (lwTY D) [(hM, .inr (14, [.int th, .int (nI R), .int (nI C), .int fi, .int di, .int he, .int br, .int pa, .int gu, .int (nI sc), .int cl, .int se, .int lo, .int lu, .int rf, .ref kl, .ref kc, .ref hB]))] sz)) (va_Qi (fun (r : Int32) (_ : Unit) => r = (F_X7_refuse th x1 x2).1 ∧ (r = 0 ∨ r = 1)) (fun (_ : Unit) t => va_P D vwCl [(hM, .inr (14, [.int ((F_X7_refuse th x1 x2).2), .int (nI R), .int (nI C), .int fi, .int di, .int he, .int br, .int pa, .int gu, .int (nI sc), .int cl, .int se, .int lo, .int lu, .int rf, .ref kl, .ref kc, .ref hB]))] t.heap ∧ va_D (va_A [(hM, .inr (14, [.int th, .int (nI R), .int (nI C), .int fi, .int di, .int he, .int br, .int pa, .int gu, .int (nI sc), .int cl, .int se, .int lo, .int lu, .int rf, .ref kl, .ref kc, .ref hB]))] sz) [(hM, .inr (14, [.int ((F_X7_refuse th x1 x2).2), .int (nI R), .int (nI C), .int fi, .int di, .int he, .int br, .int pa, .int gu, .int (nI sc), .int cl, .int se, .int lo, .int lu, .int rf, .ref kl, .ref kc, .ref hB]))]) (va_A [(hM, .inr (14, [.int th, .int (nI R), .int (nI C), .int fi, .int di, .int he, .int br, .int pa, .int gu, .int (nI sc), .int cl, .int se, .int lo, .int lu, .int rf, .ref kl, .ref kc, .ref hB]))] sz)) 0 0 (va_A [(hM, .inr (14, [.int th, .int (nI R), .int (nI C), .int fi, .int di, .int he, .int br, .int pa, .int gu, .int (nI sc), .int cl, .int se, .int lo, .int lu, .int rf, .ref kl, .ref kc, .ref hB]))] sz) := by
  refine Met.ofW (cc := cX7_refuse) (maxL := 3) (ret := (some .boolean)) (by decide) rfl ?_
  intro p e s m args below meth c s₁ B hml hv
  obtain ⟨rfl, hsz, hP, hK, hD0, hN, hZ⟩ := hv
  have hx := B.exec
  have hb := B.bytes
  have hr := B.returns
  have hts : ∀ wd ∈ lwAll, wd.before ([.ref hM, .int x1, .int x2] : List Value).toArray s = true := fun wd h => atoms_spec (ws := (Cond.code yX7_refuse cX7_refuse 3 (some .boolean) :: lwAll)) B.pre wd (List.mem_cons_of_mem _ h)
  have hown : s.vm.findClass RX7 = some m.cls := findClass_of_methodNamed B.named
  have hlocks := B.notSynchronized
  subst hsz
  have hD := hD0.self (sz := s.heap.size)
  have hl := lv_entry ([.ref hM, .int x1, .int x2]) (n := 3) (Nat.le_of_ble_eq_true rfl)
  rw [lg_entry_eq]
  generalize (lg_sl ([.ref hM, .int x1, .int x2]) ++ List.replicate (3 - (lg_sl ([.ref hM, .int x1, .int x2])).length) Slot.unset).toArray = ls at hl ⊢
  have hl : lv_has ls 3 [(0, .ref hM), (1, .int x1), (2, .int x2)] := hl
  have hS : va_S (va_A [(hM, .inr (14, [.int th, .int (nI R), .int (nI C), .int fi, .int di, .int he, .int br, .int pa, .int gu, .int (nI sc), .int cl, .int se, .int lo, .int lu, .int rf, .ref kl, .ref kc, .ref hB]))] s.heap.size) s.heap s.heap [] := va_S.rf
  generalize hQe : MQ below (va_Qi (fun (r : Int32) (_ : Unit) => r = (F_X7_refuse th x1 x2).1 ∧ (r = 0 ∨ r = 1)) (fun (_ : Unit) t => va_P D vwCl [(hM, .inr (14, [.int ((F_X7_refuse th x1 x2).2), .int (nI R), .int (nI C), .int fi, .int di, .int he, .int br, .int pa, .int gu, .int (nI sc), .int cl, .int se, .int lo, .int lu, .int rf, .ref kl, .ref kc, .ref hB]))] t.heap ∧ va_D (va_A [(hM, .inr (14, [.int th, .int (nI R), .int (nI C), .int fi, .int di, .int he, .int br, .int pa, .int gu, .int (nI sc), .int cl, .int se, .int lo, .int lu, .int rf, .ref kl, .ref kc, .ref hB]))] s.heap.size) [(hM, .inr (14, [.int ((F_X7_refuse th x1 x2).2), .int (nI R), .int (nI C), .int fi, .int di, .int he, .int br, .int pa, .int gu, .int (nI sc), .int cl, .int se, .int lo, .int lu, .int rf, .ref kl, .ref kc, .ref hB]))]) (va_A [(hM, .inr (14, [.int th, .int (nI R), .int (nI C), .int fi, .int di, .int he, .int br, .int pa, .int gu, .int (nI sc), .int cl, .int se, .int lo, .int lu, .int rf, .ref kl, .ref kc, .ref hB]))] s.heap.size)) ([.ref hM, .int x1, .int x2] : List Value).toArray s 0 0 (va_A [(hM, .inr (14, [.int th, .int (nI R), .int (nI C), .int fi, .int di, .int he, .int br, .int pa, .int gu, .int (nI sc), .int cl, .int se, .int lo, .int lu, .int rf, .ref kl, .ref kc, .ref hB]))] s.heap.size) = Q
  have hP : va_P D vwCl [(hM, .inr (14, [.int th, .int (nI R), .int (nI C), .int fi, .int di, .int he, .int br, .int pa, .int gu, .int (nI sc), .int cl, .int se, .int lo, .int lu, .int rf, .ref kl, .ref kc, .ref hB]))] s.heap := hP
  obtain ⟨A, hAe⟩ : ∃ A, A = va_A [(hM, .inr (14, [.int th, .int (nI R), .int (nI C), .int fi, .int di, .int he, .int br, .int pa, .int gu, .int (nI sc), .int cl, .int se, .int lo, .int lu, .int rf, .ref kl, .ref kc, .ref hB]))] s.heap.size := ⟨_, rfl⟩
  rw [← hAe] at hD hZ hS
  have hA : ∀ q : Nat, s.heap.size ≤ q → A q := fun q h => by rw [hAe]; exact Or.inr h
  obtain ⟨H, hHe⟩ : ∃ H, H = s.heap := ⟨_, rfl⟩
  obtain ⟨locs, hLe⟩ : ∃ L : List Loc, L = [] := ⟨_, rfl⟩
  have hP : va_P D vwCl [(hM, .inr (14, [.int th, .int (nI R), .int (nI C), .int fi, .int di, .int he, .int br, .int pa, .int gu, .int (nI sc), .int cl, .int se, .int lo, .int lu, .int rf, .ref kl, .ref kc, .ref hB]))] H := by rw [hHe]; exact hP
  have hS : va_S A s.heap H locs := by rw [hHe, hLe]; exact hS
  have hgoal : W p l e ({ frames := 0, cells := 0, slots := 0, locals := 0 } : Room) s m ([.ref hM, .int x1, .int x2] : List Value).toArray below meth c H locs 0 0 Q (F0 m 0 ls []) := by
    clear hHe hLe
    refine lv_iload_n hx hb dX7_refuse_0 rfl (lv_at hl 1 rfl) ?_
    refine lv_if_eq (tgt := 16) hx hb dX7_refuse_1 (by decide) (fun c_1 => ?_) (fun c_1 => ?_)
    · refine lv_aload_n hx hb dX7_refuse_16 rfl (lv_at hl 0 rfl) ?_
      refine va_get (D := D) (ci := 14) (v := .int th) (C := RX7) (T := TX7) (N := 18) hx hb hts in_X7 hown hK hP 0 rfl rfl 0 (by decide) (hts _ q_1268) (fun _ h9 => h9) rfl dX7_refuse_17 ?_
      refine lv_if_le (tgt := 27) hx hb dX7_refuse_20 (by decide) (fun c_2 => ?_) (fun c_2 => ?_)
      · refine lv_iconst (v := 0) hx hb dX7_refuse_27 (by decide) ?_
        subst hQe
        subst hAe
        have hE : (F_X7_refuse th x1 x2) = (0, th) := (by unfold F_X7_refuse; rw [if_pos c_1, if_pos c_2])
        have hP9 := hP.sub (ws' := [(hM, .inr (14, [.int th, .int (nI R), .int (nI C), .int fi, .int di, .int he, .int br, .int pa, .int gu, .int (nI sc), .int cl, .int se, .int lo, .int lu, .int rf, .ref kl, .ref kc, .ref hB]))]) [0] rfl
        have hD9 := hD.sub (ws' := [(hM, .inr (14, [.int th, .int (nI R), .int (nI C), .int fi, .int di, .int he, .int br, .int pa, .int gu, .int (nI sc), .int cl, .int se, .int lo, .int lu, .int rf, .ref kl, .ref kc, .ref hB]))]) [0] (by decide) rfl
        exact W.zret (ty := .boolean) (v := 0) hx hb hr (zb_narrow zb_0) (fun t ht hW => ⟨⟨0, (), rfl, ⟨(by rw [hE]), zb_0⟩, (by (try rw [hE]); rw [ht]; exact hP9), (by (try rw [hE]); exact hD9)⟩, hS.F ht⟩) hS.2.2 dX7_refuse_28
      · refine lv_iconst (v := 1) hx hb dX7_refuse_23 (by decide) ?_
        refine lv_goto (tgt := 28) hx hb dX7_refuse_24 (by decide) ?_
        subst hQe
        subst hAe
        have hE : (F_X7_refuse th x1 x2) = (1, th) := (by unfold F_X7_refuse; rw [if_pos c_1, if_neg c_2])
        have hP9 := hP.sub (ws' := [(hM, .inr (14, [.int th, .int (nI R), .int (nI C), .int fi, .int di, .int he, .int br, .int pa, .int gu, .int (nI sc), .int cl, .int se, .int lo, .int lu, .int rf, .ref kl, .ref kc, .ref hB]))]) [0] rfl
        have hD9 := hD.sub (ws' := [(hM, .inr (14, [.int th, .int (nI R), .int (nI C), .int fi, .int di, .int he, .int br, .int pa, .int gu, .int (nI sc), .int cl, .int se, .int lo, .int lu, .int rf, .ref kl, .ref kc, .ref hB]))]) [0] (by decide) rfl
        exact W.zret (ty := .boolean) (v := 1) hx hb hr (zb_narrow zb_1) (fun t ht hW => ⟨⟨1, (), rfl, ⟨(by rw [hE]), zb_1⟩, (by (try rw [hE]); rw [ht]; exact hP9), (by (try rw [hE]); exact hD9)⟩, hS.F ht⟩) hS.2.2 dX7_refuse_28
    · refine lv_aload_n hx hb dX7_refuse_4 rfl (lv_at hl 0 rfl) ?_
      refine va_get (D := D) (ci := 14) (v := .int th) (C := RX7) (T := TX7) (N := 18) hx hb hts in_X7 hown hK hP 0 rfl rfl 0 (by decide) (hts _ q_1268) (fun _ h9 => h9) rfl dX7_refuse_5 ?_
      refine lv_if_ne (tgt := 16) hx hb dX7_refuse_8 (by decide) (fun c_3 => ?_) (fun c_3 => ?_)
      · refine lv_aload_n hx hb dX7_refuse_16 rfl (lv_at hl 0 rfl) ?_
        refine va_get (D := D) (ci := 14) (v := .int th) (C := RX7) (T := TX7) (N := 18) hx hb hts in_X7 hown hK hP 0 rfl rfl 0 (by decide) (hts _ q_1268) (fun _ h9 => h9) rfl dX7_refuse_17 ?_
        refine lv_if_le (tgt := 27) hx hb dX7_refuse_20 (by decide) (fun c_4 => ?_) (fun c_4 => ?_)
        · refine lv_iconst (v := 0) hx hb dX7_refuse_27 (by decide) ?_
          subst hQe
          subst hAe
          have hE : (F_X7_refuse th x1 x2) = (0, th) := (by unfold F_X7_refuse; rw [if_neg c_1, if_neg c_3, if_pos c_4])
          have hP9 := hP.sub (ws' := [(hM, .inr (14, [.int th, .int (nI R), .int (nI C), .int fi, .int di, .int he, .int br, .int pa, .int gu, .int (nI sc), .int cl, .int se, .int lo, .int lu, .int rf, .ref kl, .ref kc, .ref hB]))]) [0] rfl
          have hD9 := hD.sub (ws' := [(hM, .inr (14, [.int th, .int (nI R), .int (nI C), .int fi, .int di, .int he, .int br, .int pa, .int gu, .int (nI sc), .int cl, .int se, .int lo, .int lu, .int rf, .ref kl, .ref kc, .ref hB]))]) [0] (by decide) rfl
          exact W.zret (ty := .boolean) (v := 0) hx hb hr (zb_narrow zb_0) (fun t ht hW => ⟨⟨0, (), rfl, ⟨(by rw [hE]), zb_0⟩, (by (try rw [hE]); rw [ht]; exact hP9), (by (try rw [hE]); exact hD9)⟩, hS.F ht⟩) hS.2.2 dX7_refuse_28
        · refine lv_iconst (v := 1) hx hb dX7_refuse_23 (by decide) ?_
          refine lv_goto (tgt := 28) hx hb dX7_refuse_24 (by decide) ?_
          subst hQe
          subst hAe
          have hE : (F_X7_refuse th x1 x2) = (1, th) := (by unfold F_X7_refuse; rw [if_neg c_1, if_neg c_3, if_neg c_4])
          have hP9 := hP.sub (ws' := [(hM, .inr (14, [.int th, .int (nI R), .int (nI C), .int fi, .int di, .int he, .int br, .int pa, .int gu, .int (nI sc), .int cl, .int se, .int lo, .int lu, .int rf, .ref kl, .ref kc, .ref hB]))]) [0] rfl
          have hD9 := hD.sub (ws' := [(hM, .inr (14, [.int th, .int (nI R), .int (nI C), .int fi, .int di, .int he, .int br, .int pa, .int gu, .int (nI sc), .int cl, .int se, .int lo, .int lu, .int rf, .ref kl, .ref kc, .ref hB]))]) [0] (by decide) rfl
          exact W.zret (ty := .boolean) (v := 1) hx hb hr (zb_narrow zb_1) (fun t ht hW => ⟨⟨1, (), rfl, ⟨(by rw [hE]), zb_1⟩, (by (try rw [hE]); rw [ht]; exact hP9), (by (try rw [hE]); exact hD9)⟩, hS.F ht⟩) hS.2.2 dX7_refuse_28
      · refine lv_aload_n hx hb dX7_refuse_11 rfl (lv_at hl 0 rfl) ?_
        refine lv_iload_n hx hb dX7_refuse_12 rfl (lv_at hl 2 rfl) ?_
        refine va_put (D := D) (ci := 14) (v := .int x2) (ty := .int) (C := RX7) (T := TX7) (N := 18) hx hb hts in_X7 tyX7 tyX7_ok nmX7 hown hK hP hD hS 0 rfl rfl 0 (by decide) (hts _ q_1268) (fun _ h9 => h9) rfl (by decide +kernel) rfl rfl (Nat.le_of_ble_eq_true rfl) dX7_refuse_13 (fun H locs hP hD hS => ?_)
        have hP : va_P D vwCl [(hM, .inr (14, [.int x2, .int (nI R), .int (nI C), .int fi, .int di, .int he, .int br, .int pa, .int gu, .int (nI sc), .int cl, .int se, .int lo, .int lu, .int rf, .ref kl, .ref kc, .ref hB]))] H := hP
        have hD : va_D A [(hM, .inr (14, [.int x2, .int (nI R), .int (nI C), .int fi, .int di, .int he, .int br, .int pa, .int gu, .int (nI sc), .int cl, .int se, .int lo, .int lu, .int rf, .ref kl, .ref kc, .ref hB]))] := hD
        refine lv_aload_n hx hb dX7_refuse_16 rfl (lv_at hl 0 rfl) ?_
        refine va_get (D := D) (ci := 14) (v := .int x2) (C := RX7) (T := TX7) (N := 18) hx hb hts in_X7 hown hK hP 0 rfl rfl 0 (by decide) (hts _ q_1268) (fun _ h9 => h9) rfl dX7_refuse_17 ?_
        refine lv_if_le (tgt := 27) hx hb dX7_refuse_20 (by decide) (fun c_5 => ?_) (fun c_5 => ?_)
        · refine lv_iconst (v := 0) hx hb dX7_refuse_27 (by decide) ?_
          subst hQe
          subst hAe
          have hE : (F_X7_refuse th x1 x2) = (0, x2) := (by unfold F_X7_refuse; rw [if_neg c_1, if_pos c_3, if_pos c_5])
          have hP9 := hP.sub (ws' := [(hM, .inr (14, [.int x2, .int (nI R), .int (nI C), .int fi, .int di, .int he, .int br, .int pa, .int gu, .int (nI sc), .int cl, .int se, .int lo, .int lu, .int rf, .ref kl, .ref kc, .ref hB]))]) [0] rfl
          have hD9 := hD.sub (ws' := [(hM, .inr (14, [.int x2, .int (nI R), .int (nI C), .int fi, .int di, .int he, .int br, .int pa, .int gu, .int (nI sc), .int cl, .int se, .int lo, .int lu, .int rf, .ref kl, .ref kc, .ref hB]))]) [0] (by decide) rfl
          exact W.zret (ty := .boolean) (v := 0) hx hb hr (zb_narrow zb_0) (fun t ht hW => ⟨⟨0, (), rfl, ⟨(by rw [hE]), zb_0⟩, (by (try rw [hE]); rw [ht]; exact hP9), (by (try rw [hE]); exact hD9)⟩, hS.F ht⟩) hS.2.2 dX7_refuse_28
        · refine lv_iconst (v := 1) hx hb dX7_refuse_23 (by decide) ?_
          refine lv_goto (tgt := 28) hx hb dX7_refuse_24 (by decide) ?_
          subst hQe
          subst hAe
          have hE : (F_X7_refuse th x1 x2) = (1, x2) := (by unfold F_X7_refuse; rw [if_neg c_1, if_pos c_3, if_neg c_5])
          have hP9 := hP.sub (ws' := [(hM, .inr (14, [.int x2, .int (nI R), .int (nI C), .int fi, .int di, .int he, .int br, .int pa, .int gu, .int (nI sc), .int cl, .int se, .int lo, .int lu, .int rf, .ref kl, .ref kc, .ref hB]))]) [0] rfl
          have hD9 := hD.sub (ws' := [(hM, .inr (14, [.int x2, .int (nI R), .int (nI C), .int fi, .int di, .int he, .int br, .int pa, .int gu, .int (nI sc), .int cl, .int se, .int lo, .int lu, .int rf, .ref kl, .ref kc, .ref hB]))]) [0] (by decide) rfl
          exact W.zret (ty := .boolean) (v := 1) hx hb hr (zb_narrow zb_1) (fun t ht hW => ⟨⟨1, (), rfl, ⟨(by rw [hE]), zb_1⟩, (by (try rw [hE]); rw [ht]; exact hP9), (by (try rw [hE]); exact hD9)⟩, hS.F ht⟩) hS.2.2 dX7_refuse_28
  rw [hHe, hLe] at hgoal
  exact hgoal

def F_X7_start (x1 : Int32) (x2 : Int32) : Int32 × Int32 := ((F_X7_refuse 0 x1 x2).1, (F_X7_refuse 0 x1 x2).2)
set_option maxHeartbeats 4000000 in
set_option maxRecDepth 100000 in
theorem c_X7_start (l : Launch) (D : va_G) (hM : Nat) (th : Int32) (R : Nat) (C : Nat) (fi : Int32) (di : Int32) (he : Int32) (br : Int32) (pa : Int32) (gu : Int32) (sc : Nat) (cl : Int32) (se : Int32) (lo : Int32) (lu : Int32) (rf : Int32) (kl : Nat) (kc : Nat) (hB : Nat) (x1 : Int32) (x2 : Int32) (sz : Nat)  : Met l yX7_start (Cond.code yX7_start cX7_start 3 (some .boolean) :: lwAll) ({ frames := 1, cells := 0, slots := 0, locals := 22 } : Room) (va_Pc [.ref hM, .int x1, .int x2] (cPre D (lwTY D) [(hM, .inr (14, [.int th, .int (nI R), .int (nI C), .int fi, .int di, .int he, .int br, .int pa, .int gu, .int (nI sc), .int cl, .int se, .int lo, .int lu, .int rf, .ref kl, .ref kc, .ref hB]))] sz)) (va_Qi (fun (r : Int32) (_ : Unit) => r = (F_X7_start x1 x2).1 ∧ (r = 0 ∨ r = 1)) (fun (_ : Unit) t => va_P D vwCl [(hM, .inr (14, [.int ((F_X7_start x1 x2).2), .int (nI R), .int (nI C), .int fi, .int di, .int he, .int br, .int pa, .int gu, .int (nI sc), .int cl, .int se, .int lo, .int lu, .int rf, .ref kl, .ref kc, .ref hB]))] t.heap ∧ va_D (va_A [(hM, .inr (14, [.int th, .int (nI R), .int (nI C), .int fi, .int di, .int he, .int br, .int pa, .int gu, .int (nI sc), .int cl, .int se, .int lo, .int lu, .int rf, .ref kl, .ref kc, .ref hB]))] sz) [(hM, .inr (14, [.int ((F_X7_start x1 x2).2), .int (nI R), .int (nI C), .int fi, .int di, .int he, .int br, .int pa, .int gu, .int (nI sc), .int cl, .int se, .int lo, .int lu, .int rf, .ref kl, .ref kc, .ref hB]))]) (va_A [(hM, .inr (14, [.int th, .int (nI R), .int (nI C), .int fi, .int di, .int he, .int br, .int pa, .int gu, .int (nI sc), .int cl, .int se, .int lo, .int lu, .int rf, .ref kl, .ref kc, .ref hB]))] sz)) 0 0 (va_A [(hM, .inr (14, [.int th, .int (nI R), .int (nI C), .int fi, .int di, .int he, .int br, .int pa, .int gu, .int (nI sc), .int cl, .int se, .int lo, .int lu, .int rf, .ref kl, .ref kc, .ref hB]))] sz) := by
  refine Met.ofW (cc := cX7_start) (maxL := 3) (ret := (some .boolean)) (by decide) rfl ?_
  intro p e s m args below meth c s₁ B hml hv
  obtain ⟨rfl, hsz, hP, hK, hD0, hN, hZ⟩ := hv
  have hx := B.exec
  have hb := B.bytes
  have hr := B.returns
  have hts : ∀ wd ∈ lwAll, wd.before ([.ref hM, .int x1, .int x2] : List Value).toArray s = true := fun wd h => atoms_spec (ws := (Cond.code yX7_start cX7_start 3 (some .boolean) :: lwAll)) B.pre wd (List.mem_cons_of_mem _ h)
  have hown : s.vm.findClass RX7 = some m.cls := findClass_of_methodNamed B.named
  have hlocks := B.notSynchronized
  subst hsz
  have hD := hD0.self (sz := s.heap.size)
  have hl := lv_entry ([.ref hM, .int x1, .int x2]) (n := 3) (Nat.le_of_ble_eq_true rfl)
  rw [lg_entry_eq]
  generalize (lg_sl ([.ref hM, .int x1, .int x2]) ++ List.replicate (3 - (lg_sl ([.ref hM, .int x1, .int x2])).length) Slot.unset).toArray = ls at hl ⊢
  have hl : lv_has ls 3 [(0, .ref hM), (1, .int x1), (2, .int x2)] := hl
  have hS : va_S (va_A [(hM, .inr (14, [.int th, .int (nI R), .int (nI C), .int fi, .int di, .int he, .int br, .int pa, .int gu, .int (nI sc), .int cl, .int se, .int lo, .int lu, .int rf, .ref kl, .ref kc, .ref hB]))] s.heap.size) s.heap s.heap [] := va_S.rf
  generalize hQe : MQ below (va_Qi (fun (r : Int32) (_ : Unit) => r = (F_X7_start x1 x2).1 ∧ (r = 0 ∨ r = 1)) (fun (_ : Unit) t => va_P D vwCl [(hM, .inr (14, [.int ((F_X7_start x1 x2).2), .int (nI R), .int (nI C), .int fi, .int di, .int he, .int br, .int pa, .int gu, .int (nI sc), .int cl, .int se, .int lo, .int lu, .int rf, .ref kl, .ref kc, .ref hB]))] t.heap ∧ va_D (va_A [(hM, .inr (14, [.int th, .int (nI R), .int (nI C), .int fi, .int di, .int he, .int br, .int pa, .int gu, .int (nI sc), .int cl, .int se, .int lo, .int lu, .int rf, .ref kl, .ref kc, .ref hB]))] s.heap.size) [(hM, .inr (14, [.int ((F_X7_start x1 x2).2), .int (nI R), .int (nI C), .int fi, .int di, .int he, .int br, .int pa, .int gu, .int (nI sc), .int cl, .int se, .int lo, .int lu, .int rf, .ref kl, .ref kc, .ref hB]))]) (va_A [(hM, .inr (14, [.int th, .int (nI R), .int (nI C), .int fi, .int di, .int he, .int br, .int pa, .int gu, .int (nI sc), .int cl, .int se, .int lo, .int lu, .int rf, .ref kl, .ref kc, .ref hB]))] s.heap.size)) ([.ref hM, .int x1, .int x2] : List Value).toArray s 0 0 (va_A [(hM, .inr (14, [.int th, .int (nI R), .int (nI C), .int fi, .int di, .int he, .int br, .int pa, .int gu, .int (nI sc), .int cl, .int se, .int lo, .int lu, .int rf, .ref kl, .ref kc, .ref hB]))] s.heap.size) = Q
  have hP : va_P D vwCl [(hM, .inr (14, [.int th, .int (nI R), .int (nI C), .int fi, .int di, .int he, .int br, .int pa, .int gu, .int (nI sc), .int cl, .int se, .int lo, .int lu, .int rf, .ref kl, .ref kc, .ref hB]))] s.heap := hP
  obtain ⟨A, hAe⟩ : ∃ A, A = va_A [(hM, .inr (14, [.int th, .int (nI R), .int (nI C), .int fi, .int di, .int he, .int br, .int pa, .int gu, .int (nI sc), .int cl, .int se, .int lo, .int lu, .int rf, .ref kl, .ref kc, .ref hB]))] s.heap.size := ⟨_, rfl⟩
  rw [← hAe] at hD hZ hS
  have hA : ∀ q : Nat, s.heap.size ≤ q → A q := fun q h => by rw [hAe]; exact Or.inr h
  obtain ⟨H, hHe⟩ : ∃ H, H = s.heap := ⟨_, rfl⟩
  obtain ⟨locs, hLe⟩ : ∃ L : List Loc, L = [] := ⟨_, rfl⟩
  have hP : va_P D vwCl [(hM, .inr (14, [.int th, .int (nI R), .int (nI C), .int fi, .int di, .int he, .int br, .int pa, .int gu, .int (nI sc), .int cl, .int se, .int lo, .int lu, .int rf, .ref kl, .ref kc, .ref hB]))] H := by rw [hHe]; exact hP
  have hS : va_S A s.heap H locs := by rw [hHe, hLe]; exact hS
  have hgoal : W p l e ({ frames := 1, cells := 0, slots := 0, locals := 22 } : Room) s m ([.ref hM, .int x1, .int x2] : List Value).toArray below meth c H locs 0 0 Q (F0 m 0 ls []) := by
    clear hHe hLe
    refine lv_aload_n hx hb dX7_start_0 rfl (lv_at hl 0 rfl) ?_
    refine lv_iconst (v := 0) hx hb dX7_start_1 (by decide) ?_
    refine va_put (D := D) (ci := 14) (v := .int 0) (ty := .int) (C := RX7) (T := TX7) (N := 18) hx hb hts in_X7 tyX7 tyX7_ok nmX7 hown hK hP hD hS 0 rfl rfl 0 (by decide) (hts _ q_1268) (fun _ h9 => h9) rfl (by decide +kernel) rfl rfl (Nat.le_of_ble_eq_true rfl) dX7_start_2 (fun H locs hP hD hS => ?_)
    have hP : va_P D vwCl [(hM, .inr (14, [.int 0, .int (nI R), .int (nI C), .int fi, .int di, .int he, .int br, .int pa, .int gu, .int (nI sc), .int cl, .int se, .int lo, .int lu, .int rf, .ref kl, .ref kc, .ref hB]))] H := hP
    have hD : va_D A [(hM, .inr (14, [.int 0, .int (nI R), .int (nI C), .int fi, .int di, .int he, .int br, .int pa, .int gu, .int (nI sc), .int cl, .int se, .int lo, .int lu, .int rf, .ref kl, .ref kc, .ref hB]))] := hD
    refine lv_aload_n hx hb dX7_start_5 rfl (lv_at hl 0 rfl) ?_
    refine lv_iload_n hx hb dX7_start_6 rfl (lv_at hl 1 rfl) ?_
    refine lv_iload_n hx hb dX7_start_7 rfl (lv_at hl 2 rfl) ?_
    have hPc := hP.sub (ws' := [(hM, .inr (14, [.int 0, .int (nI R), .int (nI C), .int fi, .int di, .int he, .int br, .int pa, .int gu, .int (nI sc), .int cl, .int se, .int lo, .int lu, .int rf, .ref kl, .ref kc, .ref hB]))]) [0] rfl
    have hDc := hD.sub (ws' := [(hM, .inr (14, [.int 0, .int (nI R), .int (nI C), .int fi, .int di, .int he, .int br, .int pa, .int gu, .int (nI sc), .int cl, .int se, .int lo, .int lu, .int rf, .ref kl, .ref kc, .ref hB]))]) [0] (by decide) rfl
    have hFc := va_free (wc := [(hM, .inr (14, [.int 0, .int (nI R), .int (nI C), .int fi, .int di, .int he, .int br, .int pa, .int gu, .int (nI sc), .int cl, .int se, .int lo, .int lu, .int rf, .ref kl, .ref kc, .ref hB]))]) hD hS hA [0] rfl
    refine va_calli (va_runV (As := [.int x1, .int x2]) (rest := []) ⟨hx, hb, hml, hown, hts⟩ (c_X7_refuse l D hM 0 R C fi di he br pa gu sc cl se lo lu rf kl kc hB x1 x2 H.size ) (cwV 2 hts (gi_V q_1334 q_1336 q_53 q_104 q_1337) rfl rfl rfl (by decide +kernel) ⟨Nat.le_of_ble_eq_true rfl, Nat.le_of_ble_eq_true rfl⟩) ⟨cPre_blind, va_recv hK hP (ci := 14) (q0 := 0) rfl rfl, cPre_mk hPc hK hDc hN (lwZ_for hZ hS hFc)⟩ rfl rfl hl.1 rfl (lv_room (Nat.le_of_ble_eq_true rfl)) dX7_start_8 ⟨(Nat.le_of_ble_eq_true rfl), (Nat.le_of_ble_eq_true rfl)⟩) hS (fun q _ h => hFc q h) hFc (fun r_8 u t H1 locs ht hvm hw hBk hz1 hk1 hS => ?_)
    obtain ⟨hP1, hD1⟩ := hBk
    rw [ht] at hP1
    obtain ⟨hP, hD⟩ := va_join (wr := []) (w1 := [(hM, .inr (14, [.int ((F_X7_refuse 0 x1 x2).2), .int (nI R), .int (nI C), .int fi, .int di, .int he, .int br, .int pa, .int gu, .int (nI sc), .int cl, .int se, .int lo, .int lu, .int rf, .ref kl, .ref kc, .ref hB]))]) hP hD [0] [] rfl rfl (by decide) (by decide) hk1 hFc hP1 hD1
    obtain ⟨hw, z_1⟩ := hw
    rw [hw] at z_1
    subst hw
    clear hPc hDc hFc hP1 hD1 hk1 hz1
    clear hvm ht u; clear t
    generalize H1 = H at hP hS ⊢
    have hP : va_P D vwCl [(hM, .inr (14, [.int ((F_X7_refuse 0 x1 x2).2), .int (nI R), .int (nI C), .int fi, .int di, .int he, .int br, .int pa, .int gu, .int (nI sc), .int cl, .int se, .int lo, .int lu, .int rf, .ref kl, .ref kc, .ref hB]))] H := hP
    have hD : va_D A [(hM, .inr (14, [.int ((F_X7_refuse 0 x1 x2).2), .int (nI R), .int (nI C), .int fi, .int di, .int he, .int br, .int pa, .int gu, .int (nI sc), .int cl, .int se, .int lo, .int lu, .int rf, .ref kl, .ref kc, .ref hB]))] := hD
    subst hQe
    subst hAe
    have hE : (F_X7_start x1 x2) = ((F_X7_refuse 0 x1 x2).1, (F_X7_refuse 0 x1 x2).2) := (by rfl)
    have hP9 := hP.sub (ws' := [(hM, .inr (14, [.int ((F_X7_refuse 0 x1 x2).2), .int (nI R), .int (nI C), .int fi, .int di, .int he, .int br, .int pa, .int gu, .int (nI sc), .int cl, .int se, .int lo, .int lu, .int rf, .ref kl, .ref kc, .ref hB]))]) [0] rfl
    have hD9 := hD.sub (ws' := [(hM, .inr (14, [.int ((F_X7_refuse 0 x1 x2).2), .int (nI R), .int (nI C), .int fi, .int di, .int he, .int br, .int pa, .int gu, .int (nI sc), .int cl, .int se, .int lo, .int lu, .int rf, .ref kl, .ref kc, .ref hB]))]) [0] (by decide) rfl
    exact W.zret (ty := .boolean) (v := (F_X7_refuse 0 x1 x2).1) hx hb hr (zb_narrow (by assumption)) (fun t ht hW => ⟨⟨(F_X7_refuse 0 x1 x2).1, (), rfl, ⟨(by rw [hE]), (by assumption)⟩, (by (try rw [hE]); rw [ht]; exact hP9), (by (try rw [hE]); exact hD9)⟩, hS.F ht⟩) hS.2.2 dX7_start_11
  rw [hHe, hLe] at hgoal
  exact hgoal

def F_X7_call (rf : Int32) : Int32 × Int32 × Int32 := (rf + 1, 0, rf + 1)
set_option maxHeartbeats 4000000 in
set_option maxRecDepth 100000 in
theorem c_X7_call (l : Launch) (D : va_G) (hM : Nat) (th : Int32) (R : Nat) (C : Nat) (fi : Int32) (di : Int32) (he : Int32) (br : Int32) (pa : Int32) (gu : Int32) (sc : Nat) (cl : Int32) (se : Int32) (lo : Int32) (lu : Int32) (rf : Int32) (kl : Nat) (kc : Nat) (hB : Nat) (sz : Nat)  : Met l yX7_call (Cond.code yX7_call cX7_call 1 (some .int) :: lwAll) ({ frames := 0, cells := 0, slots := 0, locals := 0 } : Room) (va_Pc [.ref hM] (cPre D (lwTY D) [(hM, .inr (14, [.int th, .int (nI R), .int (nI C), .int fi, .int di, .int he, .int br, .int pa, .int gu, .int (nI sc), .int cl, .int se, .int lo, .int lu, .int rf, .ref kl, .ref kc, .ref hB]))] sz)) (va_Qi (fun (r : Int32) (_ : Unit) => r = (F_X7_call rf).1) (fun (_ : Unit) t => va_P D vwCl [(hM, .inr (14, [.int ((F_X7_call rf).2.1), .int (nI R), .int (nI C), .int fi, .int di, .int he, .int br, .int pa, .int gu, .int (nI sc), .int cl, .int se, .int lo, .int lu, .int ((F_X7_call rf).2.2), .ref kl, .ref kc, .ref hB]))] t.heap ∧ va_D (va_A [(hM, .inr (14, [.int th, .int (nI R), .int (nI C), .int fi, .int di, .int he, .int br, .int pa, .int gu, .int (nI sc), .int cl, .int se, .int lo, .int lu, .int rf, .ref kl, .ref kc, .ref hB]))] sz) [(hM, .inr (14, [.int ((F_X7_call rf).2.1), .int (nI R), .int (nI C), .int fi, .int di, .int he, .int br, .int pa, .int gu, .int (nI sc), .int cl, .int se, .int lo, .int lu, .int ((F_X7_call rf).2.2), .ref kl, .ref kc, .ref hB]))]) (va_A [(hM, .inr (14, [.int th, .int (nI R), .int (nI C), .int fi, .int di, .int he, .int br, .int pa, .int gu, .int (nI sc), .int cl, .int se, .int lo, .int lu, .int rf, .ref kl, .ref kc, .ref hB]))] sz)) 0 0 (va_A [(hM, .inr (14, [.int th, .int (nI R), .int (nI C), .int fi, .int di, .int he, .int br, .int pa, .int gu, .int (nI sc), .int cl, .int se, .int lo, .int lu, .int rf, .ref kl, .ref kc, .ref hB]))] sz) := by
  refine Met.ofW (cc := cX7_call) (maxL := 1) (ret := (some .int)) (by decide) rfl ?_
  intro p e s m args below meth c s₁ B hml hv
  obtain ⟨rfl, hsz, hP, hK, hD0, hN, hZ⟩ := hv
  have hx := B.exec
  have hb := B.bytes
  have hr := B.returns
  have hts : ∀ wd ∈ lwAll, wd.before ([.ref hM] : List Value).toArray s = true := fun wd h => atoms_spec (ws := (Cond.code yX7_call cX7_call 1 (some .int) :: lwAll)) B.pre wd (List.mem_cons_of_mem _ h)
  have hown : s.vm.findClass RX7 = some m.cls := findClass_of_methodNamed B.named
  have hlocks := B.notSynchronized
  subst hsz
  have hD := hD0.self (sz := s.heap.size)
  have hl := lv_entry ([.ref hM]) (n := 1) (Nat.le_of_ble_eq_true rfl)
  rw [lg_entry_eq]
  generalize (lg_sl ([.ref hM]) ++ List.replicate (1 - (lg_sl ([.ref hM])).length) Slot.unset).toArray = ls at hl ⊢
  have hl : lv_has ls 1 [(0, .ref hM)] := hl
  have hS : va_S (va_A [(hM, .inr (14, [.int th, .int (nI R), .int (nI C), .int fi, .int di, .int he, .int br, .int pa, .int gu, .int (nI sc), .int cl, .int se, .int lo, .int lu, .int rf, .ref kl, .ref kc, .ref hB]))] s.heap.size) s.heap s.heap [] := va_S.rf
  generalize hQe : MQ below (va_Qi (fun (r : Int32) (_ : Unit) => r = (F_X7_call rf).1) (fun (_ : Unit) t => va_P D vwCl [(hM, .inr (14, [.int ((F_X7_call rf).2.1), .int (nI R), .int (nI C), .int fi, .int di, .int he, .int br, .int pa, .int gu, .int (nI sc), .int cl, .int se, .int lo, .int lu, .int ((F_X7_call rf).2.2), .ref kl, .ref kc, .ref hB]))] t.heap ∧ va_D (va_A [(hM, .inr (14, [.int th, .int (nI R), .int (nI C), .int fi, .int di, .int he, .int br, .int pa, .int gu, .int (nI sc), .int cl, .int se, .int lo, .int lu, .int rf, .ref kl, .ref kc, .ref hB]))] s.heap.size) [(hM, .inr (14, [.int ((F_X7_call rf).2.1), .int (nI R), .int (nI C), .int fi, .int di, .int he, .int br, .int pa, .int gu, .int (nI sc), .int cl, .int se, .int lo, .int lu, .int ((F_X7_call rf).2.2), .ref kl, .ref kc, .ref hB]))]) (va_A [(hM, .inr (14, [.int th, .int (nI R), .int (nI C), .int fi, .int di, .int he, .int br, .int pa, .int gu, .int (nI sc), .int cl, .int se, .int lo, .int lu, .int rf, .ref kl, .ref kc, .ref hB]))] s.heap.size)) ([.ref hM] : List Value).toArray s 0 0 (va_A [(hM, .inr (14, [.int th, .int (nI R), .int (nI C), .int fi, .int di, .int he, .int br, .int pa, .int gu, .int (nI sc), .int cl, .int se, .int lo, .int lu, .int rf, .ref kl, .ref kc, .ref hB]))] s.heap.size) = Q
  have hP : va_P D vwCl [(hM, .inr (14, [.int th, .int (nI R), .int (nI C), .int fi, .int di, .int he, .int br, .int pa, .int gu, .int (nI sc), .int cl, .int se, .int lo, .int lu, .int rf, .ref kl, .ref kc, .ref hB]))] s.heap := hP
  obtain ⟨A, hAe⟩ : ∃ A, A = va_A [(hM, .inr (14, [.int th, .int (nI R), .int (nI C), .int fi, .int di, .int he, .int br, .int pa, .int gu, .int (nI sc), .int cl, .int se, .int lo, .int lu, .int rf, .ref kl, .ref kc, .ref hB]))] s.heap.size := ⟨_, rfl⟩
  rw [← hAe] at hD hZ hS
  have hA : ∀ q : Nat, s.heap.size ≤ q → A q := fun q h => by rw [hAe]; exact Or.inr h
  obtain ⟨H, hHe⟩ : ∃ H, H = s.heap := ⟨_, rfl⟩
  obtain ⟨locs, hLe⟩ : ∃ L : List Loc, L = [] := ⟨_, rfl⟩
  have hP : va_P D vwCl [(hM, .inr (14, [.int th, .int (nI R), .int (nI C), .int fi, .int di, .int he, .int br, .int pa, .int gu, .int (nI sc), .int cl, .int se, .int lo, .int lu, .int rf, .ref kl, .ref kc, .ref hB]))] H := by rw [hHe]; exact hP
  have hS : va_S A s.heap H locs := by rw [hHe, hLe]; exact hS
  have hgoal : W p l e ({ frames := 0, cells := 0, slots := 0, locals := 0 } : Room) s m ([.ref hM] : List Value).toArray below meth c H locs 0 0 Q (F0 m 0 ls []) := by
    clear hHe hLe
    refine lv_aload_n hx hb dX7_call_0 rfl (lv_at hl 0 rfl) ?_
    refine lv_iconst (v := 0) hx hb dX7_call_1 (by decide) ?_
    refine va_put (D := D) (ci := 14) (v := .int 0) (ty := .int) (C := RX7) (T := TX7) (N := 18) hx hb hts in_X7 tyX7 tyX7_ok nmX7 hown hK hP hD hS 0 rfl rfl 0 (by decide) (hts _ q_1268) (fun _ h9 => h9) rfl (by decide +kernel) rfl rfl (Nat.le_of_ble_eq_true rfl) dX7_call_2 (fun H locs hP hD hS => ?_)
    have hP : va_P D vwCl [(hM, .inr (14, [.int 0, .int (nI R), .int (nI C), .int fi, .int di, .int he, .int br, .int pa, .int gu, .int (nI sc), .int cl, .int se, .int lo, .int lu, .int rf, .ref kl, .ref kc, .ref hB]))] H := hP
    have hD : va_D A [(hM, .inr (14, [.int 0, .int (nI R), .int (nI C), .int fi, .int di, .int he, .int br, .int pa, .int gu, .int (nI sc), .int cl, .int se, .int lo, .int lu, .int rf, .ref kl, .ref kc, .ref hB]))] := hD
    refine lv_aload_n hx hb dX7_call_5 rfl (lv_at hl 0 rfl) ?_
    refine lv_dup hx hb dX7_call_6 rfl ?_
    refine va_get (D := D) (ci := 14) (v := .int rf) (C := RX7) (T := TX7) (N := 18) hx hb hts in_X7 hown hK hP 0 rfl rfl 14 (by decide) (hts _ q_1282) (fun _ h9 => h9) rfl dX7_call_7 ?_
    refine lv_iconst (v := 1) hx hb dX7_call_10 (by decide) ?_
    refine lv_iadd hx hb dX7_call_11 ?_
    refine va_put (D := D) (ci := 14) (v := .int (rf + 1)) (ty := .int) (C := RX7) (T := TX7) (N := 18) hx hb hts in_X7 tyX7 tyX7_ok nmX7 hown hK hP hD hS 0 rfl rfl 14 (by decide) (hts _ q_1282) (fun _ h9 => h9) rfl (by decide +kernel) rfl rfl (Nat.le_of_ble_eq_true rfl) dX7_call_12 (fun H locs hP hD hS => ?_)
    have hP : va_P D vwCl [(hM, .inr (14, [.int 0, .int (nI R), .int (nI C), .int fi, .int di, .int he, .int br, .int pa, .int gu, .int (nI sc), .int cl, .int se, .int lo, .int lu, .int (rf + 1), .ref kl, .ref kc, .ref hB]))] H := hP
    have hD : va_D A [(hM, .inr (14, [.int 0, .int (nI R), .int (nI C), .int fi, .int di, .int he, .int br, .int pa, .int gu, .int (nI sc), .int cl, .int se, .int lo, .int lu, .int (rf + 1), .ref kl, .ref kc, .ref hB]))] := hD
    refine lv_aload_n hx hb dX7_call_15 rfl (lv_at hl 0 rfl) ?_
    refine va_get (D := D) (ci := 14) (v := .int (rf + 1)) (C := RX7) (T := TX7) (N := 18) hx hb hts in_X7 hown hK hP 0 rfl rfl 14 (by decide) (hts _ q_1282) (fun _ h9 => h9) rfl dX7_call_16 ?_
    subst hQe
    subst hAe
    have hE : (F_X7_call rf) = (rf + 1, 0, rf + 1) := (by rfl)
    have hP9 := hP.sub (ws' := [(hM, .inr (14, [.int 0, .int (nI R), .int (nI C), .int fi, .int di, .int he, .int br, .int pa, .int gu, .int (nI sc), .int cl, .int se, .int lo, .int lu, .int (rf + 1), .ref kl, .ref kc, .ref hB]))]) [0] rfl
    have hD9 := hD.sub (ws' := [(hM, .inr (14, [.int 0, .int (nI R), .int (nI C), .int fi, .int di, .int he, .int br, .int pa, .int gu, .int (nI sc), .int cl, .int se, .int lo, .int lu, .int (rf + 1), .ref kl, .ref kc, .ref hB]))]) [0] (by decide) rfl
    exact W.iret (v := rf + 1) hx hb hr (fun t ht hW => ⟨⟨rf + 1, (), rfl, (by rw [hE]), (by (try rw [hE]); rw [ht]; exact hP9), (by (try rw [hE]); exact hD9)⟩, hS.F ht⟩) hS.2.2 dX7_call_19
  rw [hHe, hLe] at hgoal
  exact hgoal

def F_X7_patience (pa : Int32) (gu : Int32) (x1 : Int32) (x2 : Int32) : Int32 × Int32 × Int32 × Int32 := (if ((F_X7_start (if (F_X7_isIn x1 1 6) = 0 then (1 : Int32) else (0 : Int32)) 1).1) = 0 then (pa, (F_X7_start (if (F_X7_isIn x1 1 6) = 0 then (1 : Int32) else (0 : Int32)) 1).2, x1, x2) else (0, (F_X7_start (if (F_X7_isIn x1 1 6) = 0 then (1 : Int32) else (0 : Int32)) 1).2, pa, gu))
set_option maxHeartbeats 4000000 in
set_option maxRecDepth 100000 in
theorem c_X7_patience (l : Launch) (D : va_G) (hM : Nat) (th : Int32) (R : Nat) (C : Nat) (fi : Int32) (di : Int32) (he : Int32) (br : Int32) (pa : Int32) (gu : Int32) (sc : Nat) (cl : Int32) (se : Int32) (lo : Int32) (lu : Int32) (rf : Int32) (kl : Nat) (kc : Nat) (hB : Nat) (x1 : Int32) (x2 : Int32) (sz : Nat) (hx2 : x2 = 0 ∨ x2 = 1) : Met l yX7_patience (Cond.code yX7_patience cX7_patience 4 (some .int) :: lwAll) ({ frames := 2, cells := 0, slots := 0, locals := 44 } : Room) (va_Pc [.ref hM, .int x1, .int x2] (cPre D (lwTY D) [(hM, .inr (14, [.int th, .int (nI R), .int (nI C), .int fi, .int di, .int he, .int br, .int pa, .int gu, .int (nI sc), .int cl, .int se, .int lo, .int lu, .int rf, .ref kl, .ref kc, .ref hB]))] sz)) (va_Qi (fun (r : Int32) (_ : Unit) => r = (F_X7_patience pa gu x1 x2).1) (fun (_ : Unit) t => va_P D vwCl [(hM, .inr (14, [.int ((F_X7_patience pa gu x1 x2).2.1), .int (nI R), .int (nI C), .int fi, .int di, .int he, .int br, .int ((F_X7_patience pa gu x1 x2).2.2.1), .int ((F_X7_patience pa gu x1 x2).2.2.2), .int (nI sc), .int cl, .int se, .int lo, .int lu, .int rf, .ref kl, .ref kc, .ref hB]))] t.heap ∧ va_D (va_A [(hM, .inr (14, [.int th, .int (nI R), .int (nI C), .int fi, .int di, .int he, .int br, .int pa, .int gu, .int (nI sc), .int cl, .int se, .int lo, .int lu, .int rf, .ref kl, .ref kc, .ref hB]))] sz) [(hM, .inr (14, [.int ((F_X7_patience pa gu x1 x2).2.1), .int (nI R), .int (nI C), .int fi, .int di, .int he, .int br, .int ((F_X7_patience pa gu x1 x2).2.2.1), .int ((F_X7_patience pa gu x1 x2).2.2.2), .int (nI sc), .int cl, .int se, .int lo, .int lu, .int rf, .ref kl, .ref kc, .ref hB]))]) (va_A [(hM, .inr (14, [.int th, .int (nI R), .int (nI C), .int fi, .int di, .int he, .int br, .int pa, .int gu, .int (nI sc), .int cl, .int se, .int lo, .int lu, .int rf, .ref kl, .ref kc, .ref hB]))] sz)) 0 0 (va_A [(hM, .inr (14, [.int th, .int (nI R), .int (nI C), .int fi, .int di, .int he, .int br, .int pa, .int gu, .int (nI sc), .int cl, .int se, .int lo, .int lu, .int rf, .ref kl, .ref kc, .ref hB]))] sz) := by
  refine Met.ofW (cc := cX7_patience) (maxL := 4) (ret := (some .int)) (by decide) rfl ?_
  intro p e s m args below meth c s₁ B hml hv
  obtain ⟨rfl, hsz, hP, hK, hD0, hN, hZ⟩ := hv
  have hx := B.exec
  have hb := B.bytes
  have hr := B.returns
  have hts : ∀ wd ∈ lwAll, wd.before ([.ref hM, .int x1, .int x2] : List Value).toArray s = true := fun wd h => atoms_spec (ws := (Cond.code yX7_patience cX7_patience 4 (some .int) :: lwAll)) B.pre wd (List.mem_cons_of_mem _ h)
  have hown : s.vm.findClass RX7 = some m.cls := findClass_of_methodNamed B.named
  have hlocks := B.notSynchronized
  subst hsz
  have hD := hD0.self (sz := s.heap.size)
  have hl := lv_entry ([.ref hM, .int x1, .int x2]) (n := 4) (Nat.le_of_ble_eq_true rfl)
  rw [lg_entry_eq]
  generalize (lg_sl ([.ref hM, .int x1, .int x2]) ++ List.replicate (4 - (lg_sl ([.ref hM, .int x1, .int x2])).length) Slot.unset).toArray = ls at hl ⊢
  have hl : lv_has ls 4 [(0, .ref hM), (1, .int x1), (2, .int x2)] := hl
  have hS : va_S (va_A [(hM, .inr (14, [.int th, .int (nI R), .int (nI C), .int fi, .int di, .int he, .int br, .int pa, .int gu, .int (nI sc), .int cl, .int se, .int lo, .int lu, .int rf, .ref kl, .ref kc, .ref hB]))] s.heap.size) s.heap s.heap [] := va_S.rf
  generalize hQe : MQ below (va_Qi (fun (r : Int32) (_ : Unit) => r = (F_X7_patience pa gu x1 x2).1) (fun (_ : Unit) t => va_P D vwCl [(hM, .inr (14, [.int ((F_X7_patience pa gu x1 x2).2.1), .int (nI R), .int (nI C), .int fi, .int di, .int he, .int br, .int ((F_X7_patience pa gu x1 x2).2.2.1), .int ((F_X7_patience pa gu x1 x2).2.2.2), .int (nI sc), .int cl, .int se, .int lo, .int lu, .int rf, .ref kl, .ref kc, .ref hB]))] t.heap ∧ va_D (va_A [(hM, .inr (14, [.int th, .int (nI R), .int (nI C), .int fi, .int di, .int he, .int br, .int pa, .int gu, .int (nI sc), .int cl, .int se, .int lo, .int lu, .int rf, .ref kl, .ref kc, .ref hB]))] s.heap.size) [(hM, .inr (14, [.int ((F_X7_patience pa gu x1 x2).2.1), .int (nI R), .int (nI C), .int fi, .int di, .int he, .int br, .int ((F_X7_patience pa gu x1 x2).2.2.1), .int ((F_X7_patience pa gu x1 x2).2.2.2), .int (nI sc), .int cl, .int se, .int lo, .int lu, .int rf, .ref kl, .ref kc, .ref hB]))]) (va_A [(hM, .inr (14, [.int th, .int (nI R), .int (nI C), .int fi, .int di, .int he, .int br, .int pa, .int gu, .int (nI sc), .int cl, .int se, .int lo, .int lu, .int rf, .ref kl, .ref kc, .ref hB]))] s.heap.size)) ([.ref hM, .int x1, .int x2] : List Value).toArray s 0 0 (va_A [(hM, .inr (14, [.int th, .int (nI R), .int (nI C), .int fi, .int di, .int he, .int br, .int pa, .int gu, .int (nI sc), .int cl, .int se, .int lo, .int lu, .int rf, .ref kl, .ref kc, .ref hB]))] s.heap.size) = Q
  have hP : va_P D vwCl [(hM, .inr (14, [.int th, .int (nI R), .int (nI C), .int fi, .int di, .int he, .int br, .int pa, .int gu, .int (nI sc), .int cl, .int se, .int lo, .int lu, .int rf, .ref kl, .ref kc, .ref hB]))] s.heap := hP
  obtain ⟨A, hAe⟩ : ∃ A, A = va_A [(hM, .inr (14, [.int th, .int (nI R), .int (nI C), .int fi, .int di, .int he, .int br, .int pa, .int gu, .int (nI sc), .int cl, .int se, .int lo, .int lu, .int rf, .ref kl, .ref kc, .ref hB]))] s.heap.size := ⟨_, rfl⟩
  rw [← hAe] at hD hZ hS
  have hA : ∀ q : Nat, s.heap.size ≤ q → A q := fun q h => by rw [hAe]; exact Or.inr h
  obtain ⟨H, hHe⟩ : ∃ H, H = s.heap := ⟨_, rfl⟩
  obtain ⟨locs, hLe⟩ : ∃ L : List Loc, L = [] := ⟨_, rfl⟩
  have hP : va_P D vwCl [(hM, .inr (14, [.int th, .int (nI R), .int (nI C), .int fi, .int di, .int he, .int br, .int pa, .int gu, .int (nI sc), .int cl, .int se, .int lo, .int lu, .int rf, .ref kl, .ref kc, .ref hB]))] H := by rw [hHe]; exact hP
  have hS : va_S A s.heap H locs := by rw [hHe, hLe]; exact hS
  have hgoal : W p l e ({ frames := 2, cells := 0, slots := 0, locals := 44 } : Room) s m ([.ref hM, .int x1, .int x2] : List Value).toArray below meth c H locs 0 0 Q (F0 m 0 ls []) := by
    clear hHe hLe
    refine lv_aload_n hx hb dX7_patience_0 rfl (lv_at hl 0 rfl) ?_
    refine lv_iload_n hx hb dX7_patience_1 rfl (lv_at hl 1 rfl) ?_
    refine lv_iconst (v := 1) hx hb dX7_patience_2 (by decide) ?_
    refine lv_bipush (v := 6) hx hb dX7_patience_3 (by decide) ?_
    have hPc := hP.sub (ws' := []) [] rfl
    have hDc := hD.sub (ws' := []) [] (by decide) rfl
    have hFc := va_free (wc := []) hD hS hA [] rfl
    refine va_calli (va_runS (As := [.int x1, .int 1, .int 6]) (rest := [.ref hM]) ⟨hx, hb, hml, hown, hts⟩ (c_X7_isIn l D x1 1 6 H.size ) (cwS 3 hts (gi_S q_1327 q_1328 q_104 q_1329) rfl rfl rfl (by decide +kernel) ⟨Nat.le_of_ble_eq_true rfl, Nat.le_of_ble_eq_true rfl⟩) ⟨cPre_blind, cPre_mk hPc hK hDc hN (lwZ_for hZ hS hFc)⟩ rfl rfl hl.1 rfl (lv_room (Nat.le_of_ble_eq_true rfl)) dX7_patience_5 ⟨(Nat.le_of_ble_eq_true rfl), (Nat.le_of_ble_eq_true rfl)⟩) hS (fun q h1 h2 => absurd h2 (Nat.not_le.mpr h1)) (fun q h => hA q (Nat.le_trans hS.1 h)) (fun r_5 u t H1 locs ht hvm hw hBk hz1 hk1 hS => ?_)
    have hP := va_P_ro hP hk1
    obtain ⟨hw, z_1⟩ := hw
    rw [hw] at z_1
    subst hw
    clear hBk hvm ht u hz1 hk1
    clear hPc hDc hFc; clear t
    generalize H1 = H at hP hS ⊢
    have jn_16 : ∀ v9 : Int32, v9 = (if (F_X7_isIn x1 1 6) = 0 then (1 : Int32) else (0 : Int32)) → W p l e ({ frames := 2, cells := 0, slots := 0, locals := 44 } : Room) s m ([.ref hM, .int x1, .int x2] : List Value).toArray below meth c H locs 0 0 Q (F0 m 16 ls [.int v9, .ref hM]) := by
      intro v9 hv9
      subst hv9
      refine lv_iconst (v := 1) hx hb dX7_patience_16 (by decide) ?_
      have hPc := hP.sub (ws' := [(hM, .inr (14, [.int th, .int (nI R), .int (nI C), .int fi, .int di, .int he, .int br, .int pa, .int gu, .int (nI sc), .int cl, .int se, .int lo, .int lu, .int rf, .ref kl, .ref kc, .ref hB]))]) [0] rfl
      have hDc := hD.sub (ws' := [(hM, .inr (14, [.int th, .int (nI R), .int (nI C), .int fi, .int di, .int he, .int br, .int pa, .int gu, .int (nI sc), .int cl, .int se, .int lo, .int lu, .int rf, .ref kl, .ref kc, .ref hB]))]) [0] (by decide) rfl
      have hFc := va_free (wc := [(hM, .inr (14, [.int th, .int (nI R), .int (nI C), .int fi, .int di, .int he, .int br, .int pa, .int gu, .int (nI sc), .int cl, .int se, .int lo, .int lu, .int rf, .ref kl, .ref kc, .ref hB]))]) hD hS hA [0] rfl
      refine va_calli (va_runV (As := [.int (if (F_X7_isIn x1 1 6) = 0 then (1 : Int32) else (0 : Int32)), .int 1]) (rest := []) ⟨hx, hb, hml, hown, hts⟩ (c_X7_start l D hM th R C fi di he br pa gu sc cl se lo lu rf kl kc hB (if (F_X7_isIn x1 1 6) = 0 then (1 : Int32) else (0 : Int32)) 1 H.size ) (cwV 2 hts (gi_V q_1330 q_1332 q_52 q_104 q_1333) rfl rfl rfl (by decide +kernel) ⟨Nat.le_of_ble_eq_true rfl, Nat.le_of_ble_eq_true rfl⟩) ⟨cPre_blind, va_recv hK hP (ci := 14) (q0 := 0) rfl rfl, cPre_mk hPc hK hDc hN (lwZ_for hZ hS hFc)⟩ rfl rfl hl.1 rfl (lv_room (Nat.le_of_ble_eq_true rfl)) dX7_patience_17 ⟨(Nat.le_of_ble_eq_true rfl), (Nat.le_of_ble_eq_true rfl)⟩) hS (fun q _ h => hFc q h) hFc (fun r_17 u t H1 locs ht hvm hw hBk hz1 hk1 hS => ?_)
      obtain ⟨hP1, hD1⟩ := hBk
      rw [ht] at hP1
      obtain ⟨hP, hD⟩ := va_join (wr := []) (w1 := [(hM, .inr (14, [.int ((F_X7_start (if (F_X7_isIn x1 1 6) = 0 then (1 : Int32) else (0 : Int32)) 1).2), .int (nI R), .int (nI C), .int fi, .int di, .int he, .int br, .int pa, .int gu, .int (nI sc), .int cl, .int se, .int lo, .int lu, .int rf, .ref kl, .ref kc, .ref hB]))]) hP hD [0] [] rfl rfl (by decide) (by decide) hk1 hFc hP1 hD1
      obtain ⟨hw, z_2⟩ := hw
      rw [hw] at z_2
      subst hw
      clear hPc hDc hFc hP1 hD1 hk1 hz1
      clear hvm ht u; clear t
      generalize H1 = H at hP hS ⊢
      have hP : va_P D vwCl [(hM, .inr (14, [.int ((F_X7_start (if (F_X7_isIn x1 1 6) = 0 then (1 : Int32) else (0 : Int32)) 1).2), .int (nI R), .int (nI C), .int fi, .int di, .int he, .int br, .int pa, .int gu, .int (nI sc), .int cl, .int se, .int lo, .int lu, .int rf, .ref kl, .ref kc, .ref hB]))] H := hP
      have hD : va_D A [(hM, .inr (14, [.int ((F_X7_start (if (F_X7_isIn x1 1 6) = 0 then (1 : Int32) else (0 : Int32)) 1).2), .int (nI R), .int (nI C), .int fi, .int di, .int he, .int br, .int pa, .int gu, .int (nI sc), .int cl, .int se, .int lo, .int lu, .int rf, .ref kl, .ref kc, .ref hB]))] := hD
      refine lv_if_eq (tgt := 25) hx hb dX7_patience_20 (by decide) (fun c_3 => ?_) (fun c_3 => ?_)
      · refine lv_aload_n hx hb dX7_patience_25 rfl (lv_at hl 0 rfl) ?_
        refine va_get (D := D) (ci := 14) (v := .int pa) (C := RX7) (T := TX7) (N := 18) hx hb hts in_X7 hown hK hP 0 rfl rfl 7 (by decide) (hts _ q_1275) (fun _ h9 => h9) rfl dX7_patience_26 ?_
        refine lv_istore_n (lv' := [(3, .int pa), (0, .ref hM), (1, .int x1), (2, .int x2)]) hx hb dX7_patience_29 rfl hl (by decide) rfl (fun ls hl => ?_)
        refine lv_aload_n hx hb dX7_patience_30 rfl (lv_at hl 1 rfl) ?_
        refine lv_iload_n hx hb dX7_patience_31 rfl (lv_at hl 2 rfl) ?_
        refine va_put (D := D) (ci := 14) (v := .int x1) (ty := .int) (C := RX7) (T := TX7) (N := 18) hx hb hts in_X7 tyX7 tyX7_ok nmX7 hown hK hP hD hS 0 rfl rfl 7 (by decide) (hts _ q_1275) (fun _ h9 => h9) rfl (by decide +kernel) rfl rfl (Nat.le_of_ble_eq_true rfl) dX7_patience_32 (fun H locs hP hD hS => ?_)
        have hP : va_P D vwCl [(hM, .inr (14, [.int ((F_X7_start (if (F_X7_isIn x1 1 6) = 0 then (1 : Int32) else (0 : Int32)) 1).2), .int (nI R), .int (nI C), .int fi, .int di, .int he, .int br, .int x1, .int gu, .int (nI sc), .int cl, .int se, .int lo, .int lu, .int rf, .ref kl, .ref kc, .ref hB]))] H := hP
        have hD : va_D A [(hM, .inr (14, [.int ((F_X7_start (if (F_X7_isIn x1 1 6) = 0 then (1 : Int32) else (0 : Int32)) 1).2), .int (nI R), .int (nI C), .int fi, .int di, .int he, .int br, .int x1, .int gu, .int (nI sc), .int cl, .int se, .int lo, .int lu, .int rf, .ref kl, .ref kc, .ref hB]))] := hD
        refine lv_aload_n hx hb dX7_patience_35 rfl (lv_at hl 1 rfl) ?_
        refine lv_iload_n hx hb dX7_patience_36 rfl (lv_at hl 3 rfl) ?_
        refine va_put (D := D) (ci := 14) (v := .int x2) (ty := .boolean) (C := RX7) (T := TX7) (N := 18) hx hb hts in_X7 tyX7 tyX7_ok nmX7 hown hK hP hD hS 0 rfl rfl 8 (by decide) (hts _ q_1276) (fun _ h9 => h9) rfl (by decide +kernel) (zb_narrow (by assumption)) (zb_fits (by assumption)) (Nat.le_of_ble_eq_true rfl) dX7_patience_37 (fun H locs hP hD hS => ?_)
        have hP : va_P D vwCl [(hM, .inr (14, [.int ((F_X7_start (if (F_X7_isIn x1 1 6) = 0 then (1 : Int32) else (0 : Int32)) 1).2), .int (nI R), .int (nI C), .int fi, .int di, .int he, .int br, .int x1, .int x2, .int (nI sc), .int cl, .int se, .int lo, .int lu, .int rf, .ref kl, .ref kc, .ref hB]))] H := hP
        have hD : va_D A [(hM, .inr (14, [.int ((F_X7_start (if (F_X7_isIn x1 1 6) = 0 then (1 : Int32) else (0 : Int32)) 1).2), .int (nI R), .int (nI C), .int fi, .int di, .int he, .int br, .int x1, .int x2, .int (nI sc), .int cl, .int se, .int lo, .int lu, .int rf, .ref kl, .ref kc, .ref hB]))] := hD
        refine lv_iload_n hx hb dX7_patience_40 rfl (lv_at hl 0 rfl) ?_
        subst hQe
        subst hAe
        have hE : (F_X7_patience pa gu x1 x2) = (pa, (F_X7_start (if (F_X7_isIn x1 1 6) = 0 then (1 : Int32) else (0 : Int32)) 1).2, x1, x2) := (by unfold F_X7_patience; rw [if_pos c_3])
        have hP9 := hP.sub (ws' := [(hM, .inr (14, [.int ((F_X7_start (if (F_X7_isIn x1 1 6) = 0 then (1 : Int32) else (0 : Int32)) 1).2), .int (nI R), .int (nI C), .int fi, .int di, .int he, .int br, .int x1, .int x2, .int (nI sc), .int cl, .int se, .int lo, .int lu, .int rf, .ref kl, .ref kc, .ref hB]))]) [0] rfl
        have hD9 := hD.sub (ws' := [(hM, .inr (14, [.int ((F_X7_start (if (F_X7_isIn x1 1 6) = 0 then (1 : Int32) else (0 : Int32)) 1).2), .int (nI R), .int (nI C), .int fi, .int di, .int he, .int br, .int x1, .int x2, .int (nI sc), .int cl, .int se, .int lo, .int lu, .int rf, .ref kl, .ref kc, .ref hB]))]) [0] (by decide) rfl
        exact W.iret (v := pa) hx hb hr (fun t ht hW => ⟨⟨pa, (), rfl, (by rw [hE]), (by (try rw [hE]); rw [ht]; exact hP9), (by (try rw [hE]); exact hD9)⟩, hS.F ht⟩) hS.2.2 dX7_patience_41
      · refine lv_iconst (v := 0) hx hb dX7_patience_23 (by decide) ?_
        subst hQe
        subst hAe
        have hE : (F_X7_patience pa gu x1 x2) = (0, (F_X7_start (if (F_X7_isIn x1 1 6) = 0 then (1 : Int32) else (0 : Int32)) 1).2, pa, gu) := (by unfold F_X7_patience; rw [if_neg c_3])
        have hP9 := hP.sub (ws' := [(hM, .inr (14, [.int ((F_X7_start (if (F_X7_isIn x1 1 6) = 0 then (1 : Int32) else (0 : Int32)) 1).2), .int (nI R), .int (nI C), .int fi, .int di, .int he, .int br, .int pa, .int gu, .int (nI sc), .int cl, .int se, .int lo, .int lu, .int rf, .ref kl, .ref kc, .ref hB]))]) [0] rfl
        have hD9 := hD.sub (ws' := [(hM, .inr (14, [.int ((F_X7_start (if (F_X7_isIn x1 1 6) = 0 then (1 : Int32) else (0 : Int32)) 1).2), .int (nI R), .int (nI C), .int fi, .int di, .int he, .int br, .int pa, .int gu, .int (nI sc), .int cl, .int se, .int lo, .int lu, .int rf, .ref kl, .ref kc, .ref hB]))]) [0] (by decide) rfl
        exact W.iret (v := 0) hx hb hr (fun t ht hW => ⟨⟨0, (), rfl, (by rw [hE]), (by (try rw [hE]); rw [ht]; exact hP9), (by (try rw [hE]); exact hD9)⟩, hS.F ht⟩) hS.2.2 dX7_patience_24
    refine lv_if_ne (tgt := 15) hx hb dX7_patience_8 (by decide) (fun c_4 => ?_) (fun c_4 => ?_)
    · refine lv_iconst (v := 0) hx hb dX7_patience_15 (by decide) ?_
      exact jn_16 _ (by rw [if_neg c_4])
    · refine lv_iconst (v := 1) hx hb dX7_patience_11 (by decide) ?_
      refine lv_goto (tgt := 16) hx hb dX7_patience_12 (by decide) ?_
      exact jn_16 _ (by rw [if_pos c_4])
  rw [hHe, hLe] at hgoal
  exact hgoal

def F_X7_line (R : Nat) (C : Nat) (br : Int32) (x1 : Int32) (x2 : Int32) : Int32 × Int32 × Int32 := (if ((F_X7_start (if (F_X7_isIn x1 0 (((nI R) + (nI C)) - 1)) = 0 then (1 : Int32) else (0 : Int32)) 1).1) = 0 then (F_X7_many (F_X7_with br x1 x2), (F_X7_start (if (F_X7_isIn x1 0 (((nI R) + (nI C)) - 1)) = 0 then (1 : Int32) else (0 : Int32)) 1).2, F_X7_with br x1 x2) else (0, (F_X7_start (if (F_X7_isIn x1 0 (((nI R) + (nI C)) - 1)) = 0 then (1 : Int32) else (0 : Int32)) 1).2, br))
set_option maxHeartbeats 4000000 in
set_option maxRecDepth 100000 in
theorem c_X7_line (l : Launch) (D : va_G) (hM : Nat) (th : Int32) (R : Nat) (C : Nat) (fi : Int32) (di : Int32) (he : Int32) (br : Int32) (pa : Int32) (gu : Int32) (sc : Nat) (cl : Int32) (se : Int32) (lo : Int32) (lu : Int32) (rf : Int32) (kl : Nat) (kc : Nat) (hB : Nat) (x1 : Int32) (x2 : Int32) (sz : Nat)  : Met l yX7_line (Cond.code yX7_line cX7_line 3 (some .int) :: lwAll) ({ frames := 2, cells := 0, slots := 0, locals := 44 } : Room) (va_Pc [.ref hM, .int x1, .int x2] (cPre D (lwTY D) [(hM, .inr (14, [.int th, .int (nI R), .int (nI C), .int fi, .int di, .int he, .int br, .int pa, .int gu, .int (nI sc), .int cl, .int se, .int lo, .int lu, .int rf, .ref kl, .ref kc, .ref hB]))] sz)) (va_Qi (fun (r : Int32) (_ : Unit) => r = (F_X7_line R C br x1 x2).1) (fun (_ : Unit) t => va_P D vwCl [(hM, .inr (14, [.int ((F_X7_line R C br x1 x2).2.1), .int (nI R), .int (nI C), .int fi, .int di, .int he, .int ((F_X7_line R C br x1 x2).2.2), .int pa, .int gu, .int (nI sc), .int cl, .int se, .int lo, .int lu, .int rf, .ref kl, .ref kc, .ref hB]))] t.heap ∧ va_D (va_A [(hM, .inr (14, [.int th, .int (nI R), .int (nI C), .int fi, .int di, .int he, .int br, .int pa, .int gu, .int (nI sc), .int cl, .int se, .int lo, .int lu, .int rf, .ref kl, .ref kc, .ref hB]))] sz) [(hM, .inr (14, [.int ((F_X7_line R C br x1 x2).2.1), .int (nI R), .int (nI C), .int fi, .int di, .int he, .int ((F_X7_line R C br x1 x2).2.2), .int pa, .int gu, .int (nI sc), .int cl, .int se, .int lo, .int lu, .int rf, .ref kl, .ref kc, .ref hB]))]) (va_A [(hM, .inr (14, [.int th, .int (nI R), .int (nI C), .int fi, .int di, .int he, .int br, .int pa, .int gu, .int (nI sc), .int cl, .int se, .int lo, .int lu, .int rf, .ref kl, .ref kc, .ref hB]))] sz)) 0 0 (va_A [(hM, .inr (14, [.int th, .int (nI R), .int (nI C), .int fi, .int di, .int he, .int br, .int pa, .int gu, .int (nI sc), .int cl, .int se, .int lo, .int lu, .int rf, .ref kl, .ref kc, .ref hB]))] sz) := by
  refine Met.ofW (cc := cX7_line) (maxL := 3) (ret := (some .int)) (by decide) rfl ?_
  intro p e s m args below meth c s₁ B hml hv
  obtain ⟨rfl, hsz, hP, hK, hD0, hN, hZ⟩ := hv
  have hx := B.exec
  have hb := B.bytes
  have hr := B.returns
  have hts : ∀ wd ∈ lwAll, wd.before ([.ref hM, .int x1, .int x2] : List Value).toArray s = true := fun wd h => atoms_spec (ws := (Cond.code yX7_line cX7_line 3 (some .int) :: lwAll)) B.pre wd (List.mem_cons_of_mem _ h)
  have hown : s.vm.findClass RX7 = some m.cls := findClass_of_methodNamed B.named
  have hlocks := B.notSynchronized
  subst hsz
  have hD := hD0.self (sz := s.heap.size)
  have hl := lv_entry ([.ref hM, .int x1, .int x2]) (n := 3) (Nat.le_of_ble_eq_true rfl)
  rw [lg_entry_eq]
  generalize (lg_sl ([.ref hM, .int x1, .int x2]) ++ List.replicate (3 - (lg_sl ([.ref hM, .int x1, .int x2])).length) Slot.unset).toArray = ls at hl ⊢
  have hl : lv_has ls 3 [(0, .ref hM), (1, .int x1), (2, .int x2)] := hl
  have hS : va_S (va_A [(hM, .inr (14, [.int th, .int (nI R), .int (nI C), .int fi, .int di, .int he, .int br, .int pa, .int gu, .int (nI sc), .int cl, .int se, .int lo, .int lu, .int rf, .ref kl, .ref kc, .ref hB]))] s.heap.size) s.heap s.heap [] := va_S.rf
  generalize hQe : MQ below (va_Qi (fun (r : Int32) (_ : Unit) => r = (F_X7_line R C br x1 x2).1) (fun (_ : Unit) t => va_P D vwCl [(hM, .inr (14, [.int ((F_X7_line R C br x1 x2).2.1), .int (nI R), .int (nI C), .int fi, .int di, .int he, .int ((F_X7_line R C br x1 x2).2.2), .int pa, .int gu, .int (nI sc), .int cl, .int se, .int lo, .int lu, .int rf, .ref kl, .ref kc, .ref hB]))] t.heap ∧ va_D (va_A [(hM, .inr (14, [.int th, .int (nI R), .int (nI C), .int fi, .int di, .int he, .int br, .int pa, .int gu, .int (nI sc), .int cl, .int se, .int lo, .int lu, .int rf, .ref kl, .ref kc, .ref hB]))] s.heap.size) [(hM, .inr (14, [.int ((F_X7_line R C br x1 x2).2.1), .int (nI R), .int (nI C), .int fi, .int di, .int he, .int ((F_X7_line R C br x1 x2).2.2), .int pa, .int gu, .int (nI sc), .int cl, .int se, .int lo, .int lu, .int rf, .ref kl, .ref kc, .ref hB]))]) (va_A [(hM, .inr (14, [.int th, .int (nI R), .int (nI C), .int fi, .int di, .int he, .int br, .int pa, .int gu, .int (nI sc), .int cl, .int se, .int lo, .int lu, .int rf, .ref kl, .ref kc, .ref hB]))] s.heap.size)) ([.ref hM, .int x1, .int x2] : List Value).toArray s 0 0 (va_A [(hM, .inr (14, [.int th, .int (nI R), .int (nI C), .int fi, .int di, .int he, .int br, .int pa, .int gu, .int (nI sc), .int cl, .int se, .int lo, .int lu, .int rf, .ref kl, .ref kc, .ref hB]))] s.heap.size) = Q
  have hP : va_P D vwCl [(hM, .inr (14, [.int th, .int (nI R), .int (nI C), .int fi, .int di, .int he, .int br, .int pa, .int gu, .int (nI sc), .int cl, .int se, .int lo, .int lu, .int rf, .ref kl, .ref kc, .ref hB]))] s.heap := hP
  obtain ⟨A, hAe⟩ : ∃ A, A = va_A [(hM, .inr (14, [.int th, .int (nI R), .int (nI C), .int fi, .int di, .int he, .int br, .int pa, .int gu, .int (nI sc), .int cl, .int se, .int lo, .int lu, .int rf, .ref kl, .ref kc, .ref hB]))] s.heap.size := ⟨_, rfl⟩
  rw [← hAe] at hD hZ hS
  have hA : ∀ q : Nat, s.heap.size ≤ q → A q := fun q h => by rw [hAe]; exact Or.inr h
  obtain ⟨H, hHe⟩ : ∃ H, H = s.heap := ⟨_, rfl⟩
  obtain ⟨locs, hLe⟩ : ∃ L : List Loc, L = [] := ⟨_, rfl⟩
  have hP : va_P D vwCl [(hM, .inr (14, [.int th, .int (nI R), .int (nI C), .int fi, .int di, .int he, .int br, .int pa, .int gu, .int (nI sc), .int cl, .int se, .int lo, .int lu, .int rf, .ref kl, .ref kc, .ref hB]))] H := by rw [hHe]; exact hP
  have hS : va_S A s.heap H locs := by rw [hHe, hLe]; exact hS
  have hgoal : W p l e ({ frames := 2, cells := 0, slots := 0, locals := 44 } : Room) s m ([.ref hM, .int x1, .int x2] : List Value).toArray below meth c H locs 0 0 Q (F0 m 0 ls []) := by
    clear hHe hLe
    refine lv_aload_n hx hb dX7_line_0 rfl (lv_at hl 0 rfl) ?_
    refine lv_iload_n hx hb dX7_line_1 rfl (lv_at hl 1 rfl) ?_
    refine lv_iconst (v := 0) hx hb dX7_line_2 (by decide) ?_
    refine lv_aload_n hx hb dX7_line_3 rfl (lv_at hl 0 rfl) ?_
    refine va_get (D := D) (ci := 14) (v := .int (nI R)) (C := RX7) (T := TX7) (N := 18) hx hb hts in_X7 hown hK hP 0 rfl rfl 1 (by decide) (hts _ q_1269) (fun _ h9 => h9) rfl dX7_line_4 ?_
    refine lv_aload_n hx hb dX7_line_7 rfl (lv_at hl 0 rfl) ?_
    refine va_get (D := D) (ci := 14) (v := .int (nI C)) (C := RX7) (T := TX7) (N := 18) hx hb hts in_X7 hown hK hP 0 rfl rfl 2 (by decide) (hts _ q_1270) (fun _ h9 => h9) rfl dX7_line_8 ?_
    refine lv_iadd hx hb dX7_line_11 ?_
    refine lv_iconst (v := 1) hx hb dX7_line_12 (by decide) ?_
    refine lv_isub hx hb dX7_line_13 ?_
    have hPc := hP.sub (ws' := []) [] rfl
    have hDc := hD.sub (ws' := []) [] (by decide) rfl
    have hFc := va_free (wc := []) hD hS hA [] rfl
    refine va_calli (va_runS (As := [.int x1, .int 0, .int (((nI R) + (nI C)) - 1)]) (rest := [.ref hM]) ⟨hx, hb, hml, hown, hts⟩ (c_X7_isIn l D x1 0 (((nI R) + (nI C)) - 1) H.size ) (cwS 3 hts (gi_S q_1327 q_1328 q_104 q_1329) rfl rfl rfl (by decide +kernel) ⟨Nat.le_of_ble_eq_true rfl, Nat.le_of_ble_eq_true rfl⟩) ⟨cPre_blind, cPre_mk hPc hK hDc hN (lwZ_for hZ hS hFc)⟩ rfl rfl hl.1 rfl (lv_room (Nat.le_of_ble_eq_true rfl)) dX7_line_14 ⟨(Nat.le_of_ble_eq_true rfl), (Nat.le_of_ble_eq_true rfl)⟩) hS (fun q h1 h2 => absurd h2 (Nat.not_le.mpr h1)) (fun q h => hA q (Nat.le_trans hS.1 h)) (fun r_14 u t H1 locs ht hvm hw hBk hz1 hk1 hS => ?_)
    have hP := va_P_ro hP hk1
    obtain ⟨hw, z_1⟩ := hw
    rw [hw] at z_1
    subst hw
    clear hBk hvm ht u hz1 hk1
    clear hPc hDc hFc; clear t
    generalize H1 = H at hP hS ⊢
    have jn_25 : ∀ v9 : Int32, v9 = (if (F_X7_isIn x1 0 (((nI R) + (nI C)) - 1)) = 0 then (1 : Int32) else (0 : Int32)) → W p l e ({ frames := 2, cells := 0, slots := 0, locals := 44 } : Room) s m ([.ref hM, .int x1, .int x2] : List Value).toArray below meth c H locs 0 0 Q (F0 m 25 ls [.int v9, .ref hM]) := by
      intro v9 hv9
      subst hv9
      refine lv_iconst (v := 1) hx hb dX7_line_25 (by decide) ?_
      have hPc := hP.sub (ws' := [(hM, .inr (14, [.int th, .int (nI R), .int (nI C), .int fi, .int di, .int he, .int br, .int pa, .int gu, .int (nI sc), .int cl, .int se, .int lo, .int lu, .int rf, .ref kl, .ref kc, .ref hB]))]) [0] rfl
      have hDc := hD.sub (ws' := [(hM, .inr (14, [.int th, .int (nI R), .int (nI C), .int fi, .int di, .int he, .int br, .int pa, .int gu, .int (nI sc), .int cl, .int se, .int lo, .int lu, .int rf, .ref kl, .ref kc, .ref hB]))]) [0] (by decide) rfl
      have hFc := va_free (wc := [(hM, .inr (14, [.int th, .int (nI R), .int (nI C), .int fi, .int di, .int he, .int br, .int pa, .int gu, .int (nI sc), .int cl, .int se, .int lo, .int lu, .int rf, .ref kl, .ref kc, .ref hB]))]) hD hS hA [0] rfl
      refine va_calli (va_runV (As := [.int (if (F_X7_isIn x1 0 (((nI R) + (nI C)) - 1)) = 0 then (1 : Int32) else (0 : Int32)), .int 1]) (rest := []) ⟨hx, hb, hml, hown, hts⟩ (c_X7_start l D hM th R C fi di he br pa gu sc cl se lo lu rf kl kc hB (if (F_X7_isIn x1 0 (((nI R) + (nI C)) - 1)) = 0 then (1 : Int32) else (0 : Int32)) 1 H.size ) (cwV 2 hts (gi_V q_1330 q_1332 q_52 q_104 q_1333) rfl rfl rfl (by decide +kernel) ⟨Nat.le_of_ble_eq_true rfl, Nat.le_of_ble_eq_true rfl⟩) ⟨cPre_blind, va_recv hK hP (ci := 14) (q0 := 0) rfl rfl, cPre_mk hPc hK hDc hN (lwZ_for hZ hS hFc)⟩ rfl rfl hl.1 rfl (lv_room (Nat.le_of_ble_eq_true rfl)) dX7_line_26 ⟨(Nat.le_of_ble_eq_true rfl), (Nat.le_of_ble_eq_true rfl)⟩) hS (fun q _ h => hFc q h) hFc (fun r_26 u t H1 locs ht hvm hw hBk hz1 hk1 hS => ?_)
      obtain ⟨hP1, hD1⟩ := hBk
      rw [ht] at hP1
      obtain ⟨hP, hD⟩ := va_join (wr := []) (w1 := [(hM, .inr (14, [.int ((F_X7_start (if (F_X7_isIn x1 0 (((nI R) + (nI C)) - 1)) = 0 then (1 : Int32) else (0 : Int32)) 1).2), .int (nI R), .int (nI C), .int fi, .int di, .int he, .int br, .int pa, .int gu, .int (nI sc), .int cl, .int se, .int lo, .int lu, .int rf, .ref kl, .ref kc, .ref hB]))]) hP hD [0] [] rfl rfl (by decide) (by decide) hk1 hFc hP1 hD1
      obtain ⟨hw, z_2⟩ := hw
      rw [hw] at z_2
      subst hw
      clear hPc hDc hFc hP1 hD1 hk1 hz1
      clear hvm ht u; clear t
      generalize H1 = H at hP hS ⊢
      have hP : va_P D vwCl [(hM, .inr (14, [.int ((F_X7_start (if (F_X7_isIn x1 0 (((nI R) + (nI C)) - 1)) = 0 then (1 : Int32) else (0 : Int32)) 1).2), .int (nI R), .int (nI C), .int fi, .int di, .int he, .int br, .int pa, .int gu, .int (nI sc), .int cl, .int se, .int lo, .int lu, .int rf, .ref kl, .ref kc, .ref hB]))] H := hP
      have hD : va_D A [(hM, .inr (14, [.int ((F_X7_start (if (F_X7_isIn x1 0 (((nI R) + (nI C)) - 1)) = 0 then (1 : Int32) else (0 : Int32)) 1).2), .int (nI R), .int (nI C), .int fi, .int di, .int he, .int br, .int pa, .int gu, .int (nI sc), .int cl, .int se, .int lo, .int lu, .int rf, .ref kl, .ref kc, .ref hB]))] := hD
      refine lv_if_eq (tgt := 34) hx hb dX7_line_29 (by decide) (fun c_3 => ?_) (fun c_3 => ?_)
      · refine lv_aload_n hx hb dX7_line_34 rfl (lv_at hl 0 rfl) ?_
        refine lv_aload_n hx hb dX7_line_35 rfl (lv_at hl 0 rfl) ?_
        refine va_get (D := D) (ci := 14) (v := .int br) (C := RX7) (T := TX7) (N := 18) hx hb hts in_X7 hown hK hP 0 rfl rfl 6 (by decide) (hts _ q_1274) (fun _ h9 => h9) rfl dX7_line_36 ?_
        refine lv_iload_n hx hb dX7_line_39 rfl (lv_at hl 1 rfl) ?_
        refine lv_iload_n hx hb dX7_line_40 rfl (lv_at hl 2 rfl) ?_
        have hPc := hP.sub (ws' := []) [] rfl
        have hDc := hD.sub (ws' := []) [] (by decide) rfl
        have hFc := va_free (wc := []) hD hS hA [] rfl
        refine va_calli (va_runS (As := [.int br, .int x1, .int x2]) (rest := [.ref hM]) ⟨hx, hb, hml, hown, hts⟩ (c_X7_with l D br x1 x2 H.size ) (cwS 3 hts (gi_S q_1346 q_1347 q_104 q_1348) rfl rfl rfl (by decide +kernel) ⟨Nat.le_of_ble_eq_true rfl, Nat.le_of_ble_eq_true rfl⟩) ⟨cPre_blind, cPre_mk hPc hK hDc hN (lwZ_for hZ hS hFc)⟩ rfl rfl hl.1 rfl (lv_room (Nat.le_of_ble_eq_true rfl)) dX7_line_41 ⟨(Nat.le_of_ble_eq_true rfl), (Nat.le_of_ble_eq_true rfl)⟩) hS (fun q h1 h2 => absurd h2 (Nat.not_le.mpr h1)) (fun q h => hA q (Nat.le_trans hS.1 h)) (fun r_41 u t H1 locs ht hvm hw hBk hz1 hk1 hS => ?_)
        have hP := va_P_ro hP hk1
        subst hw
        clear hBk hvm ht u hz1 hk1
        clear hPc hDc hFc; clear t
        generalize H1 = H at hP hS ⊢
        refine va_put (D := D) (ci := 14) (v := .int (F_X7_with br x1 x2)) (ty := .int) (C := RX7) (T := TX7) (N := 18) hx hb hts in_X7 tyX7 tyX7_ok nmX7 hown hK hP hD hS 0 rfl rfl 6 (by decide) (hts _ q_1274) (fun _ h9 => h9) rfl (by decide +kernel) rfl rfl (Nat.le_of_ble_eq_true rfl) dX7_line_44 (fun H locs hP hD hS => ?_)
        have hP : va_P D vwCl [(hM, .inr (14, [.int ((F_X7_start (if (F_X7_isIn x1 0 (((nI R) + (nI C)) - 1)) = 0 then (1 : Int32) else (0 : Int32)) 1).2), .int (nI R), .int (nI C), .int fi, .int di, .int he, .int (F_X7_with br x1 x2), .int pa, .int gu, .int (nI sc), .int cl, .int se, .int lo, .int lu, .int rf, .ref kl, .ref kc, .ref hB]))] H := hP
        have hD : va_D A [(hM, .inr (14, [.int ((F_X7_start (if (F_X7_isIn x1 0 (((nI R) + (nI C)) - 1)) = 0 then (1 : Int32) else (0 : Int32)) 1).2), .int (nI R), .int (nI C), .int fi, .int di, .int he, .int (F_X7_with br x1 x2), .int pa, .int gu, .int (nI sc), .int cl, .int se, .int lo, .int lu, .int rf, .ref kl, .ref kc, .ref hB]))] := hD
        refine lv_aload_n hx hb dX7_line_47 rfl (lv_at hl 0 rfl) ?_
        refine va_get (D := D) (ci := 14) (v := .int (F_X7_with br x1 x2)) (C := RX7) (T := TX7) (N := 18) hx hb hts in_X7 hown hK hP 0 rfl rfl 6 (by decide) (hts _ q_1274) (fun _ h9 => h9) rfl dX7_line_48 ?_
        have hPc := hP.sub (ws' := []) [] rfl
        have hDc := hD.sub (ws' := []) [] (by decide) rfl
        have hFc := va_free (wc := []) hD hS hA [] rfl
        refine va_calli (va_runS (As := [.int (F_X7_with br x1 x2)]) (rest := []) ⟨hx, hb, hml, hown, hts⟩ (c_X7_many l D (F_X7_with br x1 x2) H.size ) (cwS 1 hts (gi_S q_1368 q_1369 q_104 q_1370) rfl rfl rfl (by decide +kernel) ⟨Nat.le_of_ble_eq_true rfl, Nat.le_of_ble_eq_true rfl⟩) ⟨cPre_blind, cPre_mk hPc hK hDc hN (lwZ_for hZ hS hFc)⟩ rfl rfl hl.1 rfl (lv_room (Nat.le_of_ble_eq_true rfl)) dX7_line_51 ⟨(Nat.le_of_ble_eq_true rfl), (Nat.le_of_ble_eq_true rfl)⟩) hS (fun q h1 h2 => absurd h2 (Nat.not_le.mpr h1)) (fun q h => hA q (Nat.le_trans hS.1 h)) (fun r_51 u t H1 locs ht hvm hw hBk hz1 hk1 hS => ?_)
        have hP := va_P_ro hP hk1
        subst hw
        clear hBk hvm ht u hz1 hk1
        clear hPc hDc hFc; clear t
        generalize H1 = H at hP hS ⊢
        subst hQe
        subst hAe
        have hE : (F_X7_line R C br x1 x2) = (F_X7_many (F_X7_with br x1 x2), (F_X7_start (if (F_X7_isIn x1 0 (((nI R) + (nI C)) - 1)) = 0 then (1 : Int32) else (0 : Int32)) 1).2, F_X7_with br x1 x2) := (by unfold F_X7_line; rw [if_pos c_3])
        have hP9 := hP.sub (ws' := [(hM, .inr (14, [.int ((F_X7_start (if (F_X7_isIn x1 0 (((nI R) + (nI C)) - 1)) = 0 then (1 : Int32) else (0 : Int32)) 1).2), .int (nI R), .int (nI C), .int fi, .int di, .int he, .int (F_X7_with br x1 x2), .int pa, .int gu, .int (nI sc), .int cl, .int se, .int lo, .int lu, .int rf, .ref kl, .ref kc, .ref hB]))]) [0] rfl
        have hD9 := hD.sub (ws' := [(hM, .inr (14, [.int ((F_X7_start (if (F_X7_isIn x1 0 (((nI R) + (nI C)) - 1)) = 0 then (1 : Int32) else (0 : Int32)) 1).2), .int (nI R), .int (nI C), .int fi, .int di, .int he, .int (F_X7_with br x1 x2), .int pa, .int gu, .int (nI sc), .int cl, .int se, .int lo, .int lu, .int rf, .ref kl, .ref kc, .ref hB]))]) [0] (by decide) rfl
        exact W.iret (v := F_X7_many (F_X7_with br x1 x2)) hx hb hr (fun t ht hW => ⟨⟨F_X7_many (F_X7_with br x1 x2), (), rfl, (by rw [hE]), (by (try rw [hE]); rw [ht]; exact hP9), (by (try rw [hE]); exact hD9)⟩, hS.F ht⟩) hS.2.2 dX7_line_54
      · refine lv_iconst (v := 0) hx hb dX7_line_32 (by decide) ?_
        subst hQe
        subst hAe
        have hE : (F_X7_line R C br x1 x2) = (0, (F_X7_start (if (F_X7_isIn x1 0 (((nI R) + (nI C)) - 1)) = 0 then (1 : Int32) else (0 : Int32)) 1).2, br) := (by unfold F_X7_line; rw [if_neg c_3])
        have hP9 := hP.sub (ws' := [(hM, .inr (14, [.int ((F_X7_start (if (F_X7_isIn x1 0 (((nI R) + (nI C)) - 1)) = 0 then (1 : Int32) else (0 : Int32)) 1).2), .int (nI R), .int (nI C), .int fi, .int di, .int he, .int br, .int pa, .int gu, .int (nI sc), .int cl, .int se, .int lo, .int lu, .int rf, .ref kl, .ref kc, .ref hB]))]) [0] rfl
        have hD9 := hD.sub (ws' := [(hM, .inr (14, [.int ((F_X7_start (if (F_X7_isIn x1 0 (((nI R) + (nI C)) - 1)) = 0 then (1 : Int32) else (0 : Int32)) 1).2), .int (nI R), .int (nI C), .int fi, .int di, .int he, .int br, .int pa, .int gu, .int (nI sc), .int cl, .int se, .int lo, .int lu, .int rf, .ref kl, .ref kc, .ref hB]))]) [0] (by decide) rfl
        exact W.iret (v := 0) hx hb hr (fun t ht hW => ⟨⟨0, (), rfl, (by rw [hE]), (by (try rw [hE]); rw [ht]; exact hP9), (by (try rw [hE]); exact hD9)⟩, hS.F ht⟩) hS.2.2 dX7_line_33
    refine lv_if_ne (tgt := 24) hx hb dX7_line_17 (by decide) (fun c_4 => ?_) (fun c_4 => ?_)
    · refine lv_iconst (v := 0) hx hb dX7_line_24 (by decide) ?_
      exact jn_25 _ (by rw [if_neg c_4])
    · refine lv_iconst (v := 1) hx hb dX7_line_20 (by decide) ?_
      refine lv_goto (tgt := 25) hx hb dX7_line_21 (by decide) ?_
      exact jn_25 _ (by rw [if_pos c_4])
  rw [hHe, hLe] at hgoal
  exact hgoal

def F_X7_seen (R : Nat) (C : Nat) (fi : Int32) (di : Int32) (br : Int32) (K : Nat) (x1 : Int32) : Int32 × Int32 := (if ((F_X7_start (F_X7_isNoSet K x1) 1).1) = 0 then (F_X7_seenOf R C fi br K x1 di, (F_X7_start (F_X7_isNoSet K x1) 1).2) else (0, (F_X7_start (F_X7_isNoSet K x1) 1).2))
set_option maxHeartbeats 4000000 in
set_option maxRecDepth 100000 in
theorem c_X7_seen (l : Launch) (D : va_G) (hM : Nat) (th : Int32) (R : Nat) (C : Nat) (fi : Int32) (di : Int32) (he : Int32) (br : Int32) (pa : Int32) (gu : Int32) (sc : Nat) (cl : Int32) (se : Int32) (lo : Int32) (lu : Int32) (rf : Int32) (kl : Nat) (kc : Nat) (hB : Nat) (km : Int32) (kd : Nat) (K : Nat) (x1 : Int32) (sz : Nat) (hR : R ≤ 5) (hC : C ≤ 5) (hC0 : 0 < C) (hKb : K ≤ 25) : Met l yX7_seen (Cond.code yX7_seen cX7_seen 2 (some .int) :: lwAll) ({ frames := 3, cells := 0, slots := 0, locals := 72 } : Room) (va_Pc [.ref hM, .int x1] (cPre D (lwTY D) [(hM, .inr (14, [.int th, .int (nI R), .int (nI C), .int fi, .int di, .int he, .int br, .int pa, .int gu, .int (nI sc), .int cl, .int se, .int lo, .int lu, .int rf, .ref kl, .ref kc, .ref hB])), (kl, .inr (6, [.int km, .ref kd, .int (nI K)]))] sz)) (va_Qi (fun (r : Int32) (_ : Unit) => r = (F_X7_seen R C fi di br K x1).1) (fun (_ : Unit) t => va_P D vwCl [(hM, .inr (14, [.int ((F_X7_seen R C fi di br K x1).2), .int (nI R), .int (nI C), .int fi, .int di, .int he, .int br, .int pa, .int gu, .int (nI sc), .int cl, .int se, .int lo, .int lu, .int rf, .ref kl, .ref kc, .ref hB])), (kl, .inr (6, [.int km, .ref kd, .int (nI K)]))] t.heap ∧ va_D (va_A [(hM, .inr (14, [.int th, .int (nI R), .int (nI C), .int fi, .int di, .int he, .int br, .int pa, .int gu, .int (nI sc), .int cl, .int se, .int lo, .int lu, .int rf, .ref kl, .ref kc, .ref hB])), (kl, .inr (6, [.int km, .ref kd, .int (nI K)]))] sz) [(hM, .inr (14, [.int ((F_X7_seen R C fi di br K x1).2), .int (nI R), .int (nI C), .int fi, .int di, .int he, .int br, .int pa, .int gu, .int (nI sc), .int cl, .int se, .int lo, .int lu, .int rf, .ref kl, .ref kc, .ref hB])), (kl, .inr (6, [.int km, .ref kd, .int (nI K)]))]) (va_A [(hM, .inr (14, [.int th, .int (nI R), .int (nI C), .int fi, .int di, .int he, .int br, .int pa, .int gu, .int (nI sc), .int cl, .int se, .int lo, .int lu, .int rf, .ref kl, .ref kc, .ref hB])), (kl, .inr (6, [.int km, .ref kd, .int (nI K)]))] sz)) 0 0 (va_A [(hM, .inr (14, [.int th, .int (nI R), .int (nI C), .int fi, .int di, .int he, .int br, .int pa, .int gu, .int (nI sc), .int cl, .int se, .int lo, .int lu, .int rf, .ref kl, .ref kc, .ref hB])), (kl, .inr (6, [.int km, .ref kd, .int (nI K)]))] sz) := by
  refine Met.ofW (cc := cX7_seen) (maxL := 2) (ret := (some .int)) (by decide) rfl ?_
  intro p e s m args below meth c s₁ B hml hv
  obtain ⟨rfl, hsz, hP, hK, hD0, hN, hZ⟩ := hv
  have hx := B.exec
  have hb := B.bytes
  have hr := B.returns
  have hts : ∀ wd ∈ lwAll, wd.before ([.ref hM, .int x1] : List Value).toArray s = true := fun wd h => atoms_spec (ws := (Cond.code yX7_seen cX7_seen 2 (some .int) :: lwAll)) B.pre wd (List.mem_cons_of_mem _ h)
  have hown : s.vm.findClass RX7 = some m.cls := findClass_of_methodNamed B.named
  have hlocks := B.notSynchronized
  subst hsz
  have hD := hD0.self (sz := s.heap.size)
  have hl := lv_entry ([.ref hM, .int x1]) (n := 2) (Nat.le_of_ble_eq_true rfl)
  rw [lg_entry_eq]
  generalize (lg_sl ([.ref hM, .int x1]) ++ List.replicate (2 - (lg_sl ([.ref hM, .int x1])).length) Slot.unset).toArray = ls at hl ⊢
  have hl : lv_has ls 2 [(0, .ref hM), (1, .int x1)] := hl
  have hS : va_S (va_A [(hM, .inr (14, [.int th, .int (nI R), .int (nI C), .int fi, .int di, .int he, .int br, .int pa, .int gu, .int (nI sc), .int cl, .int se, .int lo, .int lu, .int rf, .ref kl, .ref kc, .ref hB])), (kl, .inr (6, [.int km, .ref kd, .int (nI K)]))] s.heap.size) s.heap s.heap [] := va_S.rf
  generalize hQe : MQ below (va_Qi (fun (r : Int32) (_ : Unit) => r = (F_X7_seen R C fi di br K x1).1) (fun (_ : Unit) t => va_P D vwCl [(hM, .inr (14, [.int ((F_X7_seen R C fi di br K x1).2), .int (nI R), .int (nI C), .int fi, .int di, .int he, .int br, .int pa, .int gu, .int (nI sc), .int cl, .int se, .int lo, .int lu, .int rf, .ref kl, .ref kc, .ref hB])), (kl, .inr (6, [.int km, .ref kd, .int (nI K)]))] t.heap ∧ va_D (va_A [(hM, .inr (14, [.int th, .int (nI R), .int (nI C), .int fi, .int di, .int he, .int br, .int pa, .int gu, .int (nI sc), .int cl, .int se, .int lo, .int lu, .int rf, .ref kl, .ref kc, .ref hB])), (kl, .inr (6, [.int km, .ref kd, .int (nI K)]))] s.heap.size) [(hM, .inr (14, [.int ((F_X7_seen R C fi di br K x1).2), .int (nI R), .int (nI C), .int fi, .int di, .int he, .int br, .int pa, .int gu, .int (nI sc), .int cl, .int se, .int lo, .int lu, .int rf, .ref kl, .ref kc, .ref hB])), (kl, .inr (6, [.int km, .ref kd, .int (nI K)]))]) (va_A [(hM, .inr (14, [.int th, .int (nI R), .int (nI C), .int fi, .int di, .int he, .int br, .int pa, .int gu, .int (nI sc), .int cl, .int se, .int lo, .int lu, .int rf, .ref kl, .ref kc, .ref hB])), (kl, .inr (6, [.int km, .ref kd, .int (nI K)]))] s.heap.size)) ([.ref hM, .int x1] : List Value).toArray s 0 0 (va_A [(hM, .inr (14, [.int th, .int (nI R), .int (nI C), .int fi, .int di, .int he, .int br, .int pa, .int gu, .int (nI sc), .int cl, .int se, .int lo, .int lu, .int rf, .ref kl, .ref kc, .ref hB])), (kl, .inr (6, [.int km, .ref kd, .int (nI K)]))] s.heap.size) = Q
  have hP : va_P D vwCl [(hM, .inr (14, [.int th, .int (nI R), .int (nI C), .int fi, .int di, .int he, .int br, .int pa, .int gu, .int (nI sc), .int cl, .int se, .int lo, .int lu, .int rf, .ref kl, .ref kc, .ref hB])), (kl, .inr (6, [.int km, .ref kd, .int (nI K)]))] s.heap := hP
  obtain ⟨A, hAe⟩ : ∃ A, A = va_A [(hM, .inr (14, [.int th, .int (nI R), .int (nI C), .int fi, .int di, .int he, .int br, .int pa, .int gu, .int (nI sc), .int cl, .int se, .int lo, .int lu, .int rf, .ref kl, .ref kc, .ref hB])), (kl, .inr (6, [.int km, .ref kd, .int (nI K)]))] s.heap.size := ⟨_, rfl⟩
  rw [← hAe] at hD hZ hS
  have hA : ∀ q : Nat, s.heap.size ≤ q → A q := fun q h => by rw [hAe]; exact Or.inr h
  obtain ⟨H, hHe⟩ : ∃ H, H = s.heap := ⟨_, rfl⟩
  obtain ⟨locs, hLe⟩ : ∃ L : List Loc, L = [] := ⟨_, rfl⟩
  have hP : va_P D vwCl [(hM, .inr (14, [.int th, .int (nI R), .int (nI C), .int fi, .int di, .int he, .int br, .int pa, .int gu, .int (nI sc), .int cl, .int se, .int lo, .int lu, .int rf, .ref kl, .ref kc, .ref hB])), (kl, .inr (6, [.int km, .ref kd, .int (nI K)]))] H := by rw [hHe]; exact hP
  have hS : va_S A s.heap H locs := by rw [hHe, hLe]; exact hS
  have hgoal : W p l e ({ frames := 3, cells := 0, slots := 0, locals := 72 } : Room) s m ([.ref hM, .int x1] : List Value).toArray below meth c H locs 0 0 Q (F0 m 0 ls []) := by
    clear hHe hLe
    refine lv_aload_n hx hb dX7_seen_0 rfl (lv_at hl 0 rfl) ?_
    refine lv_aload_n hx hb dX7_seen_1 rfl (lv_at hl 0 rfl) ?_
    refine lv_iload_n hx hb dX7_seen_2 rfl (lv_at hl 1 rfl) ?_
    have hPc := hP.sub (ws' := [(hM, .inr (14, [.int th, .int (nI R), .int (nI C), .int fi, .int di, .int he, .int br, .int pa, .int gu, .int (nI sc), .int cl, .int se, .int lo, .int lu, .int rf, .ref kl, .ref kc, .ref hB])), (kl, .inr (6, [.int km, .ref kd, .int (nI K)]))]) [0, 1] rfl
    have hDc := hD.sub (ws' := [(hM, .inr (14, [.int th, .int (nI R), .int (nI C), .int fi, .int di, .int he, .int br, .int pa, .int gu, .int (nI sc), .int cl, .int se, .int lo, .int lu, .int rf, .ref kl, .ref kc, .ref hB])), (kl, .inr (6, [.int km, .ref kd, .int (nI K)]))]) [0, 1] (by decide) rfl
    have hFc := va_free (wc := [(hM, .inr (14, [.int th, .int (nI R), .int (nI C), .int fi, .int di, .int he, .int br, .int pa, .int gu, .int (nI sc), .int cl, .int se, .int lo, .int lu, .int rf, .ref kl, .ref kc, .ref hB])), (kl, .inr (6, [.int km, .ref kd, .int (nI K)]))]) hD hS hA [0, 1] rfl
    refine va_calli (va_runV (As := [.int x1]) (rest := [.ref hM]) ⟨hx, hb, hml, hown, hts⟩ (c_X7_isNoSet l D hM th R C fi di he br pa gu sc cl se lo lu rf kl kc hB km kd K x1 H.size ) (cwV 1 hts (gi_V q_1387 q_1389 q_56 q_104 q_1390) rfl rfl rfl (by decide +kernel) ⟨Nat.le_of_ble_eq_true rfl, Nat.le_of_ble_eq_true rfl⟩) ⟨cPre_blind, va_recv hK hP (ci := 14) (q0 := 0) rfl rfl, cPre_mk hPc hK hDc hN (lwZ_for hZ hS hFc)⟩ rfl rfl hl.1 rfl (lv_room (Nat.le_of_ble_eq_true rfl)) dX7_seen_3 ⟨(Nat.le_of_ble_eq_true rfl), (Nat.le_of_ble_eq_true rfl)⟩) hS (fun q h1 h2 => absurd h2 (Nat.not_le.mpr h1)) (fun q h => hA q (Nat.le_trans hS.1 h)) (fun r_3 u t H1 locs ht hvm hw hBk hz1 hk1 hS => ?_)
    have hP := va_P_ro hP hk1
    obtain ⟨hw, z_1⟩ := hw
    rw [hw] at z_1
    subst hw
    clear hBk hvm ht u hz1 hk1
    clear hPc hDc hFc; clear t
    generalize H1 = H at hP hS ⊢
    refine lv_iconst (v := 1) hx hb dX7_seen_6 (by decide) ?_
    have hPc := hP.sub (ws' := [(hM, .inr (14, [.int th, .int (nI R), .int (nI C), .int fi, .int di, .int he, .int br, .int pa, .int gu, .int (nI sc), .int cl, .int se, .int lo, .int lu, .int rf, .ref kl, .ref kc, .ref hB]))]) [0] rfl
    have hDc := hD.sub (ws' := [(hM, .inr (14, [.int th, .int (nI R), .int (nI C), .int fi, .int di, .int he, .int br, .int pa, .int gu, .int (nI sc), .int cl, .int se, .int lo, .int lu, .int rf, .ref kl, .ref kc, .ref hB]))]) [0] (by decide) rfl
    have hFc := va_free (wc := [(hM, .inr (14, [.int th, .int (nI R), .int (nI C), .int fi, .int di, .int he, .int br, .int pa, .int gu, .int (nI sc), .int cl, .int se, .int lo, .int lu, .int rf, .ref kl, .ref kc, .ref hB]))]) hD hS hA [0] rfl
    refine va_calli (va_runV (As := [.int (F_X7_isNoSet K x1), .int 1]) (rest := []) ⟨hx, hb, hml, hown, hts⟩ (c_X7_start l D hM th R C fi di he br pa gu sc cl se lo lu rf kl kc hB (F_X7_isNoSet K x1) 1 H.size ) (cwV 2 hts (gi_V q_1330 q_1332 q_52 q_104 q_1333) rfl rfl rfl (by decide +kernel) ⟨Nat.le_of_ble_eq_true rfl, Nat.le_of_ble_eq_true rfl⟩) ⟨cPre_blind, va_recv hK hP (ci := 14) (q0 := 0) rfl rfl, cPre_mk hPc hK hDc hN (lwZ_for hZ hS hFc)⟩ rfl rfl hl.1 rfl (lv_room (Nat.le_of_ble_eq_true rfl)) dX7_seen_7 ⟨(Nat.le_of_ble_eq_true rfl), (Nat.le_of_ble_eq_true rfl)⟩) hS (fun q _ h => hFc q h) hFc (fun r_7 u t H1 locs ht hvm hw hBk hz1 hk1 hS => ?_)
    obtain ⟨hP1, hD1⟩ := hBk
    rw [ht] at hP1
    obtain ⟨hP, hD⟩ := va_join (wr := [(kl, .inr (6, [.int km, .ref kd, .int (nI K)]))]) (w1 := [(hM, .inr (14, [.int ((F_X7_start (F_X7_isNoSet K x1) 1).2), .int (nI R), .int (nI C), .int fi, .int di, .int he, .int br, .int pa, .int gu, .int (nI sc), .int cl, .int se, .int lo, .int lu, .int rf, .ref kl, .ref kc, .ref hB]))]) hP hD [0] [1] rfl rfl (by decide) (by decide) hk1 hFc hP1 hD1
    obtain ⟨hw, z_2⟩ := hw
    rw [hw] at z_2
    subst hw
    clear hPc hDc hFc hP1 hD1 hk1 hz1
    clear hvm ht u; clear t
    generalize H1 = H at hP hS ⊢
    have hP : va_P D vwCl [(kl, .inr (6, [.int km, .ref kd, .int (nI K)])), (hM, .inr (14, [.int ((F_X7_start (F_X7_isNoSet K x1) 1).2), .int (nI R), .int (nI C), .int fi, .int di, .int he, .int br, .int pa, .int gu, .int (nI sc), .int cl, .int se, .int lo, .int lu, .int rf, .ref kl, .ref kc, .ref hB]))] H := hP
    have hD : va_D A [(kl, .inr (6, [.int km, .ref kd, .int (nI K)])), (hM, .inr (14, [.int ((F_X7_start (F_X7_isNoSet K x1) 1).2), .int (nI R), .int (nI C), .int fi, .int di, .int he, .int br, .int pa, .int gu, .int (nI sc), .int cl, .int se, .int lo, .int lu, .int rf, .ref kl, .ref kc, .ref hB]))] := hD
    refine lv_if_eq (tgt := 17) hx hb dX7_seen_10 (by decide) (fun c_3 => ?_) (fun c_3 => ?_)
    · refine lv_aload_n hx hb dX7_seen_17 rfl (lv_at hl 0 rfl) ?_
      refine lv_iload_n hx hb dX7_seen_18 rfl (lv_at hl 1 rfl) ?_
      refine lv_aload_n hx hb dX7_seen_19 rfl (lv_at hl 0 rfl) ?_
      refine va_get (D := D) (ci := 14) (v := .int di) (C := RX7) (T := TX7) (N := 18) hx hb hts in_X7 hown hK hP 1 rfl rfl 4 (by decide) (hts _ q_1272) (fun _ h9 => h9) rfl dX7_seen_20 ?_
      have hPc := hP.sub (ws' := [(hM, .inr (14, [.int ((F_X7_start (F_X7_isNoSet K x1) 1).2), .int (nI R), .int (nI C), .int fi, .int di, .int he, .int br, .int pa, .int gu, .int (nI sc), .int cl, .int se, .int lo, .int lu, .int rf, .ref kl, .ref kc, .ref hB])), (kl, .inr (6, [.int km, .ref kd, .int (nI K)]))]) [1, 0] rfl
      have hDc := hD.sub (ws' := [(hM, .inr (14, [.int ((F_X7_start (F_X7_isNoSet K x1) 1).2), .int (nI R), .int (nI C), .int fi, .int di, .int he, .int br, .int pa, .int gu, .int (nI sc), .int cl, .int se, .int lo, .int lu, .int rf, .ref kl, .ref kc, .ref hB])), (kl, .inr (6, [.int km, .ref kd, .int (nI K)]))]) [1, 0] (by decide) rfl
      have hFc := va_free (wc := [(hM, .inr (14, [.int ((F_X7_start (F_X7_isNoSet K x1) 1).2), .int (nI R), .int (nI C), .int fi, .int di, .int he, .int br, .int pa, .int gu, .int (nI sc), .int cl, .int se, .int lo, .int lu, .int rf, .ref kl, .ref kc, .ref hB])), (kl, .inr (6, [.int km, .ref kd, .int (nI K)]))]) hD hS hA [1, 0] rfl
      refine va_calli (va_runV (As := [.int x1, .int di]) (rest := []) ⟨hx, hb, hml, hown, hts⟩ (c_X7_seenOf l D hM ((F_X7_start (F_X7_isNoSet K x1) 1).2) R C fi di he br pa gu sc cl se lo lu rf kl kc hB km kd K x1 di H.size (show R ≤ 5 from hR) (show C ≤ 5 from hC) (show 0 < C from hC0) (show K ≤ 25 from hKb)) (cwV 2 hts (gi_V q_1407 q_1409 q_59 q_104 q_1410) rfl rfl rfl (by decide +kernel) ⟨Nat.le_of_ble_eq_true rfl, Nat.le_of_ble_eq_true rfl⟩) ⟨cPre_blind, va_recv hK hP (ci := 14) (q0 := 1) rfl rfl, cPre_mk hPc hK hDc hN (lwZ_for hZ hS hFc)⟩ rfl rfl hl.1 rfl (lv_room (Nat.le_of_ble_eq_true rfl)) dX7_seen_23 ⟨(Nat.le_of_ble_eq_true rfl), (Nat.le_of_ble_eq_true rfl)⟩) hS (fun q h1 h2 => absurd h2 (Nat.not_le.mpr h1)) (fun q h => hA q (Nat.le_trans hS.1 h)) (fun r_23 u t H1 locs ht hvm hw hBk hz1 hk1 hS => ?_)
      have hP := va_P_ro hP hk1
      subst hw
      clear hBk hvm ht u hz1 hk1
      clear hPc hDc hFc; clear t
      generalize H1 = H at hP hS ⊢
      subst hQe
      subst hAe
      have hE : (F_X7_seen R C fi di br K x1) = (F_X7_seenOf R C fi br K x1 di, (F_X7_start (F_X7_isNoSet K x1) 1).2) := (by unfold F_X7_seen; rw [if_pos c_3])
      have hP9 := hP.sub (ws' := [(hM, .inr (14, [.int ((F_X7_start (F_X7_isNoSet K x1) 1).2), .int (nI R), .int (nI C), .int fi, .int di, .int he, .int br, .int pa, .int gu, .int (nI sc), .int cl, .int se, .int lo, .int lu, .int rf, .ref kl, .ref kc, .ref hB])), (kl, .inr (6, [.int km, .ref kd, .int (nI K)]))]) [1, 0] rfl
      have hD9 := hD.sub (ws' := [(hM, .inr (14, [.int ((F_X7_start (F_X7_isNoSet K x1) 1).2), .int (nI R), .int (nI C), .int fi, .int di, .int he, .int br, .int pa, .int gu, .int (nI sc), .int cl, .int se, .int lo, .int lu, .int rf, .ref kl, .ref kc, .ref hB])), (kl, .inr (6, [.int km, .ref kd, .int (nI K)]))]) [1, 0] (by decide) rfl
      exact W.iret (v := F_X7_seenOf R C fi br K x1 di) hx hb hr (fun t ht hW => ⟨⟨F_X7_seenOf R C fi br K x1 di, (), rfl, (by rw [hE]), (by (try rw [hE]); rw [ht]; exact hP9), (by (try rw [hE]); exact hD9)⟩, hS.F ht⟩) hS.2.2 dX7_seen_26
    · refine lv_iconst (v := 0) hx hb dX7_seen_13 (by decide) ?_
      refine lv_goto (tgt := 26) hx hb dX7_seen_14 (by decide) ?_
      subst hQe
      subst hAe
      have hE : (F_X7_seen R C fi di br K x1) = (0, (F_X7_start (F_X7_isNoSet K x1) 1).2) := (by unfold F_X7_seen; rw [if_neg c_3])
      have hP9 := hP.sub (ws' := [(hM, .inr (14, [.int ((F_X7_start (F_X7_isNoSet K x1) 1).2), .int (nI R), .int (nI C), .int fi, .int di, .int he, .int br, .int pa, .int gu, .int (nI sc), .int cl, .int se, .int lo, .int lu, .int rf, .ref kl, .ref kc, .ref hB])), (kl, .inr (6, [.int km, .ref kd, .int (nI K)]))]) [1, 0] rfl
      have hD9 := hD.sub (ws' := [(hM, .inr (14, [.int ((F_X7_start (F_X7_isNoSet K x1) 1).2), .int (nI R), .int (nI C), .int fi, .int di, .int he, .int br, .int pa, .int gu, .int (nI sc), .int cl, .int se, .int lo, .int lu, .int rf, .ref kl, .ref kc, .ref hB])), (kl, .inr (6, [.int km, .ref kd, .int (nI K)]))]) [1, 0] (by decide) rfl
      exact W.iret (v := 0) hx hb hr (fun t ht hW => ⟨⟨0, (), rfl, (by rw [hE]), (by (try rw [hE]); rw [ht]; exact hP9), (by (try rw [hE]); exact hD9)⟩, hS.F ht⟩) hS.2.2 dX7_seen_26
  rw [hHe, hLe] at hgoal
  exact hgoal

def F_X7_exact (R : Nat) (C : Nat) (fi : Int32) (di : Int32) (br : Int32) (K : Nat) (x1 : Int32) : Int32 × Int32 := (if ((F_X7_start (F_X7_isNoSet K x1) 1).1) = 0 then (if (F_X7_isExact R C fi br K x1 di) = 0 then (0, (F_X7_start (F_X7_isNoSet K x1) 1).2) else (1, (F_X7_start (F_X7_isNoSet K x1) 1).2)) else (0, (F_X7_start (F_X7_isNoSet K x1) 1).2))
set_option maxHeartbeats 4000000 in
set_option maxRecDepth 100000 in
theorem c_X7_exact (l : Launch) (D : va_G) (hM : Nat) (th : Int32) (R : Nat) (C : Nat) (fi : Int32) (di : Int32) (he : Int32) (br : Int32) (pa : Int32) (gu : Int32) (sc : Nat) (cl : Int32) (se : Int32) (lo : Int32) (lu : Int32) (rf : Int32) (kl : Nat) (kc : Nat) (hB : Nat) (km : Int32) (kd : Nat) (K : Nat) (x1 : Int32) (sz : Nat) (hR : R ≤ 5) (hC : C ≤ 5) (hC0 : 0 < C) (hKb : K ≤ 25) : Met l yX7_exact (Cond.code yX7_exact cX7_exact 2 (some .boolean) :: lwAll) ({ frames := 4, cells := 0, slots := 0, locals := 94 } : Room) (va_Pc [.ref hM, .int x1] (cPre D (lwTY D) [(hM, .inr (14, [.int th, .int (nI R), .int (nI C), .int fi, .int di, .int he, .int br, .int pa, .int gu, .int (nI sc), .int cl, .int se, .int lo, .int lu, .int rf, .ref kl, .ref kc, .ref hB])), (kl, .inr (6, [.int km, .ref kd, .int (nI K)]))] sz)) (va_Qi (fun (r : Int32) (_ : Unit) => r = (F_X7_exact R C fi di br K x1).1 ∧ (r = 0 ∨ r = 1)) (fun (_ : Unit) t => va_P D vwCl [(hM, .inr (14, [.int ((F_X7_exact R C fi di br K x1).2), .int (nI R), .int (nI C), .int fi, .int di, .int he, .int br, .int pa, .int gu, .int (nI sc), .int cl, .int se, .int lo, .int lu, .int rf, .ref kl, .ref kc, .ref hB])), (kl, .inr (6, [.int km, .ref kd, .int (nI K)]))] t.heap ∧ va_D (va_A [(hM, .inr (14, [.int th, .int (nI R), .int (nI C), .int fi, .int di, .int he, .int br, .int pa, .int gu, .int (nI sc), .int cl, .int se, .int lo, .int lu, .int rf, .ref kl, .ref kc, .ref hB])), (kl, .inr (6, [.int km, .ref kd, .int (nI K)]))] sz) [(hM, .inr (14, [.int ((F_X7_exact R C fi di br K x1).2), .int (nI R), .int (nI C), .int fi, .int di, .int he, .int br, .int pa, .int gu, .int (nI sc), .int cl, .int se, .int lo, .int lu, .int rf, .ref kl, .ref kc, .ref hB])), (kl, .inr (6, [.int km, .ref kd, .int (nI K)]))]) (va_A [(hM, .inr (14, [.int th, .int (nI R), .int (nI C), .int fi, .int di, .int he, .int br, .int pa, .int gu, .int (nI sc), .int cl, .int se, .int lo, .int lu, .int rf, .ref kl, .ref kc, .ref hB])), (kl, .inr (6, [.int km, .ref kd, .int (nI K)]))] sz)) 0 0 (va_A [(hM, .inr (14, [.int th, .int (nI R), .int (nI C), .int fi, .int di, .int he, .int br, .int pa, .int gu, .int (nI sc), .int cl, .int se, .int lo, .int lu, .int rf, .ref kl, .ref kc, .ref hB])), (kl, .inr (6, [.int km, .ref kd, .int (nI K)]))] sz) := by
  refine Met.ofW (cc := cX7_exact) (maxL := 2) (ret := (some .boolean)) (by decide) rfl ?_
  intro p e s m args below meth c s₁ B hml hv
  obtain ⟨rfl, hsz, hP, hK, hD0, hN, hZ⟩ := hv
  have hx := B.exec
  have hb := B.bytes
  have hr := B.returns
  have hts : ∀ wd ∈ lwAll, wd.before ([.ref hM, .int x1] : List Value).toArray s = true := fun wd h => atoms_spec (ws := (Cond.code yX7_exact cX7_exact 2 (some .boolean) :: lwAll)) B.pre wd (List.mem_cons_of_mem _ h)
  have hown : s.vm.findClass RX7 = some m.cls := findClass_of_methodNamed B.named
  have hlocks := B.notSynchronized
  subst hsz
  have hD := hD0.self (sz := s.heap.size)
  have hl := lv_entry ([.ref hM, .int x1]) (n := 2) (Nat.le_of_ble_eq_true rfl)
  rw [lg_entry_eq]
  generalize (lg_sl ([.ref hM, .int x1]) ++ List.replicate (2 - (lg_sl ([.ref hM, .int x1])).length) Slot.unset).toArray = ls at hl ⊢
  have hl : lv_has ls 2 [(0, .ref hM), (1, .int x1)] := hl
  have hS : va_S (va_A [(hM, .inr (14, [.int th, .int (nI R), .int (nI C), .int fi, .int di, .int he, .int br, .int pa, .int gu, .int (nI sc), .int cl, .int se, .int lo, .int lu, .int rf, .ref kl, .ref kc, .ref hB])), (kl, .inr (6, [.int km, .ref kd, .int (nI K)]))] s.heap.size) s.heap s.heap [] := va_S.rf
  generalize hQe : MQ below (va_Qi (fun (r : Int32) (_ : Unit) => r = (F_X7_exact R C fi di br K x1).1 ∧ (r = 0 ∨ r = 1)) (fun (_ : Unit) t => va_P D vwCl [(hM, .inr (14, [.int ((F_X7_exact R C fi di br K x1).2), .int (nI R), .int (nI C), .int fi, .int di, .int he, .int br, .int pa, .int gu, .int (nI sc), .int cl, .int se, .int lo, .int lu, .int rf, .ref kl, .ref kc, .ref hB])), (kl, .inr (6, [.int km, .ref kd, .int (nI K)]))] t.heap ∧ va_D (va_A [(hM, .inr (14, [.int th, .int (nI R), .int (nI C), .int fi, .int di, .int he, .int br, .int pa, .int gu, .int (nI sc), .int cl, .int se, .int lo, .int lu, .int rf, .ref kl, .ref kc, .ref hB])), (kl, .inr (6, [.int km, .ref kd, .int (nI K)]))] s.heap.size) [(hM, .inr (14, [.int ((F_X7_exact R C fi di br K x1).2), .int (nI R), .int (nI C), .int fi, .int di, .int he, .int br, .int pa, .int gu, .int (nI sc), .int cl, .int se, .int lo, .int lu, .int rf, .ref kl, .ref kc, .ref hB])), (kl, .inr (6, [.int km, .ref kd, .int (nI K)]))]) (va_A [(hM, .inr (14, [.int th, .int (nI R), .int (nI C), .int fi, .int di, .int he, .int br, .int pa, .int gu, .int (nI sc), .int cl, .int se, .int lo, .int lu, .int rf, .ref kl, .ref kc, .ref hB])), (kl, .inr (6, [.int km, .ref kd, .int (nI K)]))] s.heap.size)) ([.ref hM, .int x1] : List Value).toArray s 0 0 (va_A [(hM, .inr (14, [.int th, .int (nI R), .int (nI C), .int fi, .int di, .int he, .int br, .int pa, .int gu, .int (nI sc), .int cl, .int se, .int lo, .int lu, .int rf, .ref kl, .ref kc, .ref hB])), (kl, .inr (6, [.int km, .ref kd, .int (nI K)]))] s.heap.size) = Q
  have hP : va_P D vwCl [(hM, .inr (14, [.int th, .int (nI R), .int (nI C), .int fi, .int di, .int he, .int br, .int pa, .int gu, .int (nI sc), .int cl, .int se, .int lo, .int lu, .int rf, .ref kl, .ref kc, .ref hB])), (kl, .inr (6, [.int km, .ref kd, .int (nI K)]))] s.heap := hP
  obtain ⟨A, hAe⟩ : ∃ A, A = va_A [(hM, .inr (14, [.int th, .int (nI R), .int (nI C), .int fi, .int di, .int he, .int br, .int pa, .int gu, .int (nI sc), .int cl, .int se, .int lo, .int lu, .int rf, .ref kl, .ref kc, .ref hB])), (kl, .inr (6, [.int km, .ref kd, .int (nI K)]))] s.heap.size := ⟨_, rfl⟩
  rw [← hAe] at hD hZ hS
  have hA : ∀ q : Nat, s.heap.size ≤ q → A q := fun q h => by rw [hAe]; exact Or.inr h
  obtain ⟨H, hHe⟩ : ∃ H, H = s.heap := ⟨_, rfl⟩
  obtain ⟨locs, hLe⟩ : ∃ L : List Loc, L = [] := ⟨_, rfl⟩
  have hP : va_P D vwCl [(hM, .inr (14, [.int th, .int (nI R), .int (nI C), .int fi, .int di, .int he, .int br, .int pa, .int gu, .int (nI sc), .int cl, .int se, .int lo, .int lu, .int rf, .ref kl, .ref kc, .ref hB])), (kl, .inr (6, [.int km, .ref kd, .int (nI K)]))] H := by rw [hHe]; exact hP
  have hS : va_S A s.heap H locs := by rw [hHe, hLe]; exact hS
  have hgoal : W p l e ({ frames := 4, cells := 0, slots := 0, locals := 94 } : Room) s m ([.ref hM, .int x1] : List Value).toArray below meth c H locs 0 0 Q (F0 m 0 ls []) := by
    clear hHe hLe
    refine lv_aload_n hx hb dX7_exact_0 rfl (lv_at hl 0 rfl) ?_
    refine lv_aload_n hx hb dX7_exact_1 rfl (lv_at hl 0 rfl) ?_
    refine lv_iload_n hx hb dX7_exact_2 rfl (lv_at hl 1 rfl) ?_
    have hPc := hP.sub (ws' := [(hM, .inr (14, [.int th, .int (nI R), .int (nI C), .int fi, .int di, .int he, .int br, .int pa, .int gu, .int (nI sc), .int cl, .int se, .int lo, .int lu, .int rf, .ref kl, .ref kc, .ref hB])), (kl, .inr (6, [.int km, .ref kd, .int (nI K)]))]) [0, 1] rfl
    have hDc := hD.sub (ws' := [(hM, .inr (14, [.int th, .int (nI R), .int (nI C), .int fi, .int di, .int he, .int br, .int pa, .int gu, .int (nI sc), .int cl, .int se, .int lo, .int lu, .int rf, .ref kl, .ref kc, .ref hB])), (kl, .inr (6, [.int km, .ref kd, .int (nI K)]))]) [0, 1] (by decide) rfl
    have hFc := va_free (wc := [(hM, .inr (14, [.int th, .int (nI R), .int (nI C), .int fi, .int di, .int he, .int br, .int pa, .int gu, .int (nI sc), .int cl, .int se, .int lo, .int lu, .int rf, .ref kl, .ref kc, .ref hB])), (kl, .inr (6, [.int km, .ref kd, .int (nI K)]))]) hD hS hA [0, 1] rfl
    refine va_calli (va_runV (As := [.int x1]) (rest := [.ref hM]) ⟨hx, hb, hml, hown, hts⟩ (c_X7_isNoSet l D hM th R C fi di he br pa gu sc cl se lo lu rf kl kc hB km kd K x1 H.size ) (cwV 1 hts (gi_V q_1387 q_1389 q_56 q_104 q_1390) rfl rfl rfl (by decide +kernel) ⟨Nat.le_of_ble_eq_true rfl, Nat.le_of_ble_eq_true rfl⟩) ⟨cPre_blind, va_recv hK hP (ci := 14) (q0 := 0) rfl rfl, cPre_mk hPc hK hDc hN (lwZ_for hZ hS hFc)⟩ rfl rfl hl.1 rfl (lv_room (Nat.le_of_ble_eq_true rfl)) dX7_exact_3 ⟨(Nat.le_of_ble_eq_true rfl), (Nat.le_of_ble_eq_true rfl)⟩) hS (fun q h1 h2 => absurd h2 (Nat.not_le.mpr h1)) (fun q h => hA q (Nat.le_trans hS.1 h)) (fun r_3 u t H1 locs ht hvm hw hBk hz1 hk1 hS => ?_)
    have hP := va_P_ro hP hk1
    obtain ⟨hw, z_1⟩ := hw
    rw [hw] at z_1
    subst hw
    clear hBk hvm ht u hz1 hk1
    clear hPc hDc hFc; clear t
    generalize H1 = H at hP hS ⊢
    refine lv_iconst (v := 1) hx hb dX7_exact_6 (by decide) ?_
    have hPc := hP.sub (ws' := [(hM, .inr (14, [.int th, .int (nI R), .int (nI C), .int fi, .int di, .int he, .int br, .int pa, .int gu, .int (nI sc), .int cl, .int se, .int lo, .int lu, .int rf, .ref kl, .ref kc, .ref hB]))]) [0] rfl
    have hDc := hD.sub (ws' := [(hM, .inr (14, [.int th, .int (nI R), .int (nI C), .int fi, .int di, .int he, .int br, .int pa, .int gu, .int (nI sc), .int cl, .int se, .int lo, .int lu, .int rf, .ref kl, .ref kc, .ref hB]))]) [0] (by decide) rfl
    have hFc := va_free (wc := [(hM, .inr (14, [.int th, .int (nI R), .int (nI C), .int fi, .int di, .int he, .int br, .int pa, .int gu, .int (nI sc), .int cl, .int se, .int lo, .int lu, .int rf, .ref kl, .ref kc, .ref hB]))]) hD hS hA [0] rfl
    refine va_calli (va_runV (As := [.int (F_X7_isNoSet K x1), .int 1]) (rest := []) ⟨hx, hb, hml, hown, hts⟩ (c_X7_start l D hM th R C fi di he br pa gu sc cl se lo lu rf kl kc hB (F_X7_isNoSet K x1) 1 H.size ) (cwV 2 hts (gi_V q_1330 q_1332 q_52 q_104 q_1333) rfl rfl rfl (by decide +kernel) ⟨Nat.le_of_ble_eq_true rfl, Nat.le_of_ble_eq_true rfl⟩) ⟨cPre_blind, va_recv hK hP (ci := 14) (q0 := 0) rfl rfl, cPre_mk hPc hK hDc hN (lwZ_for hZ hS hFc)⟩ rfl rfl hl.1 rfl (lv_room (Nat.le_of_ble_eq_true rfl)) dX7_exact_7 ⟨(Nat.le_of_ble_eq_true rfl), (Nat.le_of_ble_eq_true rfl)⟩) hS (fun q _ h => hFc q h) hFc (fun r_7 u t H1 locs ht hvm hw hBk hz1 hk1 hS => ?_)
    obtain ⟨hP1, hD1⟩ := hBk
    rw [ht] at hP1
    obtain ⟨hP, hD⟩ := va_join (wr := [(kl, .inr (6, [.int km, .ref kd, .int (nI K)]))]) (w1 := [(hM, .inr (14, [.int ((F_X7_start (F_X7_isNoSet K x1) 1).2), .int (nI R), .int (nI C), .int fi, .int di, .int he, .int br, .int pa, .int gu, .int (nI sc), .int cl, .int se, .int lo, .int lu, .int rf, .ref kl, .ref kc, .ref hB]))]) hP hD [0] [1] rfl rfl (by decide) (by decide) hk1 hFc hP1 hD1
    obtain ⟨hw, z_2⟩ := hw
    rw [hw] at z_2
    subst hw
    clear hPc hDc hFc hP1 hD1 hk1 hz1
    clear hvm ht u; clear t
    generalize H1 = H at hP hS ⊢
    have hP : va_P D vwCl [(kl, .inr (6, [.int km, .ref kd, .int (nI K)])), (hM, .inr (14, [.int ((F_X7_start (F_X7_isNoSet K x1) 1).2), .int (nI R), .int (nI C), .int fi, .int di, .int he, .int br, .int pa, .int gu, .int (nI sc), .int cl, .int se, .int lo, .int lu, .int rf, .ref kl, .ref kc, .ref hB]))] H := hP
    have hD : va_D A [(kl, .inr (6, [.int km, .ref kd, .int (nI K)])), (hM, .inr (14, [.int ((F_X7_start (F_X7_isNoSet K x1) 1).2), .int (nI R), .int (nI C), .int fi, .int di, .int he, .int br, .int pa, .int gu, .int (nI sc), .int cl, .int se, .int lo, .int lu, .int rf, .ref kl, .ref kc, .ref hB]))] := hD
    refine lv_if_ne (tgt := 29) hx hb dX7_exact_10 (by decide) (fun c_3 => ?_) (fun c_3 => ?_)
    · refine lv_iconst (v := 0) hx hb dX7_exact_29 (by decide) ?_
      subst hQe
      subst hAe
      have hE : (F_X7_exact R C fi di br K x1) = (0, (F_X7_start (F_X7_isNoSet K x1) 1).2) := (by unfold F_X7_exact; rw [if_neg c_3])
      have hP9 := hP.sub (ws' := [(hM, .inr (14, [.int ((F_X7_start (F_X7_isNoSet K x1) 1).2), .int (nI R), .int (nI C), .int fi, .int di, .int he, .int br, .int pa, .int gu, .int (nI sc), .int cl, .int se, .int lo, .int lu, .int rf, .ref kl, .ref kc, .ref hB])), (kl, .inr (6, [.int km, .ref kd, .int (nI K)]))]) [1, 0] rfl
      have hD9 := hD.sub (ws' := [(hM, .inr (14, [.int ((F_X7_start (F_X7_isNoSet K x1) 1).2), .int (nI R), .int (nI C), .int fi, .int di, .int he, .int br, .int pa, .int gu, .int (nI sc), .int cl, .int se, .int lo, .int lu, .int rf, .ref kl, .ref kc, .ref hB])), (kl, .inr (6, [.int km, .ref kd, .int (nI K)]))]) [1, 0] (by decide) rfl
      exact W.zret (ty := .boolean) (v := 0) hx hb hr (zb_narrow zb_0) (fun t ht hW => ⟨⟨0, (), rfl, ⟨(by rw [hE]), zb_0⟩, (by (try rw [hE]); rw [ht]; exact hP9), (by (try rw [hE]); exact hD9)⟩, hS.F ht⟩) hS.2.2 dX7_exact_30
    · refine lv_aload_n hx hb dX7_exact_13 rfl (lv_at hl 0 rfl) ?_
      refine lv_iload_n hx hb dX7_exact_14 rfl (lv_at hl 1 rfl) ?_
      refine lv_aload_n hx hb dX7_exact_15 rfl (lv_at hl 0 rfl) ?_
      refine va_get (D := D) (ci := 14) (v := .int di) (C := RX7) (T := TX7) (N := 18) hx hb hts in_X7 hown hK hP 1 rfl rfl 4 (by decide) (hts _ q_1272) (fun _ h9 => h9) rfl dX7_exact_16 ?_
      have hPc := hP.sub (ws' := [(hM, .inr (14, [.int ((F_X7_start (F_X7_isNoSet K x1) 1).2), .int (nI R), .int (nI C), .int fi, .int di, .int he, .int br, .int pa, .int gu, .int (nI sc), .int cl, .int se, .int lo, .int lu, .int rf, .ref kl, .ref kc, .ref hB])), (kl, .inr (6, [.int km, .ref kd, .int (nI K)]))]) [1, 0] rfl
      have hDc := hD.sub (ws' := [(hM, .inr (14, [.int ((F_X7_start (F_X7_isNoSet K x1) 1).2), .int (nI R), .int (nI C), .int fi, .int di, .int he, .int br, .int pa, .int gu, .int (nI sc), .int cl, .int se, .int lo, .int lu, .int rf, .ref kl, .ref kc, .ref hB])), (kl, .inr (6, [.int km, .ref kd, .int (nI K)]))]) [1, 0] (by decide) rfl
      have hFc := va_free (wc := [(hM, .inr (14, [.int ((F_X7_start (F_X7_isNoSet K x1) 1).2), .int (nI R), .int (nI C), .int fi, .int di, .int he, .int br, .int pa, .int gu, .int (nI sc), .int cl, .int se, .int lo, .int lu, .int rf, .ref kl, .ref kc, .ref hB])), (kl, .inr (6, [.int km, .ref kd, .int (nI K)]))]) hD hS hA [1, 0] rfl
      refine va_calli (va_runV (As := [.int x1, .int di]) (rest := []) ⟨hx, hb, hml, hown, hts⟩ (c_X7_isExact l D hM ((F_X7_start (F_X7_isNoSet K x1) 1).2) R C fi di he br pa gu sc cl se lo lu rf kl kc hB km kd K x1 di H.size (show R ≤ 5 from hR) (show C ≤ 5 from hC) (show 0 < C from hC0) (show K ≤ 25 from hKb)) (cwV 2 hts (gi_V q_1605 q_1607 q_74 q_104 q_1608) rfl rfl rfl (by decide +kernel) ⟨Nat.le_of_ble_eq_true rfl, Nat.le_of_ble_eq_true rfl⟩) ⟨cPre_blind, va_recv hK hP (ci := 14) (q0 := 1) rfl rfl, cPre_mk hPc hK hDc hN (lwZ_for hZ hS hFc)⟩ rfl rfl hl.1 rfl (lv_room (Nat.le_of_ble_eq_true rfl)) dX7_exact_19 ⟨(Nat.le_of_ble_eq_true rfl), (Nat.le_of_ble_eq_true rfl)⟩) hS (fun q h1 h2 => absurd h2 (Nat.not_le.mpr h1)) (fun q h => hA q (Nat.le_trans hS.1 h)) (fun r_19 u t H1 locs ht hvm hw hBk hz1 hk1 hS => ?_)
      have hP := va_P_ro hP hk1
      obtain ⟨hw, z_4⟩ := hw
      rw [hw] at z_4
      subst hw
      clear hBk hvm ht u hz1 hk1
      clear hPc hDc hFc; clear t
      generalize H1 = H at hP hS ⊢
      refine lv_if_eq (tgt := 29) hx hb dX7_exact_22 (by decide) (fun c_5 => ?_) (fun c_5 => ?_)
      · refine lv_iconst (v := 0) hx hb dX7_exact_29 (by decide) ?_
        subst hQe
        subst hAe
        have hE : (F_X7_exact R C fi di br K x1) = (0, (F_X7_start (F_X7_isNoSet K x1) 1).2) := (by unfold F_X7_exact; rw [if_pos c_3, if_pos c_5])
        have hP9 := hP.sub (ws' := [(hM, .inr (14, [.int ((F_X7_start (F_X7_isNoSet K x1) 1).2), .int (nI R), .int (nI C), .int fi, .int di, .int he, .int br, .int pa, .int gu, .int (nI sc), .int cl, .int se, .int lo, .int lu, .int rf, .ref kl, .ref kc, .ref hB])), (kl, .inr (6, [.int km, .ref kd, .int (nI K)]))]) [1, 0] rfl
        have hD9 := hD.sub (ws' := [(hM, .inr (14, [.int ((F_X7_start (F_X7_isNoSet K x1) 1).2), .int (nI R), .int (nI C), .int fi, .int di, .int he, .int br, .int pa, .int gu, .int (nI sc), .int cl, .int se, .int lo, .int lu, .int rf, .ref kl, .ref kc, .ref hB])), (kl, .inr (6, [.int km, .ref kd, .int (nI K)]))]) [1, 0] (by decide) rfl
        exact W.zret (ty := .boolean) (v := 0) hx hb hr (zb_narrow zb_0) (fun t ht hW => ⟨⟨0, (), rfl, ⟨(by rw [hE]), zb_0⟩, (by (try rw [hE]); rw [ht]; exact hP9), (by (try rw [hE]); exact hD9)⟩, hS.F ht⟩) hS.2.2 dX7_exact_30
      · refine lv_iconst (v := 1) hx hb dX7_exact_25 (by decide) ?_
        refine lv_goto (tgt := 30) hx hb dX7_exact_26 (by decide) ?_
        subst hQe
        subst hAe
        have hE : (F_X7_exact R C fi di br K x1) = (1, (F_X7_start (F_X7_isNoSet K x1) 1).2) := (by unfold F_X7_exact; rw [if_pos c_3, if_neg c_5])
        have hP9 := hP.sub (ws' := [(hM, .inr (14, [.int ((F_X7_start (F_X7_isNoSet K x1) 1).2), .int (nI R), .int (nI C), .int fi, .int di, .int he, .int br, .int pa, .int gu, .int (nI sc), .int cl, .int se, .int lo, .int lu, .int rf, .ref kl, .ref kc, .ref hB])), (kl, .inr (6, [.int km, .ref kd, .int (nI K)]))]) [1, 0] rfl
        have hD9 := hD.sub (ws' := [(hM, .inr (14, [.int ((F_X7_start (F_X7_isNoSet K x1) 1).2), .int (nI R), .int (nI C), .int fi, .int di, .int he, .int br, .int pa, .int gu, .int (nI sc), .int cl, .int se, .int lo, .int lu, .int rf, .ref kl, .ref kc, .ref hB])), (kl, .inr (6, [.int km, .ref kd, .int (nI K)]))]) [1, 0] (by decide) rfl
        exact W.zret (ty := .boolean) (v := 1) hx hb hr (zb_narrow zb_1) (fun t ht hW => ⟨⟨1, (), rfl, ⟨(by rw [hE]), zb_1⟩, (by (try rw [hE]); rw [ht]; exact hP9), (by (try rw [hE]); exact hD9)⟩, hS.F ht⟩) hS.2.2 dX7_exact_30
  rw [hHe, hLe] at hgoal
  exact hgoal

def F_X7_wouldHelp (R : Nat) (C : Nat) (fi : Int32) (di : Int32) (br : Int32) (K : Nat) (x1 : Int32) : Int32 × Int32 := (if ((F_X7_start (F_X7_isNoKey K x1) 1).1) = 0 then (F_X7_leastOf R C fi br K (F_X7_with di x1 1), (F_X7_start (F_X7_isNoKey K x1) 1).2) else (0, (F_X7_start (F_X7_isNoKey K x1) 1).2))
set_option maxHeartbeats 4000000 in
set_option maxRecDepth 100000 in
theorem c_X7_wouldHelp (l : Launch) (D : va_G) (hM : Nat) (th : Int32) (R : Nat) (C : Nat) (fi : Int32) (di : Int32) (he : Int32) (br : Int32) (pa : Int32) (gu : Int32) (sc : Nat) (cl : Int32) (se : Int32) (lo : Int32) (lu : Int32) (rf : Int32) (kl : Nat) (kc : Nat) (hB : Nat) (km : Int32) (kd : Nat) (K : Nat) (x1 : Int32) (sz : Nat) (hR : R ≤ 5) (hC : C ≤ 5) (hC0 : 0 < C) (hKb : K ≤ 25) : Met l yX7_wouldHelp (Cond.code yX7_wouldHelp cX7_wouldHelp 2 (some .int) :: lwAll) ({ frames := 4, cells := 0, slots := 0, locals := 95 } : Room) (va_Pc [.ref hM, .int x1] (cPre D (lwTY D) [(hM, .inr (14, [.int th, .int (nI R), .int (nI C), .int fi, .int di, .int he, .int br, .int pa, .int gu, .int (nI sc), .int cl, .int se, .int lo, .int lu, .int rf, .ref kl, .ref kc, .ref hB])), (kl, .inr (6, [.int km, .ref kd, .int (nI K)]))] sz)) (va_Qi (fun (r : Int32) (_ : Unit) => r = (F_X7_wouldHelp R C fi di br K x1).1) (fun (_ : Unit) t => va_P D vwCl [(hM, .inr (14, [.int ((F_X7_wouldHelp R C fi di br K x1).2), .int (nI R), .int (nI C), .int fi, .int di, .int he, .int br, .int pa, .int gu, .int (nI sc), .int cl, .int se, .int lo, .int lu, .int rf, .ref kl, .ref kc, .ref hB])), (kl, .inr (6, [.int km, .ref kd, .int (nI K)]))] t.heap ∧ va_D (va_A [(hM, .inr (14, [.int th, .int (nI R), .int (nI C), .int fi, .int di, .int he, .int br, .int pa, .int gu, .int (nI sc), .int cl, .int se, .int lo, .int lu, .int rf, .ref kl, .ref kc, .ref hB])), (kl, .inr (6, [.int km, .ref kd, .int (nI K)]))] sz) [(hM, .inr (14, [.int ((F_X7_wouldHelp R C fi di br K x1).2), .int (nI R), .int (nI C), .int fi, .int di, .int he, .int br, .int pa, .int gu, .int (nI sc), .int cl, .int se, .int lo, .int lu, .int rf, .ref kl, .ref kc, .ref hB])), (kl, .inr (6, [.int km, .ref kd, .int (nI K)]))]) (va_A [(hM, .inr (14, [.int th, .int (nI R), .int (nI C), .int fi, .int di, .int he, .int br, .int pa, .int gu, .int (nI sc), .int cl, .int se, .int lo, .int lu, .int rf, .ref kl, .ref kc, .ref hB])), (kl, .inr (6, [.int km, .ref kd, .int (nI K)]))] sz)) 0 0 (va_A [(hM, .inr (14, [.int th, .int (nI R), .int (nI C), .int fi, .int di, .int he, .int br, .int pa, .int gu, .int (nI sc), .int cl, .int se, .int lo, .int lu, .int rf, .ref kl, .ref kc, .ref hB])), (kl, .inr (6, [.int km, .ref kd, .int (nI K)]))] sz) := by
  refine Met.ofW (cc := cX7_wouldHelp) (maxL := 2) (ret := (some .int)) (by decide) rfl ?_
  intro p e s m args below meth c s₁ B hml hv
  obtain ⟨rfl, hsz, hP, hK, hD0, hN, hZ⟩ := hv
  have hx := B.exec
  have hb := B.bytes
  have hr := B.returns
  have hts : ∀ wd ∈ lwAll, wd.before ([.ref hM, .int x1] : List Value).toArray s = true := fun wd h => atoms_spec (ws := (Cond.code yX7_wouldHelp cX7_wouldHelp 2 (some .int) :: lwAll)) B.pre wd (List.mem_cons_of_mem _ h)
  have hown : s.vm.findClass RX7 = some m.cls := findClass_of_methodNamed B.named
  have hlocks := B.notSynchronized
  subst hsz
  have hD := hD0.self (sz := s.heap.size)
  have hl := lv_entry ([.ref hM, .int x1]) (n := 2) (Nat.le_of_ble_eq_true rfl)
  rw [lg_entry_eq]
  generalize (lg_sl ([.ref hM, .int x1]) ++ List.replicate (2 - (lg_sl ([.ref hM, .int x1])).length) Slot.unset).toArray = ls at hl ⊢
  have hl : lv_has ls 2 [(0, .ref hM), (1, .int x1)] := hl
  have hS : va_S (va_A [(hM, .inr (14, [.int th, .int (nI R), .int (nI C), .int fi, .int di, .int he, .int br, .int pa, .int gu, .int (nI sc), .int cl, .int se, .int lo, .int lu, .int rf, .ref kl, .ref kc, .ref hB])), (kl, .inr (6, [.int km, .ref kd, .int (nI K)]))] s.heap.size) s.heap s.heap [] := va_S.rf
  generalize hQe : MQ below (va_Qi (fun (r : Int32) (_ : Unit) => r = (F_X7_wouldHelp R C fi di br K x1).1) (fun (_ : Unit) t => va_P D vwCl [(hM, .inr (14, [.int ((F_X7_wouldHelp R C fi di br K x1).2), .int (nI R), .int (nI C), .int fi, .int di, .int he, .int br, .int pa, .int gu, .int (nI sc), .int cl, .int se, .int lo, .int lu, .int rf, .ref kl, .ref kc, .ref hB])), (kl, .inr (6, [.int km, .ref kd, .int (nI K)]))] t.heap ∧ va_D (va_A [(hM, .inr (14, [.int th, .int (nI R), .int (nI C), .int fi, .int di, .int he, .int br, .int pa, .int gu, .int (nI sc), .int cl, .int se, .int lo, .int lu, .int rf, .ref kl, .ref kc, .ref hB])), (kl, .inr (6, [.int km, .ref kd, .int (nI K)]))] s.heap.size) [(hM, .inr (14, [.int ((F_X7_wouldHelp R C fi di br K x1).2), .int (nI R), .int (nI C), .int fi, .int di, .int he, .int br, .int pa, .int gu, .int (nI sc), .int cl, .int se, .int lo, .int lu, .int rf, .ref kl, .ref kc, .ref hB])), (kl, .inr (6, [.int km, .ref kd, .int (nI K)]))]) (va_A [(hM, .inr (14, [.int th, .int (nI R), .int (nI C), .int fi, .int di, .int he, .int br, .int pa, .int gu, .int (nI sc), .int cl, .int se, .int lo, .int lu, .int rf, .ref kl, .ref kc, .ref hB])), (kl, .inr (6, [.int km, .ref kd, .int (nI K)]))] s.heap.size)) ([.ref hM, .int x1] : List Value).toArray s 0 0 (va_A [(hM, .inr (14, [.int th, .int (nI R), .int (nI C), .int fi, .int di, .int he, .int br, .int pa, .int gu, .int (nI sc), .int cl, .int se, .int lo, .int lu, .int rf, .ref kl, .ref kc, .ref hB])), (kl, .inr (6, [.int km, .ref kd, .int (nI K)]))] s.heap.size) = Q
  have hP : va_P D vwCl [(hM, .inr (14, [.int th, .int (nI R), .int (nI C), .int fi, .int di, .int he, .int br, .int pa, .int gu, .int (nI sc), .int cl, .int se, .int lo, .int lu, .int rf, .ref kl, .ref kc, .ref hB])), (kl, .inr (6, [.int km, .ref kd, .int (nI K)]))] s.heap := hP
  obtain ⟨A, hAe⟩ : ∃ A, A = va_A [(hM, .inr (14, [.int th, .int (nI R), .int (nI C), .int fi, .int di, .int he, .int br, .int pa, .int gu, .int (nI sc), .int cl, .int se, .int lo, .int lu, .int rf, .ref kl, .ref kc, .ref hB])), (kl, .inr (6, [.int km, .ref kd, .int (nI K)]))] s.heap.size := ⟨_, rfl⟩
  rw [← hAe] at hD hZ hS
  have hA : ∀ q : Nat, s.heap.size ≤ q → A q := fun q h => by rw [hAe]; exact Or.inr h
  obtain ⟨H, hHe⟩ : ∃ H, H = s.heap := ⟨_, rfl⟩
  obtain ⟨locs, hLe⟩ : ∃ L : List Loc, L = [] := ⟨_, rfl⟩
  have hP : va_P D vwCl [(hM, .inr (14, [.int th, .int (nI R), .int (nI C), .int fi, .int di, .int he, .int br, .int pa, .int gu, .int (nI sc), .int cl, .int se, .int lo, .int lu, .int rf, .ref kl, .ref kc, .ref hB])), (kl, .inr (6, [.int km, .ref kd, .int (nI K)]))] H := by rw [hHe]; exact hP
  have hS : va_S A s.heap H locs := by rw [hHe, hLe]; exact hS
  have hgoal : W p l e ({ frames := 4, cells := 0, slots := 0, locals := 95 } : Room) s m ([.ref hM, .int x1] : List Value).toArray below meth c H locs 0 0 Q (F0 m 0 ls []) := by
    clear hHe hLe
    refine lv_aload_n hx hb dX7_wouldHelp_0 rfl (lv_at hl 0 rfl) ?_
    refine lv_aload_n hx hb dX7_wouldHelp_1 rfl (lv_at hl 0 rfl) ?_
    refine lv_iload_n hx hb dX7_wouldHelp_2 rfl (lv_at hl 1 rfl) ?_
    have hPc := hP.sub (ws' := [(hM, .inr (14, [.int th, .int (nI R), .int (nI C), .int fi, .int di, .int he, .int br, .int pa, .int gu, .int (nI sc), .int cl, .int se, .int lo, .int lu, .int rf, .ref kl, .ref kc, .ref hB])), (kl, .inr (6, [.int km, .ref kd, .int (nI K)]))]) [0, 1] rfl
    have hDc := hD.sub (ws' := [(hM, .inr (14, [.int th, .int (nI R), .int (nI C), .int fi, .int di, .int he, .int br, .int pa, .int gu, .int (nI sc), .int cl, .int se, .int lo, .int lu, .int rf, .ref kl, .ref kc, .ref hB])), (kl, .inr (6, [.int km, .ref kd, .int (nI K)]))]) [0, 1] (by decide) rfl
    have hFc := va_free (wc := [(hM, .inr (14, [.int th, .int (nI R), .int (nI C), .int fi, .int di, .int he, .int br, .int pa, .int gu, .int (nI sc), .int cl, .int se, .int lo, .int lu, .int rf, .ref kl, .ref kc, .ref hB])), (kl, .inr (6, [.int km, .ref kd, .int (nI K)]))]) hD hS hA [0, 1] rfl
    refine va_calli (va_runV (As := [.int x1]) (rest := [.ref hM]) ⟨hx, hb, hml, hown, hts⟩ (c_X7_isNoKey l D hM th R C fi di he br pa gu sc cl se lo lu rf kl kc hB km kd K x1 H.size ) (cwV 1 hts (gi_V q_1342 q_1344 q_54 q_104 q_1345) rfl rfl rfl (by decide +kernel) ⟨Nat.le_of_ble_eq_true rfl, Nat.le_of_ble_eq_true rfl⟩) ⟨cPre_blind, va_recv hK hP (ci := 14) (q0 := 0) rfl rfl, cPre_mk hPc hK hDc hN (lwZ_for hZ hS hFc)⟩ rfl rfl hl.1 rfl (lv_room (Nat.le_of_ble_eq_true rfl)) dX7_wouldHelp_3 ⟨(Nat.le_of_ble_eq_true rfl), (Nat.le_of_ble_eq_true rfl)⟩) hS (fun q h1 h2 => absurd h2 (Nat.not_le.mpr h1)) (fun q h => hA q (Nat.le_trans hS.1 h)) (fun r_3 u t H1 locs ht hvm hw hBk hz1 hk1 hS => ?_)
    have hP := va_P_ro hP hk1
    obtain ⟨hw, z_1⟩ := hw
    rw [hw] at z_1
    subst hw
    clear hBk hvm ht u hz1 hk1
    clear hPc hDc hFc; clear t
    generalize H1 = H at hP hS ⊢
    refine lv_iconst (v := 1) hx hb dX7_wouldHelp_6 (by decide) ?_
    have hPc := hP.sub (ws' := [(hM, .inr (14, [.int th, .int (nI R), .int (nI C), .int fi, .int di, .int he, .int br, .int pa, .int gu, .int (nI sc), .int cl, .int se, .int lo, .int lu, .int rf, .ref kl, .ref kc, .ref hB]))]) [0] rfl
    have hDc := hD.sub (ws' := [(hM, .inr (14, [.int th, .int (nI R), .int (nI C), .int fi, .int di, .int he, .int br, .int pa, .int gu, .int (nI sc), .int cl, .int se, .int lo, .int lu, .int rf, .ref kl, .ref kc, .ref hB]))]) [0] (by decide) rfl
    have hFc := va_free (wc := [(hM, .inr (14, [.int th, .int (nI R), .int (nI C), .int fi, .int di, .int he, .int br, .int pa, .int gu, .int (nI sc), .int cl, .int se, .int lo, .int lu, .int rf, .ref kl, .ref kc, .ref hB]))]) hD hS hA [0] rfl
    refine va_calli (va_runV (As := [.int (F_X7_isNoKey K x1), .int 1]) (rest := []) ⟨hx, hb, hml, hown, hts⟩ (c_X7_start l D hM th R C fi di he br pa gu sc cl se lo lu rf kl kc hB (F_X7_isNoKey K x1) 1 H.size ) (cwV 2 hts (gi_V q_1330 q_1332 q_52 q_104 q_1333) rfl rfl rfl (by decide +kernel) ⟨Nat.le_of_ble_eq_true rfl, Nat.le_of_ble_eq_true rfl⟩) ⟨cPre_blind, va_recv hK hP (ci := 14) (q0 := 0) rfl rfl, cPre_mk hPc hK hDc hN (lwZ_for hZ hS hFc)⟩ rfl rfl hl.1 rfl (lv_room (Nat.le_of_ble_eq_true rfl)) dX7_wouldHelp_7 ⟨(Nat.le_of_ble_eq_true rfl), (Nat.le_of_ble_eq_true rfl)⟩) hS (fun q _ h => hFc q h) hFc (fun r_7 u t H1 locs ht hvm hw hBk hz1 hk1 hS => ?_)
    obtain ⟨hP1, hD1⟩ := hBk
    rw [ht] at hP1
    obtain ⟨hP, hD⟩ := va_join (wr := [(kl, .inr (6, [.int km, .ref kd, .int (nI K)]))]) (w1 := [(hM, .inr (14, [.int ((F_X7_start (F_X7_isNoKey K x1) 1).2), .int (nI R), .int (nI C), .int fi, .int di, .int he, .int br, .int pa, .int gu, .int (nI sc), .int cl, .int se, .int lo, .int lu, .int rf, .ref kl, .ref kc, .ref hB]))]) hP hD [0] [1] rfl rfl (by decide) (by decide) hk1 hFc hP1 hD1
    obtain ⟨hw, z_2⟩ := hw
    rw [hw] at z_2
    subst hw
    clear hPc hDc hFc hP1 hD1 hk1 hz1
    clear hvm ht u; clear t
    generalize H1 = H at hP hS ⊢
    have hP : va_P D vwCl [(kl, .inr (6, [.int km, .ref kd, .int (nI K)])), (hM, .inr (14, [.int ((F_X7_start (F_X7_isNoKey K x1) 1).2), .int (nI R), .int (nI C), .int fi, .int di, .int he, .int br, .int pa, .int gu, .int (nI sc), .int cl, .int se, .int lo, .int lu, .int rf, .ref kl, .ref kc, .ref hB]))] H := hP
    have hD : va_D A [(kl, .inr (6, [.int km, .ref kd, .int (nI K)])), (hM, .inr (14, [.int ((F_X7_start (F_X7_isNoKey K x1) 1).2), .int (nI R), .int (nI C), .int fi, .int di, .int he, .int br, .int pa, .int gu, .int (nI sc), .int cl, .int se, .int lo, .int lu, .int rf, .ref kl, .ref kc, .ref hB]))] := hD
    refine lv_if_eq (tgt := 17) hx hb dX7_wouldHelp_10 (by decide) (fun c_3 => ?_) (fun c_3 => ?_)
    · refine lv_aload_n hx hb dX7_wouldHelp_17 rfl (lv_at hl 0 rfl) ?_
      refine lv_aload_n hx hb dX7_wouldHelp_18 rfl (lv_at hl 0 rfl) ?_
      refine va_get (D := D) (ci := 14) (v := .int di) (C := RX7) (T := TX7) (N := 18) hx hb hts in_X7 hown hK hP 1 rfl rfl 4 (by decide) (hts _ q_1272) (fun _ h9 => h9) rfl dX7_wouldHelp_19 ?_
      refine lv_iload_n hx hb dX7_wouldHelp_22 rfl (lv_at hl 1 rfl) ?_
      refine lv_iconst (v := 1) hx hb dX7_wouldHelp_23 (by decide) ?_
      have hPc := hP.sub (ws' := []) [] rfl
      have hDc := hD.sub (ws' := []) [] (by decide) rfl
      have hFc := va_free (wc := []) hD hS hA [] rfl
      refine va_calli (va_runS (As := [.int di, .int x1, .int 1]) (rest := [.ref hM]) ⟨hx, hb, hml, hown, hts⟩ (c_X7_with l D di x1 1 H.size ) (cwS 3 hts (gi_S q_1346 q_1347 q_104 q_1348) rfl rfl rfl (by decide +kernel) ⟨Nat.le_of_ble_eq_true rfl, Nat.le_of_ble_eq_true rfl⟩) ⟨cPre_blind, cPre_mk hPc hK hDc hN (lwZ_for hZ hS hFc)⟩ rfl rfl hl.1 rfl (lv_room (Nat.le_of_ble_eq_true rfl)) dX7_wouldHelp_24 ⟨(Nat.le_of_ble_eq_true rfl), (Nat.le_of_ble_eq_true rfl)⟩) hS (fun q h1 h2 => absurd h2 (Nat.not_le.mpr h1)) (fun q h => hA q (Nat.le_trans hS.1 h)) (fun r_24 u t H1 locs ht hvm hw hBk hz1 hk1 hS => ?_)
      have hP := va_P_ro hP hk1
      subst hw
      clear hBk hvm ht u hz1 hk1
      clear hPc hDc hFc; clear t
      generalize H1 = H at hP hS ⊢
      have hPc := hP.sub (ws' := [(hM, .inr (14, [.int ((F_X7_start (F_X7_isNoKey K x1) 1).2), .int (nI R), .int (nI C), .int fi, .int di, .int he, .int br, .int pa, .int gu, .int (nI sc), .int cl, .int se, .int lo, .int lu, .int rf, .ref kl, .ref kc, .ref hB])), (kl, .inr (6, [.int km, .ref kd, .int (nI K)]))]) [1, 0] rfl
      have hDc := hD.sub (ws' := [(hM, .inr (14, [.int ((F_X7_start (F_X7_isNoKey K x1) 1).2), .int (nI R), .int (nI C), .int fi, .int di, .int he, .int br, .int pa, .int gu, .int (nI sc), .int cl, .int se, .int lo, .int lu, .int rf, .ref kl, .ref kc, .ref hB])), (kl, .inr (6, [.int km, .ref kd, .int (nI K)]))]) [1, 0] (by decide) rfl
      have hFc := va_free (wc := [(hM, .inr (14, [.int ((F_X7_start (F_X7_isNoKey K x1) 1).2), .int (nI R), .int (nI C), .int fi, .int di, .int he, .int br, .int pa, .int gu, .int (nI sc), .int cl, .int se, .int lo, .int lu, .int rf, .ref kl, .ref kc, .ref hB])), (kl, .inr (6, [.int km, .ref kd, .int (nI K)]))]) hD hS hA [1, 0] rfl
      refine va_calli (va_runV (As := [.int (F_X7_with di x1 1)]) (rest := []) ⟨hx, hb, hml, hown, hts⟩ (c_X7_leastOf l D hM ((F_X7_start (F_X7_isNoKey K x1) 1).2) R C fi di he br pa gu sc cl se lo lu rf kl kc hB km kd K (F_X7_with di x1 1) H.size (show R ≤ 5 from hR) (show C ≤ 5 from hC) (show 0 < C from hC0) (show K ≤ 25 from hKb)) (cwV 1 hts (gi_V q_1570 q_1572 q_71 q_104 q_1573) rfl rfl rfl (by decide +kernel) ⟨Nat.le_of_ble_eq_true rfl, Nat.le_of_ble_eq_true rfl⟩) ⟨cPre_blind, va_recv hK hP (ci := 14) (q0 := 1) rfl rfl, cPre_mk hPc hK hDc hN (lwZ_for hZ hS hFc)⟩ rfl rfl hl.1 rfl (lv_room (Nat.le_of_ble_eq_true rfl)) dX7_wouldHelp_27 ⟨(Nat.le_of_ble_eq_true rfl), (Nat.le_of_ble_eq_true rfl)⟩) hS (fun q h1 h2 => absurd h2 (Nat.not_le.mpr h1)) (fun q h => hA q (Nat.le_trans hS.1 h)) (fun r_27 u t H1 locs ht hvm hw hBk hz1 hk1 hS => ?_)
      have hP := va_P_ro hP hk1
      subst hw
      clear hBk hvm ht u hz1 hk1
      clear hPc hDc hFc; clear t
      generalize H1 = H at hP hS ⊢
      subst hQe
      subst hAe
      have hE : (F_X7_wouldHelp R C fi di br K x1) = (F_X7_leastOf R C fi br K (F_X7_with di x1 1), (F_X7_start (F_X7_isNoKey K x1) 1).2) := (by unfold F_X7_wouldHelp; rw [if_pos c_3])
      have hP9 := hP.sub (ws' := [(hM, .inr (14, [.int ((F_X7_start (F_X7_isNoKey K x1) 1).2), .int (nI R), .int (nI C), .int fi, .int di, .int he, .int br, .int pa, .int gu, .int (nI sc), .int cl, .int se, .int lo, .int lu, .int rf, .ref kl, .ref kc, .ref hB])), (kl, .inr (6, [.int km, .ref kd, .int (nI K)]))]) [1, 0] rfl
      have hD9 := hD.sub (ws' := [(hM, .inr (14, [.int ((F_X7_start (F_X7_isNoKey K x1) 1).2), .int (nI R), .int (nI C), .int fi, .int di, .int he, .int br, .int pa, .int gu, .int (nI sc), .int cl, .int se, .int lo, .int lu, .int rf, .ref kl, .ref kc, .ref hB])), (kl, .inr (6, [.int km, .ref kd, .int (nI K)]))]) [1, 0] (by decide) rfl
      exact W.iret (v := F_X7_leastOf R C fi br K (F_X7_with di x1 1)) hx hb hr (fun t ht hW => ⟨⟨F_X7_leastOf R C fi br K (F_X7_with di x1 1), (), rfl, (by rw [hE]), (by (try rw [hE]); rw [ht]; exact hP9), (by (try rw [hE]); exact hD9)⟩, hS.F ht⟩) hS.2.2 dX7_wouldHelp_30
    · refine lv_iconst (v := 0) hx hb dX7_wouldHelp_13 (by decide) ?_
      refine lv_goto (tgt := 30) hx hb dX7_wouldHelp_14 (by decide) ?_
      subst hQe
      subst hAe
      have hE : (F_X7_wouldHelp R C fi di br K x1) = (0, (F_X7_start (F_X7_isNoKey K x1) 1).2) := (by unfold F_X7_wouldHelp; rw [if_neg c_3])
      have hP9 := hP.sub (ws' := [(hM, .inr (14, [.int ((F_X7_start (F_X7_isNoKey K x1) 1).2), .int (nI R), .int (nI C), .int fi, .int di, .int he, .int br, .int pa, .int gu, .int (nI sc), .int cl, .int se, .int lo, .int lu, .int rf, .ref kl, .ref kc, .ref hB])), (kl, .inr (6, [.int km, .ref kd, .int (nI K)]))]) [1, 0] rfl
      have hD9 := hD.sub (ws' := [(hM, .inr (14, [.int ((F_X7_start (F_X7_isNoKey K x1) 1).2), .int (nI R), .int (nI C), .int fi, .int di, .int he, .int br, .int pa, .int gu, .int (nI sc), .int cl, .int se, .int lo, .int lu, .int rf, .ref kl, .ref kc, .ref hB])), (kl, .inr (6, [.int km, .ref kd, .int (nI K)]))]) [1, 0] (by decide) rfl
      exact W.iret (v := 0) hx hb hr (fun t ht hW => ⟨⟨0, (), rfl, (by rw [hE]), (by (try rw [hE]); rw [ht]; exact hP9), (by (try rw [hE]); exact hD9)⟩, hS.F ht⟩) hS.2.2 dX7_wouldHelp_30
  rw [hHe, hLe] at hgoal
  exact hgoal

def F_X7_bestDiode (R : Nat) (C : Nat) (fi : Int32) (di : Int32) (br : Int32) (K : Nat) : Int32 × Int32 := (F_X7_best R C fi di br K, 0)
set_option maxHeartbeats 4000000 in
set_option maxRecDepth 100000 in
theorem c_X7_bestDiode (l : Launch) (D : va_G) (hM : Nat) (th : Int32) (R : Nat) (C : Nat) (fi : Int32) (di : Int32) (he : Int32) (br : Int32) (pa : Int32) (gu : Int32) (sc : Nat) (cl : Int32) (se : Int32) (lo : Int32) (lu : Int32) (rf : Int32) (kl : Nat) (kc : Nat) (hB : Nat) (km : Int32) (kd : Nat) (K : Nat) (sz : Nat) (hR : R ≤ 5) (hC : C ≤ 5) (hC0 : 0 < C) (hKb : K ≤ 25) : Met l yX7_bestDiode (Cond.code yX7_bestDiode cX7_bestDiode 1 (some .int) :: lwAll) ({ frames := 9, cells := 0, slots := 0, locals := 222 } : Room) (va_Pc [.ref hM] (cPre D (lwTY D) [(hM, .inr (14, [.int th, .int (nI R), .int (nI C), .int fi, .int di, .int he, .int br, .int pa, .int gu, .int (nI sc), .int cl, .int se, .int lo, .int lu, .int rf, .ref kl, .ref kc, .ref hB])), (kl, .inr (6, [.int km, .ref kd, .int (nI K)]))] sz)) (va_Qi (fun (r : Int32) (_ : Unit) => r = (F_X7_bestDiode R C fi di br K).1) (fun (_ : Unit) t => va_P D vwCl [(hM, .inr (14, [.int ((F_X7_bestDiode R C fi di br K).2), .int (nI R), .int (nI C), .int fi, .int di, .int he, .int br, .int pa, .int gu, .int (nI sc), .int cl, .int se, .int lo, .int lu, .int rf, .ref kl, .ref kc, .ref hB])), (kl, .inr (6, [.int km, .ref kd, .int (nI K)]))] t.heap ∧ va_D (va_A [(hM, .inr (14, [.int th, .int (nI R), .int (nI C), .int fi, .int di, .int he, .int br, .int pa, .int gu, .int (nI sc), .int cl, .int se, .int lo, .int lu, .int rf, .ref kl, .ref kc, .ref hB])), (kl, .inr (6, [.int km, .ref kd, .int (nI K)]))] sz) [(hM, .inr (14, [.int ((F_X7_bestDiode R C fi di br K).2), .int (nI R), .int (nI C), .int fi, .int di, .int he, .int br, .int pa, .int gu, .int (nI sc), .int cl, .int se, .int lo, .int lu, .int rf, .ref kl, .ref kc, .ref hB])), (kl, .inr (6, [.int km, .ref kd, .int (nI K)]))]) (va_A [(hM, .inr (14, [.int th, .int (nI R), .int (nI C), .int fi, .int di, .int he, .int br, .int pa, .int gu, .int (nI sc), .int cl, .int se, .int lo, .int lu, .int rf, .ref kl, .ref kc, .ref hB])), (kl, .inr (6, [.int km, .ref kd, .int (nI K)]))] sz)) 0 0 (va_A [(hM, .inr (14, [.int th, .int (nI R), .int (nI C), .int fi, .int di, .int he, .int br, .int pa, .int gu, .int (nI sc), .int cl, .int se, .int lo, .int lu, .int rf, .ref kl, .ref kc, .ref hB])), (kl, .inr (6, [.int km, .ref kd, .int (nI K)]))] sz) := by
  refine Met.ofW (cc := cX7_bestDiode) (maxL := 1) (ret := (some .int)) (by decide) rfl ?_
  intro p e s m args below meth c s₁ B hml hv
  obtain ⟨rfl, hsz, hP, hK, hD0, hN, hZ⟩ := hv
  have hx := B.exec
  have hb := B.bytes
  have hr := B.returns
  have hts : ∀ wd ∈ lwAll, wd.before ([.ref hM] : List Value).toArray s = true := fun wd h => atoms_spec (ws := (Cond.code yX7_bestDiode cX7_bestDiode 1 (some .int) :: lwAll)) B.pre wd (List.mem_cons_of_mem _ h)
  have hown : s.vm.findClass RX7 = some m.cls := findClass_of_methodNamed B.named
  have hlocks := B.notSynchronized
  subst hsz
  have hD := hD0.self (sz := s.heap.size)
  have hl := lv_entry ([.ref hM]) (n := 1) (Nat.le_of_ble_eq_true rfl)
  rw [lg_entry_eq]
  generalize (lg_sl ([.ref hM]) ++ List.replicate (1 - (lg_sl ([.ref hM])).length) Slot.unset).toArray = ls at hl ⊢
  have hl : lv_has ls 1 [(0, .ref hM)] := hl
  have hS : va_S (va_A [(hM, .inr (14, [.int th, .int (nI R), .int (nI C), .int fi, .int di, .int he, .int br, .int pa, .int gu, .int (nI sc), .int cl, .int se, .int lo, .int lu, .int rf, .ref kl, .ref kc, .ref hB])), (kl, .inr (6, [.int km, .ref kd, .int (nI K)]))] s.heap.size) s.heap s.heap [] := va_S.rf
  generalize hQe : MQ below (va_Qi (fun (r : Int32) (_ : Unit) => r = (F_X7_bestDiode R C fi di br K).1) (fun (_ : Unit) t => va_P D vwCl [(hM, .inr (14, [.int ((F_X7_bestDiode R C fi di br K).2), .int (nI R), .int (nI C), .int fi, .int di, .int he, .int br, .int pa, .int gu, .int (nI sc), .int cl, .int se, .int lo, .int lu, .int rf, .ref kl, .ref kc, .ref hB])), (kl, .inr (6, [.int km, .ref kd, .int (nI K)]))] t.heap ∧ va_D (va_A [(hM, .inr (14, [.int th, .int (nI R), .int (nI C), .int fi, .int di, .int he, .int br, .int pa, .int gu, .int (nI sc), .int cl, .int se, .int lo, .int lu, .int rf, .ref kl, .ref kc, .ref hB])), (kl, .inr (6, [.int km, .ref kd, .int (nI K)]))] s.heap.size) [(hM, .inr (14, [.int ((F_X7_bestDiode R C fi di br K).2), .int (nI R), .int (nI C), .int fi, .int di, .int he, .int br, .int pa, .int gu, .int (nI sc), .int cl, .int se, .int lo, .int lu, .int rf, .ref kl, .ref kc, .ref hB])), (kl, .inr (6, [.int km, .ref kd, .int (nI K)]))]) (va_A [(hM, .inr (14, [.int th, .int (nI R), .int (nI C), .int fi, .int di, .int he, .int br, .int pa, .int gu, .int (nI sc), .int cl, .int se, .int lo, .int lu, .int rf, .ref kl, .ref kc, .ref hB])), (kl, .inr (6, [.int km, .ref kd, .int (nI K)]))] s.heap.size)) ([.ref hM] : List Value).toArray s 0 0 (va_A [(hM, .inr (14, [.int th, .int (nI R), .int (nI C), .int fi, .int di, .int he, .int br, .int pa, .int gu, .int (nI sc), .int cl, .int se, .int lo, .int lu, .int rf, .ref kl, .ref kc, .ref hB])), (kl, .inr (6, [.int km, .ref kd, .int (nI K)]))] s.heap.size) = Q
  have hP : va_P D vwCl [(hM, .inr (14, [.int th, .int (nI R), .int (nI C), .int fi, .int di, .int he, .int br, .int pa, .int gu, .int (nI sc), .int cl, .int se, .int lo, .int lu, .int rf, .ref kl, .ref kc, .ref hB])), (kl, .inr (6, [.int km, .ref kd, .int (nI K)]))] s.heap := hP
  obtain ⟨A, hAe⟩ : ∃ A, A = va_A [(hM, .inr (14, [.int th, .int (nI R), .int (nI C), .int fi, .int di, .int he, .int br, .int pa, .int gu, .int (nI sc), .int cl, .int se, .int lo, .int lu, .int rf, .ref kl, .ref kc, .ref hB])), (kl, .inr (6, [.int km, .ref kd, .int (nI K)]))] s.heap.size := ⟨_, rfl⟩
  rw [← hAe] at hD hZ hS
  have hA : ∀ q : Nat, s.heap.size ≤ q → A q := fun q h => by rw [hAe]; exact Or.inr h
  obtain ⟨H, hHe⟩ : ∃ H, H = s.heap := ⟨_, rfl⟩
  obtain ⟨locs, hLe⟩ : ∃ L : List Loc, L = [] := ⟨_, rfl⟩
  have hP : va_P D vwCl [(hM, .inr (14, [.int th, .int (nI R), .int (nI C), .int fi, .int di, .int he, .int br, .int pa, .int gu, .int (nI sc), .int cl, .int se, .int lo, .int lu, .int rf, .ref kl, .ref kc, .ref hB])), (kl, .inr (6, [.int km, .ref kd, .int (nI K)]))] H := by rw [hHe]; exact hP
  have hS : va_S A s.heap H locs := by rw [hHe, hLe]; exact hS
  have hgoal : W p l e ({ frames := 9, cells := 0, slots := 0, locals := 222 } : Room) s m ([.ref hM] : List Value).toArray below meth c H locs 0 0 Q (F0 m 0 ls []) := by
    clear hHe hLe
    refine lv_aload_n hx hb dX7_bestDiode_0 rfl (lv_at hl 0 rfl) ?_
    refine lv_iconst (v := 0) hx hb dX7_bestDiode_1 (by decide) ?_
    refine va_put (D := D) (ci := 14) (v := .int 0) (ty := .int) (C := RX7) (T := TX7) (N := 18) hx hb hts in_X7 tyX7 tyX7_ok nmX7 hown hK hP hD hS 0 rfl rfl 0 (by decide) (hts _ q_1268) (fun _ h9 => h9) rfl (by decide +kernel) rfl rfl (Nat.le_of_ble_eq_true rfl) dX7_bestDiode_2 (fun H locs hP hD hS => ?_)
    have hP : va_P D vwCl [(hM, .inr (14, [.int 0, .int (nI R), .int (nI C), .int fi, .int di, .int he, .int br, .int pa, .int gu, .int (nI sc), .int cl, .int se, .int lo, .int lu, .int rf, .ref kl, .ref kc, .ref hB])), (kl, .inr (6, [.int km, .ref kd, .int (nI K)]))] H := hP
    have hD : va_D A [(hM, .inr (14, [.int 0, .int (nI R), .int (nI C), .int fi, .int di, .int he, .int br, .int pa, .int gu, .int (nI sc), .int cl, .int se, .int lo, .int lu, .int rf, .ref kl, .ref kc, .ref hB])), (kl, .inr (6, [.int km, .ref kd, .int (nI K)]))] := hD
    refine lv_aload_n hx hb dX7_bestDiode_5 rfl (lv_at hl 0 rfl) ?_
    have hPc := hP.sub (ws' := [(hM, .inr (14, [.int 0, .int (nI R), .int (nI C), .int fi, .int di, .int he, .int br, .int pa, .int gu, .int (nI sc), .int cl, .int se, .int lo, .int lu, .int rf, .ref kl, .ref kc, .ref hB])), (kl, .inr (6, [.int km, .ref kd, .int (nI K)]))]) [0, 1] rfl
    have hDc := hD.sub (ws' := [(hM, .inr (14, [.int 0, .int (nI R), .int (nI C), .int fi, .int di, .int he, .int br, .int pa, .int gu, .int (nI sc), .int cl, .int se, .int lo, .int lu, .int rf, .ref kl, .ref kc, .ref hB])), (kl, .inr (6, [.int km, .ref kd, .int (nI K)]))]) [0, 1] (by decide) rfl
    have hFc := va_free (wc := [(hM, .inr (14, [.int 0, .int (nI R), .int (nI C), .int fi, .int di, .int he, .int br, .int pa, .int gu, .int (nI sc), .int cl, .int se, .int lo, .int lu, .int rf, .ref kl, .ref kc, .ref hB])), (kl, .inr (6, [.int km, .ref kd, .int (nI K)]))]) hD hS hA [0, 1] rfl
    refine va_calli (va_runV (As := []) (rest := []) ⟨hx, hb, hml, hown, hts⟩ (c_X7_best l D hM 0 R C fi di he br pa gu sc cl se lo lu rf kl kc hB km kd K H.size (show R ≤ 5 from hR) (show C ≤ 5 from hC) (show 0 < C from hC0) (show K ≤ 25 from hKb)) (cwV 0 hts (gi_V q_1625 q_1627 q_76 q_104 q_1628) rfl rfl rfl (by decide +kernel) ⟨Nat.le_of_ble_eq_true rfl, Nat.le_of_ble_eq_true rfl⟩) ⟨cPre_blind, va_recv hK hP (ci := 14) (q0 := 0) rfl rfl, cPre_mk hPc hK hDc hN (lwZ_for hZ hS hFc)⟩ rfl rfl hl.1 rfl (lv_room (Nat.le_of_ble_eq_true rfl)) dX7_bestDiode_6 ⟨(Nat.le_of_ble_eq_true rfl), (Nat.le_of_ble_eq_true rfl)⟩) hS (fun q h1 h2 => absurd h2 (Nat.not_le.mpr h1)) (fun q h => hA q (Nat.le_trans hS.1 h)) (fun r_6 u t H1 locs ht hvm hw hBk hz1 hk1 hS => ?_)
    have hP := va_P_ro hP hk1
    subst hw
    clear hBk hvm ht u hz1 hk1
    clear hPc hDc hFc; clear t
    generalize H1 = H at hP hS ⊢
    subst hQe
    subst hAe
    have hE : (F_X7_bestDiode R C fi di br K) = (F_X7_best R C fi di br K, 0) := (by rfl)
    have hP9 := hP.sub (ws' := [(hM, .inr (14, [.int 0, .int (nI R), .int (nI C), .int fi, .int di, .int he, .int br, .int pa, .int gu, .int (nI sc), .int cl, .int se, .int lo, .int lu, .int rf, .ref kl, .ref kc, .ref hB])), (kl, .inr (6, [.int km, .ref kd, .int (nI K)]))]) [0, 1] rfl
    have hD9 := hD.sub (ws' := [(hM, .inr (14, [.int 0, .int (nI R), .int (nI C), .int fi, .int di, .int he, .int br, .int pa, .int gu, .int (nI sc), .int cl, .int se, .int lo, .int lu, .int rf, .ref kl, .ref kc, .ref hB])), (kl, .inr (6, [.int km, .ref kd, .int (nI K)]))]) [0, 1] (by decide) rfl
    exact W.iret (v := F_X7_best R C fi di br K) hx hb hr (fun t ht hW => ⟨⟨F_X7_best R C fi di br K, (), rfl, (by rw [hE]), (by (try rw [hE]); rw [ht]; exact hP9), (by (try rw [hE]); exact hD9)⟩, hS.F ht⟩) hS.2.2 dX7_bestDiode_9
  rw [hHe, hLe] at hgoal
  exact hgoal

def F_X7_wouldGhost (R : Nat) (C : Nat) (fi : Int32) (di : Int32) (br : Int32) (cl : Int32) (K : Nat) (x1 : Int32) : Int32 × Int32 := (if ((F_X7_start (F_X7_isNoKey K x1) 1).1) = 0 then (F_X7_ghostsWith R C fi di br cl K x1, (F_X7_start (F_X7_isNoKey K x1) 1).2) else (0, (F_X7_start (F_X7_isNoKey K x1) 1).2))
set_option maxHeartbeats 4000000 in
set_option maxRecDepth 100000 in
theorem c_X7_wouldGhost (l : Launch) (D : va_G) (hM : Nat) (th : Int32) (R : Nat) (C : Nat) (fi : Int32) (di : Int32) (he : Int32) (br : Int32) (pa : Int32) (gu : Int32) (sc : Nat) (cl : Int32) (se : Int32) (lo : Int32) (lu : Int32) (rf : Int32) (kl : Nat) (kc : Nat) (hB : Nat) (km : Int32) (kd : Nat) (K : Nat) (x1 : Int32) (sz : Nat) (hR : R ≤ 5) (hC : C ≤ 5) (hC0 : 0 < C) (hKb : K ≤ 25) : Met l yX7_wouldGhost (Cond.code yX7_wouldGhost cX7_wouldGhost 2 (some .int) :: lwAll) ({ frames := 4, cells := 0, slots := 0, locals := 94 } : Room) (va_Pc [.ref hM, .int x1] (cPre D (lwTY D) [(hM, .inr (14, [.int th, .int (nI R), .int (nI C), .int fi, .int di, .int he, .int br, .int pa, .int gu, .int (nI sc), .int cl, .int se, .int lo, .int lu, .int rf, .ref kl, .ref kc, .ref hB])), (kl, .inr (6, [.int km, .ref kd, .int (nI K)]))] sz)) (va_Qi (fun (r : Int32) (_ : Unit) => r = (F_X7_wouldGhost R C fi di br cl K x1).1) (fun (_ : Unit) t => va_P D vwCl [(hM, .inr (14, [.int ((F_X7_wouldGhost R C fi di br cl K x1).2), .int (nI R), .int (nI C), .int fi, .int di, .int he, .int br, .int pa, .int gu, .int (nI sc), .int cl, .int se, .int lo, .int lu, .int rf, .ref kl, .ref kc, .ref hB])), (kl, .inr (6, [.int km, .ref kd, .int (nI K)]))] t.heap ∧ va_D (va_A [(hM, .inr (14, [.int th, .int (nI R), .int (nI C), .int fi, .int di, .int he, .int br, .int pa, .int gu, .int (nI sc), .int cl, .int se, .int lo, .int lu, .int rf, .ref kl, .ref kc, .ref hB])), (kl, .inr (6, [.int km, .ref kd, .int (nI K)]))] sz) [(hM, .inr (14, [.int ((F_X7_wouldGhost R C fi di br cl K x1).2), .int (nI R), .int (nI C), .int fi, .int di, .int he, .int br, .int pa, .int gu, .int (nI sc), .int cl, .int se, .int lo, .int lu, .int rf, .ref kl, .ref kc, .ref hB])), (kl, .inr (6, [.int km, .ref kd, .int (nI K)]))]) (va_A [(hM, .inr (14, [.int th, .int (nI R), .int (nI C), .int fi, .int di, .int he, .int br, .int pa, .int gu, .int (nI sc), .int cl, .int se, .int lo, .int lu, .int rf, .ref kl, .ref kc, .ref hB])), (kl, .inr (6, [.int km, .ref kd, .int (nI K)]))] sz)) 0 0 (va_A [(hM, .inr (14, [.int th, .int (nI R), .int (nI C), .int fi, .int di, .int he, .int br, .int pa, .int gu, .int (nI sc), .int cl, .int se, .int lo, .int lu, .int rf, .ref kl, .ref kc, .ref hB])), (kl, .inr (6, [.int km, .ref kd, .int (nI K)]))] sz) := by
  refine Met.ofW (cc := cX7_wouldGhost) (maxL := 2) (ret := (some .int)) (by decide) rfl ?_
  intro p e s m args below meth c s₁ B hml hv
  obtain ⟨rfl, hsz, hP, hK, hD0, hN, hZ⟩ := hv
  have hx := B.exec
  have hb := B.bytes
  have hr := B.returns
  have hts : ∀ wd ∈ lwAll, wd.before ([.ref hM, .int x1] : List Value).toArray s = true := fun wd h => atoms_spec (ws := (Cond.code yX7_wouldGhost cX7_wouldGhost 2 (some .int) :: lwAll)) B.pre wd (List.mem_cons_of_mem _ h)
  have hown : s.vm.findClass RX7 = some m.cls := findClass_of_methodNamed B.named
  have hlocks := B.notSynchronized
  subst hsz
  have hD := hD0.self (sz := s.heap.size)
  have hl := lv_entry ([.ref hM, .int x1]) (n := 2) (Nat.le_of_ble_eq_true rfl)
  rw [lg_entry_eq]
  generalize (lg_sl ([.ref hM, .int x1]) ++ List.replicate (2 - (lg_sl ([.ref hM, .int x1])).length) Slot.unset).toArray = ls at hl ⊢
  have hl : lv_has ls 2 [(0, .ref hM), (1, .int x1)] := hl
  have hS : va_S (va_A [(hM, .inr (14, [.int th, .int (nI R), .int (nI C), .int fi, .int di, .int he, .int br, .int pa, .int gu, .int (nI sc), .int cl, .int se, .int lo, .int lu, .int rf, .ref kl, .ref kc, .ref hB])), (kl, .inr (6, [.int km, .ref kd, .int (nI K)]))] s.heap.size) s.heap s.heap [] := va_S.rf
  generalize hQe : MQ below (va_Qi (fun (r : Int32) (_ : Unit) => r = (F_X7_wouldGhost R C fi di br cl K x1).1) (fun (_ : Unit) t => va_P D vwCl [(hM, .inr (14, [.int ((F_X7_wouldGhost R C fi di br cl K x1).2), .int (nI R), .int (nI C), .int fi, .int di, .int he, .int br, .int pa, .int gu, .int (nI sc), .int cl, .int se, .int lo, .int lu, .int rf, .ref kl, .ref kc, .ref hB])), (kl, .inr (6, [.int km, .ref kd, .int (nI K)]))] t.heap ∧ va_D (va_A [(hM, .inr (14, [.int th, .int (nI R), .int (nI C), .int fi, .int di, .int he, .int br, .int pa, .int gu, .int (nI sc), .int cl, .int se, .int lo, .int lu, .int rf, .ref kl, .ref kc, .ref hB])), (kl, .inr (6, [.int km, .ref kd, .int (nI K)]))] s.heap.size) [(hM, .inr (14, [.int ((F_X7_wouldGhost R C fi di br cl K x1).2), .int (nI R), .int (nI C), .int fi, .int di, .int he, .int br, .int pa, .int gu, .int (nI sc), .int cl, .int se, .int lo, .int lu, .int rf, .ref kl, .ref kc, .ref hB])), (kl, .inr (6, [.int km, .ref kd, .int (nI K)]))]) (va_A [(hM, .inr (14, [.int th, .int (nI R), .int (nI C), .int fi, .int di, .int he, .int br, .int pa, .int gu, .int (nI sc), .int cl, .int se, .int lo, .int lu, .int rf, .ref kl, .ref kc, .ref hB])), (kl, .inr (6, [.int km, .ref kd, .int (nI K)]))] s.heap.size)) ([.ref hM, .int x1] : List Value).toArray s 0 0 (va_A [(hM, .inr (14, [.int th, .int (nI R), .int (nI C), .int fi, .int di, .int he, .int br, .int pa, .int gu, .int (nI sc), .int cl, .int se, .int lo, .int lu, .int rf, .ref kl, .ref kc, .ref hB])), (kl, .inr (6, [.int km, .ref kd, .int (nI K)]))] s.heap.size) = Q
  have hP : va_P D vwCl [(hM, .inr (14, [.int th, .int (nI R), .int (nI C), .int fi, .int di, .int he, .int br, .int pa, .int gu, .int (nI sc), .int cl, .int se, .int lo, .int lu, .int rf, .ref kl, .ref kc, .ref hB])), (kl, .inr (6, [.int km, .ref kd, .int (nI K)]))] s.heap := hP
  obtain ⟨A, hAe⟩ : ∃ A, A = va_A [(hM, .inr (14, [.int th, .int (nI R), .int (nI C), .int fi, .int di, .int he, .int br, .int pa, .int gu, .int (nI sc), .int cl, .int se, .int lo, .int lu, .int rf, .ref kl, .ref kc, .ref hB])), (kl, .inr (6, [.int km, .ref kd, .int (nI K)]))] s.heap.size := ⟨_, rfl⟩
  rw [← hAe] at hD hZ hS
  have hA : ∀ q : Nat, s.heap.size ≤ q → A q := fun q h => by rw [hAe]; exact Or.inr h
  obtain ⟨H, hHe⟩ : ∃ H, H = s.heap := ⟨_, rfl⟩
  obtain ⟨locs, hLe⟩ : ∃ L : List Loc, L = [] := ⟨_, rfl⟩
  have hP : va_P D vwCl [(hM, .inr (14, [.int th, .int (nI R), .int (nI C), .int fi, .int di, .int he, .int br, .int pa, .int gu, .int (nI sc), .int cl, .int se, .int lo, .int lu, .int rf, .ref kl, .ref kc, .ref hB])), (kl, .inr (6, [.int km, .ref kd, .int (nI K)]))] H := by rw [hHe]; exact hP
  have hS : va_S A s.heap H locs := by rw [hHe, hLe]; exact hS
  have hgoal : W p l e ({ frames := 4, cells := 0, slots := 0, locals := 94 } : Room) s m ([.ref hM, .int x1] : List Value).toArray below meth c H locs 0 0 Q (F0 m 0 ls []) := by
    clear hHe hLe
    refine lv_aload_n hx hb dX7_wouldGhost_0 rfl (lv_at hl 0 rfl) ?_
    refine lv_aload_n hx hb dX7_wouldGhost_1 rfl (lv_at hl 0 rfl) ?_
    refine lv_iload_n hx hb dX7_wouldGhost_2 rfl (lv_at hl 1 rfl) ?_
    have hPc := hP.sub (ws' := [(hM, .inr (14, [.int th, .int (nI R), .int (nI C), .int fi, .int di, .int he, .int br, .int pa, .int gu, .int (nI sc), .int cl, .int se, .int lo, .int lu, .int rf, .ref kl, .ref kc, .ref hB])), (kl, .inr (6, [.int km, .ref kd, .int (nI K)]))]) [0, 1] rfl
    have hDc := hD.sub (ws' := [(hM, .inr (14, [.int th, .int (nI R), .int (nI C), .int fi, .int di, .int he, .int br, .int pa, .int gu, .int (nI sc), .int cl, .int se, .int lo, .int lu, .int rf, .ref kl, .ref kc, .ref hB])), (kl, .inr (6, [.int km, .ref kd, .int (nI K)]))]) [0, 1] (by decide) rfl
    have hFc := va_free (wc := [(hM, .inr (14, [.int th, .int (nI R), .int (nI C), .int fi, .int di, .int he, .int br, .int pa, .int gu, .int (nI sc), .int cl, .int se, .int lo, .int lu, .int rf, .ref kl, .ref kc, .ref hB])), (kl, .inr (6, [.int km, .ref kd, .int (nI K)]))]) hD hS hA [0, 1] rfl
    refine va_calli (va_runV (As := [.int x1]) (rest := [.ref hM]) ⟨hx, hb, hml, hown, hts⟩ (c_X7_isNoKey l D hM th R C fi di he br pa gu sc cl se lo lu rf kl kc hB km kd K x1 H.size ) (cwV 1 hts (gi_V q_1342 q_1344 q_54 q_104 q_1345) rfl rfl rfl (by decide +kernel) ⟨Nat.le_of_ble_eq_true rfl, Nat.le_of_ble_eq_true rfl⟩) ⟨cPre_blind, va_recv hK hP (ci := 14) (q0 := 0) rfl rfl, cPre_mk hPc hK hDc hN (lwZ_for hZ hS hFc)⟩ rfl rfl hl.1 rfl (lv_room (Nat.le_of_ble_eq_true rfl)) dX7_wouldGhost_3 ⟨(Nat.le_of_ble_eq_true rfl), (Nat.le_of_ble_eq_true rfl)⟩) hS (fun q h1 h2 => absurd h2 (Nat.not_le.mpr h1)) (fun q h => hA q (Nat.le_trans hS.1 h)) (fun r_3 u t H1 locs ht hvm hw hBk hz1 hk1 hS => ?_)
    have hP := va_P_ro hP hk1
    obtain ⟨hw, z_1⟩ := hw
    rw [hw] at z_1
    subst hw
    clear hBk hvm ht u hz1 hk1
    clear hPc hDc hFc; clear t
    generalize H1 = H at hP hS ⊢
    refine lv_iconst (v := 1) hx hb dX7_wouldGhost_6 (by decide) ?_
    have hPc := hP.sub (ws' := [(hM, .inr (14, [.int th, .int (nI R), .int (nI C), .int fi, .int di, .int he, .int br, .int pa, .int gu, .int (nI sc), .int cl, .int se, .int lo, .int lu, .int rf, .ref kl, .ref kc, .ref hB]))]) [0] rfl
    have hDc := hD.sub (ws' := [(hM, .inr (14, [.int th, .int (nI R), .int (nI C), .int fi, .int di, .int he, .int br, .int pa, .int gu, .int (nI sc), .int cl, .int se, .int lo, .int lu, .int rf, .ref kl, .ref kc, .ref hB]))]) [0] (by decide) rfl
    have hFc := va_free (wc := [(hM, .inr (14, [.int th, .int (nI R), .int (nI C), .int fi, .int di, .int he, .int br, .int pa, .int gu, .int (nI sc), .int cl, .int se, .int lo, .int lu, .int rf, .ref kl, .ref kc, .ref hB]))]) hD hS hA [0] rfl
    refine va_calli (va_runV (As := [.int (F_X7_isNoKey K x1), .int 1]) (rest := []) ⟨hx, hb, hml, hown, hts⟩ (c_X7_start l D hM th R C fi di he br pa gu sc cl se lo lu rf kl kc hB (F_X7_isNoKey K x1) 1 H.size ) (cwV 2 hts (gi_V q_1330 q_1332 q_52 q_104 q_1333) rfl rfl rfl (by decide +kernel) ⟨Nat.le_of_ble_eq_true rfl, Nat.le_of_ble_eq_true rfl⟩) ⟨cPre_blind, va_recv hK hP (ci := 14) (q0 := 0) rfl rfl, cPre_mk hPc hK hDc hN (lwZ_for hZ hS hFc)⟩ rfl rfl hl.1 rfl (lv_room (Nat.le_of_ble_eq_true rfl)) dX7_wouldGhost_7 ⟨(Nat.le_of_ble_eq_true rfl), (Nat.le_of_ble_eq_true rfl)⟩) hS (fun q _ h => hFc q h) hFc (fun r_7 u t H1 locs ht hvm hw hBk hz1 hk1 hS => ?_)
    obtain ⟨hP1, hD1⟩ := hBk
    rw [ht] at hP1
    obtain ⟨hP, hD⟩ := va_join (wr := [(kl, .inr (6, [.int km, .ref kd, .int (nI K)]))]) (w1 := [(hM, .inr (14, [.int ((F_X7_start (F_X7_isNoKey K x1) 1).2), .int (nI R), .int (nI C), .int fi, .int di, .int he, .int br, .int pa, .int gu, .int (nI sc), .int cl, .int se, .int lo, .int lu, .int rf, .ref kl, .ref kc, .ref hB]))]) hP hD [0] [1] rfl rfl (by decide) (by decide) hk1 hFc hP1 hD1
    obtain ⟨hw, z_2⟩ := hw
    rw [hw] at z_2
    subst hw
    clear hPc hDc hFc hP1 hD1 hk1 hz1
    clear hvm ht u; clear t
    generalize H1 = H at hP hS ⊢
    have hP : va_P D vwCl [(kl, .inr (6, [.int km, .ref kd, .int (nI K)])), (hM, .inr (14, [.int ((F_X7_start (F_X7_isNoKey K x1) 1).2), .int (nI R), .int (nI C), .int fi, .int di, .int he, .int br, .int pa, .int gu, .int (nI sc), .int cl, .int se, .int lo, .int lu, .int rf, .ref kl, .ref kc, .ref hB]))] H := hP
    have hD : va_D A [(kl, .inr (6, [.int km, .ref kd, .int (nI K)])), (hM, .inr (14, [.int ((F_X7_start (F_X7_isNoKey K x1) 1).2), .int (nI R), .int (nI C), .int fi, .int di, .int he, .int br, .int pa, .int gu, .int (nI sc), .int cl, .int se, .int lo, .int lu, .int rf, .ref kl, .ref kc, .ref hB]))] := hD
    refine lv_if_eq (tgt := 17) hx hb dX7_wouldGhost_10 (by decide) (fun c_3 => ?_) (fun c_3 => ?_)
    · refine lv_aload_n hx hb dX7_wouldGhost_17 rfl (lv_at hl 0 rfl) ?_
      refine lv_iload_n hx hb dX7_wouldGhost_18 rfl (lv_at hl 1 rfl) ?_
      have hPc := hP.sub (ws' := [(hM, .inr (14, [.int ((F_X7_start (F_X7_isNoKey K x1) 1).2), .int (nI R), .int (nI C), .int fi, .int di, .int he, .int br, .int pa, .int gu, .int (nI sc), .int cl, .int se, .int lo, .int lu, .int rf, .ref kl, .ref kc, .ref hB])), (kl, .inr (6, [.int km, .ref kd, .int (nI K)]))]) [1, 0] rfl
      have hDc := hD.sub (ws' := [(hM, .inr (14, [.int ((F_X7_start (F_X7_isNoKey K x1) 1).2), .int (nI R), .int (nI C), .int fi, .int di, .int he, .int br, .int pa, .int gu, .int (nI sc), .int cl, .int se, .int lo, .int lu, .int rf, .ref kl, .ref kc, .ref hB])), (kl, .inr (6, [.int km, .ref kd, .int (nI K)]))]) [1, 0] (by decide) rfl
      have hFc := va_free (wc := [(hM, .inr (14, [.int ((F_X7_start (F_X7_isNoKey K x1) 1).2), .int (nI R), .int (nI C), .int fi, .int di, .int he, .int br, .int pa, .int gu, .int (nI sc), .int cl, .int se, .int lo, .int lu, .int rf, .ref kl, .ref kc, .ref hB])), (kl, .inr (6, [.int km, .ref kd, .int (nI K)]))]) hD hS hA [1, 0] rfl
      refine va_calli (va_runV (As := [.int x1]) (rest := []) ⟨hx, hb, hml, hown, hts⟩ (c_X7_ghostsWith l D hM ((F_X7_start (F_X7_isNoKey K x1) 1).2) R C fi di he br pa gu sc cl se lo lu rf kl kc hB km kd K x1 H.size (show R ≤ 5 from hR) (show C ≤ 5 from hC) (show 0 < C from hC0) (show K ≤ 25 from hKb)) (cwV 1 hts (gi_V q_1633 q_1635 q_77 q_104 q_1636) rfl rfl rfl (by decide +kernel) ⟨Nat.le_of_ble_eq_true rfl, Nat.le_of_ble_eq_true rfl⟩) ⟨cPre_blind, va_recv hK hP (ci := 14) (q0 := 1) rfl rfl, cPre_mk hPc hK hDc hN (lwZ_for hZ hS hFc)⟩ rfl rfl hl.1 rfl (lv_room (Nat.le_of_ble_eq_true rfl)) dX7_wouldGhost_19 ⟨(Nat.le_of_ble_eq_true rfl), (Nat.le_of_ble_eq_true rfl)⟩) hS (fun q h1 h2 => absurd h2 (Nat.not_le.mpr h1)) (fun q h => hA q (Nat.le_trans hS.1 h)) (fun r_19 u t H1 locs ht hvm hw hBk hz1 hk1 hS => ?_)
      have hP := va_P_ro hP hk1
      subst hw
      clear hBk hvm ht u hz1 hk1
      clear hPc hDc hFc; clear t
      generalize H1 = H at hP hS ⊢
      subst hQe
      subst hAe
      have hE : (F_X7_wouldGhost R C fi di br cl K x1) = (F_X7_ghostsWith R C fi di br cl K x1, (F_X7_start (F_X7_isNoKey K x1) 1).2) := (by unfold F_X7_wouldGhost; rw [if_pos c_3])
      have hP9 := hP.sub (ws' := [(hM, .inr (14, [.int ((F_X7_start (F_X7_isNoKey K x1) 1).2), .int (nI R), .int (nI C), .int fi, .int di, .int he, .int br, .int pa, .int gu, .int (nI sc), .int cl, .int se, .int lo, .int lu, .int rf, .ref kl, .ref kc, .ref hB])), (kl, .inr (6, [.int km, .ref kd, .int (nI K)]))]) [1, 0] rfl
      have hD9 := hD.sub (ws' := [(hM, .inr (14, [.int ((F_X7_start (F_X7_isNoKey K x1) 1).2), .int (nI R), .int (nI C), .int fi, .int di, .int he, .int br, .int pa, .int gu, .int (nI sc), .int cl, .int se, .int lo, .int lu, .int rf, .ref kl, .ref kc, .ref hB])), (kl, .inr (6, [.int km, .ref kd, .int (nI K)]))]) [1, 0] (by decide) rfl
      exact W.iret (v := F_X7_ghostsWith R C fi di br cl K x1) hx hb hr (fun t ht hW => ⟨⟨F_X7_ghostsWith R C fi di br cl K x1, (), rfl, (by rw [hE]), (by (try rw [hE]); rw [ht]; exact hP9), (by (try rw [hE]); exact hD9)⟩, hS.F ht⟩) hS.2.2 dX7_wouldGhost_22
    · refine lv_iconst (v := 0) hx hb dX7_wouldGhost_13 (by decide) ?_
      refine lv_goto (tgt := 22) hx hb dX7_wouldGhost_14 (by decide) ?_
      subst hQe
      subst hAe
      have hE : (F_X7_wouldGhost R C fi di br cl K x1) = (0, (F_X7_start (F_X7_isNoKey K x1) 1).2) := (by unfold F_X7_wouldGhost; rw [if_neg c_3])
      have hP9 := hP.sub (ws' := [(hM, .inr (14, [.int ((F_X7_start (F_X7_isNoKey K x1) 1).2), .int (nI R), .int (nI C), .int fi, .int di, .int he, .int br, .int pa, .int gu, .int (nI sc), .int cl, .int se, .int lo, .int lu, .int rf, .ref kl, .ref kc, .ref hB])), (kl, .inr (6, [.int km, .ref kd, .int (nI K)]))]) [1, 0] rfl
      have hD9 := hD.sub (ws' := [(hM, .inr (14, [.int ((F_X7_start (F_X7_isNoKey K x1) 1).2), .int (nI R), .int (nI C), .int fi, .int di, .int he, .int br, .int pa, .int gu, .int (nI sc), .int cl, .int se, .int lo, .int lu, .int rf, .ref kl, .ref kc, .ref hB])), (kl, .inr (6, [.int km, .ref kd, .int (nI K)]))]) [1, 0] (by decide) rfl
      exact W.iret (v := 0) hx hb hr (fun t ht hW => ⟨⟨0, (), rfl, (by rw [hE]), (by (try rw [hE]); rw [ht]; exact hP9), (by (try rw [hE]); exact hD9)⟩, hS.F ht⟩) hS.2.2 dX7_wouldGhost_22
  rw [hHe, hLe] at hgoal
  exact hgoal

theorem not60 {n : Nat} (h1 : n ≤ 60) (h : ¬ nI n = 60) : ¬ (60 : Int32) ≤ nI n := fun h2 => by
  rcases Nat.lt_or_ge n 60 with h3 | h3
  · exact nI_ge (a := n) (b := 60) (by omega) (by omega) h2
  · exact h (by rw [show n = 60 from by omega]; rfl)
def F_X7_type (lo : Int32) (n : Nat) (cap : Nat) (fY : Nat → Int32) (x1 : Int32) : Int32 × Nat × Nat × (Nat → Int32) := (if (nI n) = 60 then (lo + 1, n, cap, fY) else (if n < cap then (lo, ((F_J4_append_cf468A n fY x1).1), cap, (F_J4_append_cf468A n fY x1).2) else (lo, ((F_J4_append_cf468B n fY x1).1), ((F_J4_append_cf468B n fY x1).2.1), (F_J4_append_cf468B n fY x1).2.2)))
set_option maxHeartbeats 4000000 in
set_option maxRecDepth 100000 in
theorem c_X7_type (l : Launch) (D : va_G) (hM : Nat) (th : Int32) (R : Nat) (C : Nat) (fi : Int32) (di : Int32) (he : Int32) (br : Int32) (pa : Int32) (gu : Int32) (sc : Nat) (cl : Int32) (se : Int32) (lo : Int32) (lu : Int32) (rf : Int32) (kl : Nat) (kc : Nat) (hB : Nat) (aY : Nat) (ml : Int32) (n : Nat) (cap : Nat) (fY : Nat → Int32) (x1 : Int32) (sz : Nat) (hB_ : okB n cap fY) (hch : ¬ 255 < x1) : Met l yX7_type (Cond.code yX7_type cX7_type 2 none :: lwAll) ({ frames := 6, cells := capT n cap - cap, slots := 2 * (capT n cap - cap), locals := 146 } : Room) (va_Pc [.ref hM, .int x1] (cPre D (lwTY D) [(hM, .inr (14, [.int th, .int (nI R), .int (nI C), .int fi, .int di, .int he, .int br, .int pa, .int gu, .int (nI sc), .int cl, .int se, .int lo, .int lu, .int rf, .ref kl, .ref kc, .ref hB])), (hB, .inr (1, [.ref aY, .int 0, .int ml, .int (nI n)])), (aY, .inl ((D.1 100), cap, .inl fY))] sz)) (va_Qv (fun (_ : Nat) => True) (fun (aY2 : Nat) t => va_P D vwCl [(hM, .inr (14, [.int th, .int (nI R), .int (nI C), .int fi, .int di, .int he, .int br, .int pa, .int gu, .int (nI sc), .int cl, .int se, .int ((F_X7_type lo n cap fY x1).1), .int lu, .int rf, .ref kl, .ref kc, .ref hB])), (hB, .inr (1, [.ref aY2, .int 0, .int ml, .int (nI ((F_X7_type lo n cap fY x1).2.1))])), (aY2, .inl ((D.1 100), ((F_X7_type lo n cap fY x1).2.2.1), .inl ((F_X7_type lo n cap fY x1).2.2.2)))] t.heap ∧ va_D (va_A [(hM, .inr (14, [.int th, .int (nI R), .int (nI C), .int fi, .int di, .int he, .int br, .int pa, .int gu, .int (nI sc), .int cl, .int se, .int lo, .int lu, .int rf, .ref kl, .ref kc, .ref hB])), (hB, .inr (1, [.ref aY, .int 0, .int ml, .int (nI n)])), (aY, .inl ((D.1 100), cap, .inl fY))] sz) [(hM, .inr (14, [.int th, .int (nI R), .int (nI C), .int fi, .int di, .int he, .int br, .int pa, .int gu, .int (nI sc), .int cl, .int se, .int ((F_X7_type lo n cap fY x1).1), .int lu, .int rf, .ref kl, .ref kc, .ref hB])), (hB, .inr (1, [.ref aY2, .int 0, .int ml, .int (nI ((F_X7_type lo n cap fY x1).2.1))])), (aY2, .inl ((D.1 100), ((F_X7_type lo n cap fY x1).2.2.1), .inl ((F_X7_type lo n cap fY x1).2.2.2)))]) (va_A [(hM, .inr (14, [.int th, .int (nI R), .int (nI C), .int fi, .int di, .int he, .int br, .int pa, .int gu, .int (nI sc), .int cl, .int se, .int lo, .int lu, .int rf, .ref kl, .ref kc, .ref hB])), (hB, .inr (1, [.ref aY, .int 0, .int ml, .int (nI n)])), (aY, .inl ((D.1 100), cap, .inl fY))] sz)) (capT n cap - cap) (2 * (capT n cap - cap)) (va_A [(hM, .inr (14, [.int th, .int (nI R), .int (nI C), .int fi, .int di, .int he, .int br, .int pa, .int gu, .int (nI sc), .int cl, .int se, .int lo, .int lu, .int rf, .ref kl, .ref kc, .ref hB])), (hB, .inr (1, [.ref aY, .int 0, .int ml, .int (nI n)])), (aY, .inl ((D.1 100), cap, .inl fY))] sz) := by
  refine Met.ofW (cc := cX7_type) (maxL := 2) (ret := none) (by decide) rfl ?_
  intro p e s m args below meth c s₁ B hml hv
  obtain ⟨rfl, hsz, hP, hK, hD0, hN, hZ⟩ := hv
  have hx := B.exec
  have hb := B.bytes
  have hr := B.returns
  have hts : ∀ wd ∈ lwAll, wd.before ([.ref hM, .int x1] : List Value).toArray s = true := fun wd h => atoms_spec (ws := (Cond.code yX7_type cX7_type 2 none :: lwAll)) B.pre wd (List.mem_cons_of_mem _ h)
  have hown : s.vm.findClass RX7 = some m.cls := findClass_of_methodNamed B.named
  have hlocks := B.notSynchronized
  subst hsz
  have hD := hD0.self (sz := s.heap.size)
  have hl := lv_entry ([.ref hM, .int x1]) (n := 2) (Nat.le_of_ble_eq_true rfl)
  rw [lg_entry_eq]
  generalize (lg_sl ([.ref hM, .int x1]) ++ List.replicate (2 - (lg_sl ([.ref hM, .int x1])).length) Slot.unset).toArray = ls at hl ⊢
  have hl : lv_has ls 2 [(0, .ref hM), (1, .int x1)] := hl
  have hS : va_S (va_A [(hM, .inr (14, [.int th, .int (nI R), .int (nI C), .int fi, .int di, .int he, .int br, .int pa, .int gu, .int (nI sc), .int cl, .int se, .int lo, .int lu, .int rf, .ref kl, .ref kc, .ref hB])), (hB, .inr (1, [.ref aY, .int 0, .int ml, .int (nI n)])), (aY, .inl ((D.1 100), cap, .inl fY))] s.heap.size) s.heap s.heap [] := va_S.rf
  generalize hQe : MQ below (va_Qv (fun (_ : Nat) => True) (fun (aY2 : Nat) t => va_P D vwCl [(hM, .inr (14, [.int th, .int (nI R), .int (nI C), .int fi, .int di, .int he, .int br, .int pa, .int gu, .int (nI sc), .int cl, .int se, .int ((F_X7_type lo n cap fY x1).1), .int lu, .int rf, .ref kl, .ref kc, .ref hB])), (hB, .inr (1, [.ref aY2, .int 0, .int ml, .int (nI ((F_X7_type lo n cap fY x1).2.1))])), (aY2, .inl ((D.1 100), ((F_X7_type lo n cap fY x1).2.2.1), .inl ((F_X7_type lo n cap fY x1).2.2.2)))] t.heap ∧ va_D (va_A [(hM, .inr (14, [.int th, .int (nI R), .int (nI C), .int fi, .int di, .int he, .int br, .int pa, .int gu, .int (nI sc), .int cl, .int se, .int lo, .int lu, .int rf, .ref kl, .ref kc, .ref hB])), (hB, .inr (1, [.ref aY, .int 0, .int ml, .int (nI n)])), (aY, .inl ((D.1 100), cap, .inl fY))] s.heap.size) [(hM, .inr (14, [.int th, .int (nI R), .int (nI C), .int fi, .int di, .int he, .int br, .int pa, .int gu, .int (nI sc), .int cl, .int se, .int ((F_X7_type lo n cap fY x1).1), .int lu, .int rf, .ref kl, .ref kc, .ref hB])), (hB, .inr (1, [.ref aY2, .int 0, .int ml, .int (nI ((F_X7_type lo n cap fY x1).2.1))])), (aY2, .inl ((D.1 100), ((F_X7_type lo n cap fY x1).2.2.1), .inl ((F_X7_type lo n cap fY x1).2.2.2)))]) (va_A [(hM, .inr (14, [.int th, .int (nI R), .int (nI C), .int fi, .int di, .int he, .int br, .int pa, .int gu, .int (nI sc), .int cl, .int se, .int lo, .int lu, .int rf, .ref kl, .ref kc, .ref hB])), (hB, .inr (1, [.ref aY, .int 0, .int ml, .int (nI n)])), (aY, .inl ((D.1 100), cap, .inl fY))] s.heap.size)) ([.ref hM, .int x1] : List Value).toArray s (capT n cap - cap) (2 * (capT n cap - cap)) (va_A [(hM, .inr (14, [.int th, .int (nI R), .int (nI C), .int fi, .int di, .int he, .int br, .int pa, .int gu, .int (nI sc), .int cl, .int se, .int lo, .int lu, .int rf, .ref kl, .ref kc, .ref hB])), (hB, .inr (1, [.ref aY, .int 0, .int ml, .int (nI n)])), (aY, .inl ((D.1 100), cap, .inl fY))] s.heap.size) = Q
  have hP : va_P D vwCl [(hM, .inr (14, [.int th, .int (nI R), .int (nI C), .int fi, .int di, .int he, .int br, .int pa, .int gu, .int (nI sc), .int cl, .int se, .int lo, .int lu, .int rf, .ref kl, .ref kc, .ref hB])), (hB, .inr (1, [.ref aY, .int 0, .int ml, .int (nI n)])), (aY, .inl ((D.1 100), cap, .inl fY))] s.heap := hP
  obtain ⟨A, hAe⟩ : ∃ A, A = va_A [(hM, .inr (14, [.int th, .int (nI R), .int (nI C), .int fi, .int di, .int he, .int br, .int pa, .int gu, .int (nI sc), .int cl, .int se, .int lo, .int lu, .int rf, .ref kl, .ref kc, .ref hB])), (hB, .inr (1, [.ref aY, .int 0, .int ml, .int (nI n)])), (aY, .inl ((D.1 100), cap, .inl fY))] s.heap.size := ⟨_, rfl⟩
  rw [← hAe] at hD hZ hS
  have hA : ∀ q : Nat, s.heap.size ≤ q → A q := fun q h => by rw [hAe]; exact Or.inr h
  obtain ⟨H, hHe⟩ : ∃ H, H = s.heap := ⟨_, rfl⟩
  obtain ⟨locs, hLe⟩ : ∃ L : List Loc, L = [] := ⟨_, rfl⟩
  have hP : va_P D vwCl [(hM, .inr (14, [.int th, .int (nI R), .int (nI C), .int fi, .int di, .int he, .int br, .int pa, .int gu, .int (nI sc), .int cl, .int se, .int lo, .int lu, .int rf, .ref kl, .ref kc, .ref hB])), (hB, .inr (1, [.ref aY, .int 0, .int ml, .int (nI n)])), (aY, .inl ((D.1 100), cap, .inl fY))] H := by rw [hHe]; exact hP
  have hS : va_S A s.heap H locs := by rw [hHe, hLe]; exact hS
  have hgoal : W p l e ({ frames := 6, cells := capT n cap - cap, slots := 2 * (capT n cap - cap), locals := 146 } : Room) s m ([.ref hM, .int x1] : List Value).toArray below meth c H locs 0 0 Q (F0 m 0 ls []) := by
    clear hHe hLe
    obtain ⟨hB1, hB2, hB3, hB4⟩ := id hB_
    refine lv_aload_n hx hb dX7_type_0 rfl (lv_at hl 0 rfl) ?_
    refine va_get (D := D) (ci := 14) (v := .ref hB) (C := RX7) (T := TX7) (N := 18) hx hb hts in_X7 hown hK hP 0 rfl rfl 17 (by decide) (hts _ q_1285) (fun _ h9 => h9) rfl dX7_type_1 ?_
    have hPc := hP.sub (ws' := [(hB, .inr (1, [.ref aY, .int 0, .int ml, .int (nI n)]))]) [1] rfl
    have hDc := hD.sub (ws' := [(hB, .inr (1, [.ref aY, .int 0, .int ml, .int (nI n)]))]) [1] (by decide) rfl
    have hFc := va_free (wc := [(hB, .inr (1, [.ref aY, .int 0, .int ml, .int (nI n)]))]) hD hS hA [1] rfl
    refine va_calli (va_runV (As := []) (rest := []) ⟨hx, hb, hml, hown, hts⟩ (c_J4_length_8abf5 l D hB aY ml n H.size ) (cwV 0 hts (gi_V q_1489 q_493 q_1666 q_86 q_494) rfl rfl rfl (by decide +kernel) ⟨Nat.le_of_ble_eq_true rfl, Nat.le_of_ble_eq_true rfl⟩) ⟨cPre_blind, va_recv hK hP (ci := 1) (q0 := 1) rfl rfl, cPre_mk hPc hK hDc hN (lwZ_for hZ hS hFc)⟩ rfl rfl hl.1 rfl (lv_room (Nat.le_of_ble_eq_true rfl)) dX7_type_4 ⟨(show 0 + 0 ≤ (capT n cap - cap) from (by omega)), (show 0 + 0 ≤ (2 * (capT n cap - cap)) from (by omega))⟩) hS (fun q h1 h2 => absurd h2 (Nat.not_le.mpr h1)) (fun q h => hA q (Nat.le_trans hS.1 h)) (fun r_4 u t H1 locs ht hvm hw hBk hz1 hk1 hS => ?_)
    have hP := va_P_ro hP hk1
    subst hw
    clear hBk hvm ht u hz1 hk1
    clear hPc hDc hFc; clear t
    generalize H1 = H at hP hS ⊢
    rw [show (F_J4_length_8abf5 n : Int32) = nI n from rfl]
    refine lv_bipush (v := 60) hx hb dX7_type_7 (by decide) ?_
    refine lv_icmp_ne (tgt := 25) hx hb dX7_type_9 (by decide) (fun c_1 => ?_) (fun c_1 => ?_)
    · refine lv_aload_n hx hb dX7_type_25 rfl (lv_at hl 0 rfl) ?_
      refine va_get (D := D) (ci := 14) (v := .ref hB) (C := RX7) (T := TX7) (N := 18) hx hb hts in_X7 hown hK hP 0 rfl rfl 17 (by decide) (hts _ q_1285) (fun _ h9 => h9) rfl dX7_type_26 ?_
      refine lv_iload_n hx hb dX7_type_29 rfl (lv_at hl 1 rfl) ?_
      by_cases c_2 : n < cap
      · have hPc := hP.sub (ws' := [(hB, .inr (1, [.ref aY, .int 0, .int ml, .int (nI n)])), (aY, .inl ((D.1 100), cap, .inl fY))]) [1, 2] rfl
        have hDc := hD.sub (ws' := [(hB, .inr (1, [.ref aY, .int 0, .int ml, .int (nI n)])), (aY, .inl ((D.1 100), cap, .inl fY))]) [1, 2] (by decide) rfl
        have hFc := va_free (wc := [(hB, .inr (1, [.ref aY, .int 0, .int ml, .int (nI n)])), (aY, .inl ((D.1 100), cap, .inl fY))]) hD hS hA [1, 2] rfl
        refine va_callr (va_runV (As := [.int x1]) (rest := []) ⟨hx, hb, hml, hown, hts⟩ (c_J4_append_cf468A l D hB aY ml n cap fY x1 H.size (show n < cap from (by omega)) (show cap ≤ 1000 from (by omega)) (show ¬ 255 < x1 from (by assumption))) (cwV 1 hts (gi_V q_1490 q_1021 q_1022 q_86 q_1023) rfl rfl rfl (by decide +kernel) ⟨Nat.le_of_ble_eq_true rfl, Nat.le_of_ble_eq_true rfl⟩) ⟨cPre_blind, va_recv hK hP (ci := 1) (q0 := 1) rfl rfl, cPre_mk hPc hK hDc hN (lwZ_for hZ hS hFc)⟩ rfl rfl hl.1 rfl (lv_room (Nat.le_of_ble_eq_true rfl)) dX7_type_30 ⟨(show 0 + 0 ≤ (capT n cap - cap) from (by first | omega | (have h7 := capT_B (n := n) (cap := cap) (by assumption) (not60 (by assumption) (by assumption)) (by assumption); omega))), (show 0 + 0 ≤ (2 * (capT n cap - cap)) from (by first | omega | (have h7 := capT_B (n := n) (cap := cap) (by assumption) (not60 (by assumption) (by assumption)) (by assumption); omega)))⟩) hS (fun q _ h => hFc q h) hFc (fun u ra_30 t H1 locs ht hvm hw hBk hz1 hk1 hS => ?_)
        obtain ⟨hra, hP1, hD1⟩ := hBk
        have hra2 := hra.symm
        subst hra2
        rw [ht] at hP1
        obtain ⟨hP, hD⟩ := va_join (wr := [(hM, .inr (14, [.int th, .int (nI R), .int (nI C), .int fi, .int di, .int he, .int br, .int pa, .int gu, .int (nI sc), .int cl, .int se, .int lo, .int lu, .int rf, .ref kl, .ref kc, .ref hB]))]) (w1 := [(hB, .inr (1, [.ref aY, .int 0, .int ml, .int (nI ((F_J4_append_cf468A n fY x1).1))])), (aY, .inl ((D.1 100), cap, .inl ((F_J4_append_cf468A n fY x1).2)))]) hP hD [1, 2] [0] rfl rfl (by decide) (by decide) hk1 hFc hP1 hD1
        clear hPc hDc hFc hP1 hD1 hk1 hz1
        clear hvm ht u; clear t
        generalize H1 = H at hP hS ⊢
        have hP : va_P D vwCl [(hM, .inr (14, [.int th, .int (nI R), .int (nI C), .int fi, .int di, .int he, .int br, .int pa, .int gu, .int (nI sc), .int cl, .int se, .int lo, .int lu, .int rf, .ref kl, .ref kc, .ref hB])), (hB, .inr (1, [.ref aY, .int 0, .int ml, .int (nI ((F_J4_append_cf468A n fY x1).1))])), (aY, .inl ((D.1 100), cap, .inl ((F_J4_append_cf468A n fY x1).2)))] H := hP
        have hD : va_D A [(hM, .inr (14, [.int th, .int (nI R), .int (nI C), .int fi, .int di, .int he, .int br, .int pa, .int gu, .int (nI sc), .int cl, .int se, .int lo, .int lu, .int rf, .ref kl, .ref kc, .ref hB])), (hB, .inr (1, [.ref aY, .int 0, .int ml, .int (nI ((F_J4_append_cf468A n fY x1).1))])), (aY, .inl ((D.1 100), cap, .inl ((F_J4_append_cf468A n fY x1).2)))] := hD
        refine lv_pop hx hb dX7_type_33 rfl ?_
        subst hQe
        subst hAe
        have hE : (F_X7_type lo n cap fY x1) = (lo, ((F_J4_append_cf468A n fY x1).1), cap, (F_J4_append_cf468A n fY x1).2) := (by unfold F_X7_type; rw [if_neg c_1, if_pos c_2])
        refine W.widen (k := capT n cap - cap) (n := 2 * (capT n cap - cap)) (by first | omega | (have h7 := capT_B (n := n) (cap := cap) (by assumption) (not60 (by assumption) (by assumption)) (by assumption); omega)) (by first | omega | (have h7 := capT_B (n := n) (cap := cap) (by assumption) (not60 (by assumption) (by assumption)) (by assumption); omega)) ?_
        have hP9 := hP.sub (ws' := [(hM, .inr (14, [.int th, .int (nI R), .int (nI C), .int fi, .int di, .int he, .int br, .int pa, .int gu, .int (nI sc), .int cl, .int se, .int lo, .int lu, .int rf, .ref kl, .ref kc, .ref hB])), (hB, .inr (1, [.ref aY, .int 0, .int ml, .int (nI ((F_J4_append_cf468A n fY x1).1))])), (aY, .inl ((D.1 100), cap, .inl ((F_J4_append_cf468A n fY x1).2)))]) [0, 1, 2] rfl
        have hD9 := hD.sub (ws' := [(hM, .inr (14, [.int th, .int (nI R), .int (nI C), .int fi, .int di, .int he, .int br, .int pa, .int gu, .int (nI sc), .int cl, .int se, .int lo, .int lu, .int rf, .ref kl, .ref kc, .ref hB])), (hB, .inr (1, [.ref aY, .int 0, .int ml, .int (nI ((F_J4_append_cf468A n fY x1).1))])), (aY, .inl ((D.1 100), cap, .inl ((F_J4_append_cf468A n fY x1).2)))]) [0, 1, 2] (by decide) rfl
        exact W.vret hx hb hr (fun t ht hW => ⟨⟨aY, rfl, trivial, (by (try rw [hE]); rw [ht]; exact hP9), (by (try rw [hE]); exact hD9)⟩, hS.F ht⟩) hS.2.2 dX7_type_34
      · have hPc := hP.sub (ws' := [(hB, .inr (1, [.ref aY, .int 0, .int ml, .int (nI n)])), (aY, .inl ((D.1 100), cap, .inl fY))]) [1, 2] rfl
        have hDc := hD.sub (ws' := [(hB, .inr (1, [.ref aY, .int 0, .int ml, .int (nI n)])), (aY, .inl ((D.1 100), cap, .inl fY))]) [1, 2] (by decide) rfl
        have hFc := va_free (wc := [(hB, .inr (1, [.ref aY, .int 0, .int ml, .int (nI n)])), (aY, .inl ((D.1 100), cap, .inl fY))]) hD hS hA [1, 2] rfl
        refine va_callr (va_runV (As := [.int x1]) (rest := []) ⟨hx, hb, hml, hown, hts⟩ (c_J4_append_cf468B l D hB aY ml n cap fY x1 H.size (show n = cap from (by omega)) (show cap ≤ 1000 from (by omega)) (show ∀ j, fits .byte (.int (fY j)) = true from (by assumption)) (show ¬ 255 < x1 from (by assumption))) (cwV 1 hts (gi_V q_1490 q_1021 q_1022 q_86 q_1023) rfl rfl rfl (by decide +kernel) ⟨Nat.le_of_ble_eq_true rfl, Nat.le_of_ble_eq_true rfl⟩) ⟨cPre_blind, va_recv hK hP (ci := 1) (q0 := 1) rfl rfl, cPre_mk hPc hK hDc hN (lwZ_for hZ hS hFc)⟩ rfl rfl hl.1 rfl (lv_room (Nat.le_of_ble_eq_true rfl)) dX7_type_30 ⟨(show 0 + 1 ≤ (capT n cap - cap) from (by first | omega | (have h7 := capT_B (n := n) (cap := cap) (by assumption) (not60 (by assumption) (by assumption)) (by assumption); omega))), (show 0 + (2 * cap + 2) ≤ (2 * (capT n cap - cap)) from (by first | omega | (have h7 := capT_B (n := n) (cap := cap) (by assumption) (not60 (by assumption) (by assumption)) (by assumption); omega)))⟩) hS (fun q _ h => hFc q h) hFc (fun u ra_30 t H1 locs ht hvm hw hBk hz1 hk1 hS => ?_)
        obtain ⟨aY_30, rfl⟩ : ∃ z, z = u := ⟨_, rfl⟩
        obtain ⟨hra, hP1, hD1⟩ := hBk
        have hra2 := hra.symm
        subst hra2
        rw [ht] at hP1
        obtain ⟨hP, hD⟩ := va_join (wr := [(hM, .inr (14, [.int th, .int (nI R), .int (nI C), .int fi, .int di, .int he, .int br, .int pa, .int gu, .int (nI sc), .int cl, .int se, .int lo, .int lu, .int rf, .ref kl, .ref kc, .ref hB]))]) (w1 := [(hB, .inr (1, [.ref aY_30, .int 0, .int ml, .int (nI ((F_J4_append_cf468B n fY x1).1))])), (aY_30, .inl ((D.1 100), ((F_J4_append_cf468B n fY x1).2.1), .inl ((F_J4_append_cf468B n fY x1).2.2)))]) hP hD [1, 2] [0] rfl rfl (by decide) (by decide) hk1 hFc hP1 hD1
        clear hPc hDc hFc hP1 hD1 hk1 hz1
        clear hvm ht; clear t
        generalize H1 = H at hP hS ⊢
        have hP : va_P D vwCl [(hM, .inr (14, [.int th, .int (nI R), .int (nI C), .int fi, .int di, .int he, .int br, .int pa, .int gu, .int (nI sc), .int cl, .int se, .int lo, .int lu, .int rf, .ref kl, .ref kc, .ref hB])), (hB, .inr (1, [.ref aY_30, .int 0, .int ml, .int (nI ((F_J4_append_cf468B n fY x1).1))])), (aY_30, .inl ((D.1 100), ((F_J4_append_cf468B n fY x1).2.1), .inl ((F_J4_append_cf468B n fY x1).2.2)))] H := hP
        have hD : va_D A [(hM, .inr (14, [.int th, .int (nI R), .int (nI C), .int fi, .int di, .int he, .int br, .int pa, .int gu, .int (nI sc), .int cl, .int se, .int lo, .int lu, .int rf, .ref kl, .ref kc, .ref hB])), (hB, .inr (1, [.ref aY_30, .int 0, .int ml, .int (nI ((F_J4_append_cf468B n fY x1).1))])), (aY_30, .inl ((D.1 100), ((F_J4_append_cf468B n fY x1).2.1), .inl ((F_J4_append_cf468B n fY x1).2.2)))] := hD
        refine lv_pop hx hb dX7_type_33 rfl ?_
        subst hQe
        subst hAe
        have hE : (F_X7_type lo n cap fY x1) = (lo, ((F_J4_append_cf468B n fY x1).1), ((F_J4_append_cf468B n fY x1).2.1), (F_J4_append_cf468B n fY x1).2.2) := (by unfold F_X7_type; rw [if_neg c_1, if_neg c_2])
        refine W.widen (k := capT n cap - cap) (n := 2 * (capT n cap - cap)) (by first | omega | (have h7 := capT_B (n := n) (cap := cap) (by assumption) (not60 (by assumption) (by assumption)) (by assumption); omega)) (by first | omega | (have h7 := capT_B (n := n) (cap := cap) (by assumption) (not60 (by assumption) (by assumption)) (by assumption); omega)) ?_
        have hP9 := hP.sub (ws' := [(hM, .inr (14, [.int th, .int (nI R), .int (nI C), .int fi, .int di, .int he, .int br, .int pa, .int gu, .int (nI sc), .int cl, .int se, .int lo, .int lu, .int rf, .ref kl, .ref kc, .ref hB])), (hB, .inr (1, [.ref aY_30, .int 0, .int ml, .int (nI ((F_J4_append_cf468B n fY x1).1))])), (aY_30, .inl ((D.1 100), ((F_J4_append_cf468B n fY x1).2.1), .inl ((F_J4_append_cf468B n fY x1).2.2)))]) [0, 1, 2] rfl
        have hD9 := hD.sub (ws' := [(hM, .inr (14, [.int th, .int (nI R), .int (nI C), .int fi, .int di, .int he, .int br, .int pa, .int gu, .int (nI sc), .int cl, .int se, .int lo, .int lu, .int rf, .ref kl, .ref kc, .ref hB])), (hB, .inr (1, [.ref aY_30, .int 0, .int ml, .int (nI ((F_J4_append_cf468B n fY x1).1))])), (aY_30, .inl ((D.1 100), ((F_J4_append_cf468B n fY x1).2.1), .inl ((F_J4_append_cf468B n fY x1).2.2)))]) [0, 1, 2] (by decide) rfl
        exact W.vret hx hb hr (fun t ht hW => ⟨⟨aY_30, rfl, trivial, (by (try rw [hE]); rw [ht]; exact hP9), (by (try rw [hE]); exact hD9)⟩, hS.F ht⟩) hS.2.2 dX7_type_34
    · refine lv_aload_n hx hb dX7_type_12 rfl (lv_at hl 0 rfl) ?_
      refine lv_dup hx hb dX7_type_13 rfl ?_
      refine va_get (D := D) (ci := 14) (v := .int lo) (C := RX7) (T := TX7) (N := 18) hx hb hts in_X7 hown hK hP 0 rfl rfl 12 (by decide) (hts _ q_1280) (fun _ h9 => h9) rfl dX7_type_14 ?_
      refine lv_iconst (v := 1) hx hb dX7_type_17 (by decide) ?_
      refine lv_iadd hx hb dX7_type_18 ?_
      refine va_put (D := D) (ci := 14) (v := .int (lo + 1)) (ty := .int) (C := RX7) (T := TX7) (N := 18) hx hb hts in_X7 tyX7 tyX7_ok nmX7 hown hK hP hD hS 0 rfl rfl 12 (by decide) (hts _ q_1280) (fun _ h9 => h9) rfl (by decide +kernel) rfl rfl (Nat.le_of_ble_eq_true rfl) dX7_type_19 (fun H locs hP hD hS => ?_)
      have hP : va_P D vwCl [(hM, .inr (14, [.int th, .int (nI R), .int (nI C), .int fi, .int di, .int he, .int br, .int pa, .int gu, .int (nI sc), .int cl, .int se, .int (lo + 1), .int lu, .int rf, .ref kl, .ref kc, .ref hB])), (hB, .inr (1, [.ref aY, .int 0, .int ml, .int (nI n)])), (aY, .inl ((D.1 100), cap, .inl fY))] H := hP
      have hD : va_D A [(hM, .inr (14, [.int th, .int (nI R), .int (nI C), .int fi, .int di, .int he, .int br, .int pa, .int gu, .int (nI sc), .int cl, .int se, .int (lo + 1), .int lu, .int rf, .ref kl, .ref kc, .ref hB])), (hB, .inr (1, [.ref aY, .int 0, .int ml, .int (nI n)])), (aY, .inl ((D.1 100), cap, .inl fY))] := hD
      refine lv_goto (tgt := 34) hx hb dX7_type_22 (by decide) ?_
      subst hQe
      subst hAe
      have hE : (F_X7_type lo n cap fY x1) = (lo + 1, n, cap, fY) := (by unfold F_X7_type; rw [if_pos c_1])
      refine W.widen (k := capT n cap - cap) (n := 2 * (capT n cap - cap)) (by first | omega | (have h7 := capT_B (n := n) (cap := cap) (by assumption) (not60 (by assumption) (by assumption)) (by assumption); omega)) (by first | omega | (have h7 := capT_B (n := n) (cap := cap) (by assumption) (not60 (by assumption) (by assumption)) (by assumption); omega)) ?_
      have hP9 := hP.sub (ws' := [(hM, .inr (14, [.int th, .int (nI R), .int (nI C), .int fi, .int di, .int he, .int br, .int pa, .int gu, .int (nI sc), .int cl, .int se, .int (lo + 1), .int lu, .int rf, .ref kl, .ref kc, .ref hB])), (hB, .inr (1, [.ref aY, .int 0, .int ml, .int (nI n)])), (aY, .inl ((D.1 100), cap, .inl fY))]) [0, 1, 2] rfl
      have hD9 := hD.sub (ws' := [(hM, .inr (14, [.int th, .int (nI R), .int (nI C), .int fi, .int di, .int he, .int br, .int pa, .int gu, .int (nI sc), .int cl, .int se, .int (lo + 1), .int lu, .int rf, .ref kl, .ref kc, .ref hB])), (hB, .inr (1, [.ref aY, .int 0, .int ml, .int (nI n)])), (aY, .inl ((D.1 100), cap, .inl fY))]) [0, 1, 2] (by decide) rfl
      exact W.vret hx hb hr (fun t ht hW => ⟨⟨aY, rfl, trivial, (by (try rw [hE]); rw [ht]; exact hP9), (by (try rw [hE]); exact hD9)⟩, hS.F ht⟩) hS.2.2 dX7_type_34
  rw [hHe, hLe] at hgoal
  exact hgoal

def L_X7_isWhole_35 (R : Nat) (C : Nat) (fi : Int32) (di : Int32) (br : Int32) (K : Nat) : Nat → Nat → (Unit) → Int32
  | 0, i0, a0 => (if (F_X7_isClear R C fi di br K) = 0 then (if (F_X7_leastOf R C fi br K di) < 3 then 0 else (if ((F_X7_leastOf R C fi br K di) - (F_X7_leastOf R C fi br K di) / 2 * 2) = 1 then 1 else 0)) else (if (F_X7_leastOf R C fi br K di) = (-1) then (if (F_X7_isExact R C fi br K fi di) = 0 then 0 else 1) else 0))
  | n0 + 1, i0, a0 => (if (F_X7_has fi (nI i0)) = 0 then L_X7_isWhole_35 R C fi di br K n0 (i0 + 1) () else (if (F_X7_isExact R C fi br K ((1 : Int32) <<< ((nI i0) &&& 31)) di) = 0 then 0 else (if (F_X7_has (F_X7_able R C fi br K) (nI i0)) = 0 then L_X7_isWhole_35 R C fi di br K n0 (i0 + 1) () else (if (F_X7_has (F_X7_seenOf R C fi br K ((1 : Int32) <<< ((nI i0) &&& 31)) di) (nI i0)) = 0 then 0 else L_X7_isWhole_35 R C fi di br K n0 (i0 + 1) ()))))
def F_X7_isWhole (R : Nat) (C : Nat) (fi : Int32) (di : Int32) (he : Int32) (br : Int32) (K : Nat) (n : Nat) : Int32 := (if (he &&& (fi ^^^ (-1))) = 0 then (if (nI n) ≤ 60 then L_X7_isWhole_35 R C fi di br K K 0 () else 0) else 0)
set_option maxHeartbeats 4000000 in
set_option maxRecDepth 100000 in
theorem c_X7_isWhole (l : Launch) (D : va_G) (hM : Nat) (th : Int32) (R : Nat) (C : Nat) (fi : Int32) (di : Int32) (he : Int32) (br : Int32) (pa : Int32) (gu : Int32) (sc : Nat) (cl : Int32) (se : Int32) (lo : Int32) (lu : Int32) (rf : Int32) (kl : Nat) (kc : Nat) (hB : Nat) (km : Int32) (kd : Nat) (K : Nat) (aY : Nat) (ml : Int32) (n : Nat) (cap : Nat) (fY : Nat → Int32) (sz : Nat) (hR : R ≤ 5) (hC : C ≤ 5) (hC0 : 0 < C) (hKb : K ≤ 25) : Met l yX7_isWhole (Cond.code yX7_isWhole cX7_isWhole 3 (some .boolean) :: lwAll) ({ frames := 4, cells := 0, slots := 0, locals := 95 } : Room) (va_Pc [.ref hM] (cPre D (lwTY D) [(hM, .inr (14, [.int th, .int (nI R), .int (nI C), .int fi, .int di, .int he, .int br, .int pa, .int gu, .int (nI sc), .int cl, .int se, .int lo, .int lu, .int rf, .ref kl, .ref kc, .ref hB])), (kl, .inr (6, [.int km, .ref kd, .int (nI K)])), (hB, .inr (1, [.ref aY, .int 0, .int ml, .int (nI n)])), (aY, .inl ((D.1 100), cap, .inl fY))] sz)) (va_Qi (fun (r : Int32) (_ : Unit) => r = (F_X7_isWhole R C fi di he br K n) ∧ (r = 0 ∨ r = 1)) (fun _ _ => True) (fun q : Nat => sz ≤ q)) 0 0 (fun q : Nat => sz ≤ q) := by
  refine Met.ofW (cc := cX7_isWhole) (maxL := 3) (ret := (some .boolean)) (by decide) rfl ?_
  intro p e s m args below meth c s₁ B hml hv
  obtain ⟨rfl, hsz, hP, hK, hD0, hN, hZ⟩ := hv
  have hx := B.exec
  have hb := B.bytes
  have hr := B.returns
  have hts : ∀ wd ∈ lwAll, wd.before ([.ref hM] : List Value).toArray s = true := fun wd h => atoms_spec (ws := (Cond.code yX7_isWhole cX7_isWhole 3 (some .boolean) :: lwAll)) B.pre wd (List.mem_cons_of_mem _ h)
  have hown : s.vm.findClass RX7 = some m.cls := findClass_of_methodNamed B.named
  have hlocks := B.notSynchronized
  subst hsz
  have hD := hD0.self (sz := s.heap.size)
  have hl := lv_entry ([.ref hM]) (n := 3) (Nat.le_of_ble_eq_true rfl)
  rw [lg_entry_eq]
  generalize (lg_sl ([.ref hM]) ++ List.replicate (3 - (lg_sl ([.ref hM])).length) Slot.unset).toArray = ls at hl ⊢
  have hl : lv_has ls 3 [(0, .ref hM)] := hl
  have hS : va_S (fun q : Nat => s.heap.size ≤ q) s.heap s.heap [] := va_S.rf
  generalize hQe : MQ below (va_Qi (fun (r : Int32) (_ : Unit) => r = (F_X7_isWhole R C fi di he br K n) ∧ (r = 0 ∨ r = 1)) (fun _ _ => True) (fun q : Nat => s.heap.size ≤ q)) ([.ref hM] : List Value).toArray s 0 0 (fun q : Nat => s.heap.size ≤ q) = Q
  have hP : va_P D vwCl [(hM, .inr (14, [.int th, .int (nI R), .int (nI C), .int fi, .int di, .int he, .int br, .int pa, .int gu, .int (nI sc), .int cl, .int se, .int lo, .int lu, .int rf, .ref kl, .ref kc, .ref hB])), (kl, .inr (6, [.int km, .ref kd, .int (nI K)])), (hB, .inr (1, [.ref aY, .int 0, .int ml, .int (nI n)])), (aY, .inl ((D.1 100), cap, .inl fY))] s.heap := hP
  obtain ⟨A, hAe⟩ : ∃ A, A = va_A [(hM, .inr (14, [.int th, .int (nI R), .int (nI C), .int fi, .int di, .int he, .int br, .int pa, .int gu, .int (nI sc), .int cl, .int se, .int lo, .int lu, .int rf, .ref kl, .ref kc, .ref hB])), (kl, .inr (6, [.int km, .ref kd, .int (nI K)])), (hB, .inr (1, [.ref aY, .int 0, .int ml, .int (nI n)])), (aY, .inl ((D.1 100), cap, .inl fY))] s.heap.size := ⟨_, rfl⟩
  rw [← hAe] at hD hZ
  have hA : ∀ q : Nat, s.heap.size ≤ q → A q := fun q h => by rw [hAe]; exact Or.inr h
  obtain ⟨H, hHe⟩ : ∃ H, H = s.heap := ⟨_, rfl⟩
  obtain ⟨locs, hLe⟩ : ∃ L : List Loc, L = [] := ⟨_, rfl⟩
  have hP : va_P D vwCl [(hM, .inr (14, [.int th, .int (nI R), .int (nI C), .int fi, .int di, .int he, .int br, .int pa, .int gu, .int (nI sc), .int cl, .int se, .int lo, .int lu, .int rf, .ref kl, .ref kc, .ref hB])), (kl, .inr (6, [.int km, .ref kd, .int (nI K)])), (hB, .inr (1, [.ref aY, .int 0, .int ml, .int (nI n)])), (aY, .inl ((D.1 100), cap, .inl fY))] H := by rw [hHe]; exact hP
  have hS : va_S (fun q : Nat => s.heap.size ≤ q) s.heap H locs := by rw [hHe, hLe]; exact hS
  have hgoal : W p l e ({ frames := 4, cells := 0, slots := 0, locals := 95 } : Room) s m ([.ref hM] : List Value).toArray below meth c H locs 0 0 Q (F0 m 0 ls []) := by
    clear hHe hLe
    refine lv_aload_n hx hb dX7_isWhole_0 rfl (lv_at hl 0 rfl) ?_
    refine va_get (D := D) (ci := 14) (v := .int he) (C := RX7) (T := TX7) (N := 18) hx hb hts in_X7 hown hK hP 0 rfl rfl 5 (by decide) (hts _ q_1273) (fun _ h9 => h9) rfl dX7_isWhole_1 ?_
    refine lv_aload_n hx hb dX7_isWhole_4 rfl (lv_at hl 0 rfl) ?_
    refine va_get (D := D) (ci := 14) (v := .int fi) (C := RX7) (T := TX7) (N := 18) hx hb hts in_X7 hown hK hP 0 rfl rfl 3 (by decide) (hts _ q_1271) (fun _ h9 => h9) rfl dX7_isWhole_5 ?_
    refine lv_iconst (v := (-1)) hx hb dX7_isWhole_8 (by decide) ?_
    refine lv_ixor hx hb dX7_isWhole_9 ?_
    refine lv_iand hx hb dX7_isWhole_10 ?_
    refine lv_if_ne (tgt := 26) hx hb dX7_isWhole_11 (by decide) (fun c_1 => ?_) (fun c_1 => ?_)
    · refine lv_iconst (v := 0) hx hb dX7_isWhole_26 (by decide) ?_
      subst hQe
      exact W.zret (ty := .boolean) (v := 0) hx hb hr (zb_narrow zb_0) (fun t ht hW => ⟨⟨0, (), rfl, ⟨(by unfold F_X7_isWhole; rw [if_neg c_1]), zb_0⟩, trivial⟩, hS.F ht⟩) hS.2.2 dX7_isWhole_27
    · refine lv_aload_n hx hb dX7_isWhole_14 rfl (lv_at hl 0 rfl) ?_
      refine va_get (D := D) (ci := 14) (v := .ref hB) (C := RX7) (T := TX7) (N := 18) hx hb hts in_X7 hown hK hP 0 rfl rfl 17 (by decide) (hts _ q_1285) (fun _ h9 => h9) rfl dX7_isWhole_15 ?_
      have hPc := hP.sub (ws' := [(hB, .inr (1, [.ref aY, .int 0, .int ml, .int (nI n)]))]) [2] rfl
      have hDc := hD.sub (ws' := [(hB, .inr (1, [.ref aY, .int 0, .int ml, .int (nI n)]))]) [2] (by decide) rfl
      have hFc := va_free (wc := [(hB, .inr (1, [.ref aY, .int 0, .int ml, .int (nI n)]))]) hD (va_S_up hS hA) hA [2] rfl
      refine va_calli (va_runV (As := []) (rest := []) ⟨hx, hb, hml, hown, hts⟩ (c_J4_length_8abf5 l D hB aY ml n H.size ) (cwV 0 hts (gi_V q_1489 q_493 q_1666 q_86 q_494) rfl rfl rfl (by decide +kernel) ⟨Nat.le_of_ble_eq_true rfl, Nat.le_of_ble_eq_true rfl⟩) ⟨cPre_blind, va_recv hK hP (ci := 1) (q0 := 2) rfl rfl, cPre_mk hPc hK hDc hN (lwZ_for hZ (va_S_up hS hA) hFc)⟩ rfl rfl hl.1 rfl (lv_room (Nat.le_of_ble_eq_true rfl)) dX7_isWhole_18 ⟨(Nat.le_of_ble_eq_true rfl), (Nat.le_of_ble_eq_true rfl)⟩) hS (fun q h1 h2 => absurd h2 (Nat.not_le.mpr h1)) (fun q h => Nat.le_trans hS.1 h) (fun r_18 u t H1 locs ht hvm hw hBk hz1 hk1 hS => ?_)
      have hP := va_P_ro hP hk1
      subst hw
      clear hBk hvm ht u hz1 hk1
      clear hPc hDc hFc; clear t
      generalize H1 = H at hP hS ⊢
      rw [show (F_J4_length_8abf5 n : Int32) = nI n from rfl]
      refine lv_bipush (v := 60) hx hb dX7_isWhole_21 (by decide) ?_
      refine lv_icmp_le (tgt := 28) hx hb dX7_isWhole_23 (by decide) (fun c_2 => ?_) (fun c_2 => ?_)
      · refine lv_aload_n hx hb dX7_isWhole_28 rfl (lv_at hl 0 rfl) ?_
        have hPc := hP.sub (ws' := [(hM, .inr (14, [.int th, .int (nI R), .int (nI C), .int fi, .int di, .int he, .int br, .int pa, .int gu, .int (nI sc), .int cl, .int se, .int lo, .int lu, .int rf, .ref kl, .ref kc, .ref hB])), (kl, .inr (6, [.int km, .ref kd, .int (nI K)]))]) [0, 1] rfl
        have hDc := hD.sub (ws' := [(hM, .inr (14, [.int th, .int (nI R), .int (nI C), .int fi, .int di, .int he, .int br, .int pa, .int gu, .int (nI sc), .int cl, .int se, .int lo, .int lu, .int rf, .ref kl, .ref kc, .ref hB])), (kl, .inr (6, [.int km, .ref kd, .int (nI K)]))]) [0, 1] (by decide) rfl
        have hFc := va_free (wc := [(hM, .inr (14, [.int th, .int (nI R), .int (nI C), .int fi, .int di, .int he, .int br, .int pa, .int gu, .int (nI sc), .int cl, .int se, .int lo, .int lu, .int rf, .ref kl, .ref kc, .ref hB])), (kl, .inr (6, [.int km, .ref kd, .int (nI K)]))]) hD (va_S_up hS hA) hA [0, 1] rfl
        refine va_calli (va_runV (As := []) (rest := []) ⟨hx, hb, hml, hown, hts⟩ (c_X7_able l D hM th R C fi di he br pa gu sc cl se lo lu rf kl kc hB km kd K H.size (show R ≤ 5 from hR) (show C ≤ 5 from hC) (show 0 < C from hC0) (show K ≤ 25 from hKb)) (cwV 0 hts (gi_V q_1411 q_1413 q_60 q_104 q_1414) rfl rfl rfl (by decide +kernel) ⟨Nat.le_of_ble_eq_true rfl, Nat.le_of_ble_eq_true rfl⟩) ⟨cPre_blind, va_recv hK hP (ci := 14) (q0 := 0) rfl rfl, cPre_mk hPc hK hDc hN (lwZ_for hZ (va_S_up hS hA) hFc)⟩ rfl rfl hl.1 rfl (lv_room (Nat.le_of_ble_eq_true rfl)) dX7_isWhole_29 ⟨(Nat.le_of_ble_eq_true rfl), (Nat.le_of_ble_eq_true rfl)⟩) hS (fun q h1 h2 => absurd h2 (Nat.not_le.mpr h1)) (fun q h => Nat.le_trans hS.1 h) (fun r_29 u t H1 locs ht hvm hw hBk hz1 hk1 hS => ?_)
        have hP := va_P_ro hP hk1
        subst hw
        clear hBk hvm ht u hz1 hk1
        clear hPc hDc hFc; clear t
        generalize H1 = H at hP hS ⊢
        refine lv_istore_n (lv' := [(1, .int (F_X7_able R C fi br K)), (0, .ref hM)]) hx hb dX7_isWhole_32 rfl hl (by decide) rfl (fun ls hl => ?_)
        refine lv_iconst (v := 0) hx hb dX7_isWhole_33 (by decide) ?_
        refine lv_istore_n (lv' := [(2, .int 0), (1, .int (F_X7_able R C fi br K)), (0, .ref hM)]) hx hb dX7_isWhole_34 rfl hl (by decide) rfl (fun ls hl => ?_)
        have lp_35 : ∀ (n0 i0 : Nat), i0 + n0 = K → ∀ (a0 : Unit) (H : Heap) (locs : List Loc) (ls : Array Slot), va_P D vwCl [(hM, .inr (14, [.int th, .int (nI R), .int (nI C), .int fi, .int di, .int he, .int br, .int pa, .int gu, .int (nI sc), .int cl, .int se, .int lo, .int lu, .int rf, .ref kl, .ref kc, .ref hB])), (kl, .inr (6, [.int km, .ref kd, .int (nI K)])), (hB, .inr (1, [.ref aY, .int 0, .int ml, .int (nI n)])), (aY, .inl ((D.1 100), cap, .inl fY))] H → va_D A [(hM, .inr (14, [.int th, .int (nI R), .int (nI C), .int fi, .int di, .int he, .int br, .int pa, .int gu, .int (nI sc), .int cl, .int se, .int lo, .int lu, .int rf, .ref kl, .ref kc, .ref hB])), (kl, .inr (6, [.int km, .ref kd, .int (nI K)])), (hB, .inr (1, [.ref aY, .int 0, .int ml, .int (nI n)])), (aY, .inl ((D.1 100), cap, .inl fY))] → va_S (fun q : Nat => s.heap.size ≤ q) s.heap H locs → lv_has ls 3 [(0, .ref hM), (1, .int (F_X7_able R C fi br K)), (2, .int (nI i0))] → (F_X7_isWhole R C fi di he br K n) = L_X7_isWhole_35 R C fi di br K n0 i0 a0 → W p l e ({ frames := 4, cells := 0, slots := 0, locals := 95 } : Room) s m ([.ref hM] : List Value).toArray below meth c H locs 0 0 Q (F0 m 35 ls []) := by
          intro n0
          induction n0 with
          | zero =>
            intro i0 hi0 a0 H locs ls hP hD hS hl hE0
            have he0 : i0 = K := by omega
            refine lv_iload_n hx hb dX7_isWhole_35 rfl (lv_at hl 2 rfl) ?_
            refine lv_aload_n hx hb dX7_isWhole_36 rfl (lv_at hl 0 rfl) ?_
            refine va_get (D := D) (ci := 14) (v := .ref kl) (C := RX7) (T := TX7) (N := 18) hx hb hts in_X7 hown hK hP 0 rfl rfl 15 (by decide) (hts _ q_1283) (fun _ h9 => h9) rfl dX7_isWhole_37 ?_
            have hPc := hP.sub (ws' := [(kl, .inr (6, [.int km, .ref kd, .int (nI K)]))]) [1] rfl
            have hDc := hD.sub (ws' := [(kl, .inr (6, [.int km, .ref kd, .int (nI K)]))]) [1] (by decide) rfl
            have hFc := va_free (wc := [(kl, .inr (6, [.int km, .ref kd, .int (nI K)]))]) hD (va_S_up hS hA) hA [1] rfl
            refine va_calli (va_runV (As := []) (rest := [.int (nI i0)]) ⟨hx, hb, hml, hown, hts⟩ (c_Jx4a65c_size_8abf5 l D kl km kd K H.size ) (cwV 0 hts (gi_V q_1263 q_1264 q_1265 q_107 q_1266) rfl rfl rfl (by decide +kernel) ⟨Nat.le_of_ble_eq_true rfl, Nat.le_of_ble_eq_true rfl⟩) ⟨cPre_blind, va_recv hK hP (ci := 6) (q0 := 1) rfl rfl, cPre_mk hPc hK hDc hN (lwZ_for hZ (va_S_up hS hA) hFc)⟩ rfl rfl hl.1 rfl (lv_room (Nat.le_of_ble_eq_true rfl)) dX7_isWhole_40 ⟨(Nat.le_of_ble_eq_true rfl), (Nat.le_of_ble_eq_true rfl)⟩) hS (fun q h1 h2 => absurd h2 (Nat.not_le.mpr h1)) (fun q h => Nat.le_trans hS.1 h) (fun r_40 u t H1 locs ht hvm hw hBk hz1 hk1 hS => ?_)
            have hP := va_P_ro hP hk1
            subst hw
            clear hBk hvm ht u hz1 hk1
            clear hPc hDc hFc; clear t
            generalize H1 = H at hP hS ⊢
            refine lv_icmp_ge (tgt := 108) hx hb dX7_isWhole_43 (by decide) (fun c_3 => ?_) (fun c_3 => ?_)
            · refine lv_aload_n hx hb dX7_isWhole_108 rfl (lv_at hl 0 rfl) ?_
              refine lv_aload_n hx hb dX7_isWhole_109 rfl (lv_at hl 0 rfl) ?_
              refine va_get (D := D) (ci := 14) (v := .int di) (C := RX7) (T := TX7) (N := 18) hx hb hts in_X7 hown hK hP 0 rfl rfl 4 (by decide) (hts _ q_1272) (fun _ h9 => h9) rfl dX7_isWhole_110 ?_
              have hPc := hP.sub (ws' := [(hM, .inr (14, [.int th, .int (nI R), .int (nI C), .int fi, .int di, .int he, .int br, .int pa, .int gu, .int (nI sc), .int cl, .int se, .int lo, .int lu, .int rf, .ref kl, .ref kc, .ref hB])), (kl, .inr (6, [.int km, .ref kd, .int (nI K)]))]) [0, 1] rfl
              have hDc := hD.sub (ws' := [(hM, .inr (14, [.int th, .int (nI R), .int (nI C), .int fi, .int di, .int he, .int br, .int pa, .int gu, .int (nI sc), .int cl, .int se, .int lo, .int lu, .int rf, .ref kl, .ref kc, .ref hB])), (kl, .inr (6, [.int km, .ref kd, .int (nI K)]))]) [0, 1] (by decide) rfl
              have hFc := va_free (wc := [(hM, .inr (14, [.int th, .int (nI R), .int (nI C), .int fi, .int di, .int he, .int br, .int pa, .int gu, .int (nI sc), .int cl, .int se, .int lo, .int lu, .int rf, .ref kl, .ref kc, .ref hB])), (kl, .inr (6, [.int km, .ref kd, .int (nI K)]))]) hD (va_S_up hS hA) hA [0, 1] rfl
              refine va_calli (va_runV (As := [.int di]) (rest := []) ⟨hx, hb, hml, hown, hts⟩ (c_X7_leastOf l D hM th R C fi di he br pa gu sc cl se lo lu rf kl kc hB km kd K di H.size (show R ≤ 5 from hR) (show C ≤ 5 from hC) (show 0 < C from hC0) (show K ≤ 25 from hKb)) (cwV 1 hts (gi_V q_1570 q_1572 q_71 q_104 q_1573) rfl rfl rfl (by decide +kernel) ⟨Nat.le_of_ble_eq_true rfl, Nat.le_of_ble_eq_true rfl⟩) ⟨cPre_blind, va_recv hK hP (ci := 14) (q0 := 0) rfl rfl, cPre_mk hPc hK hDc hN (lwZ_for hZ (va_S_up hS hA) hFc)⟩ rfl rfl hl.1 rfl (lv_room (Nat.le_of_ble_eq_true rfl)) dX7_isWhole_113 ⟨(Nat.le_of_ble_eq_true rfl), (Nat.le_of_ble_eq_true rfl)⟩) hS (fun q h1 h2 => absurd h2 (Nat.not_le.mpr h1)) (fun q h => Nat.le_trans hS.1 h) (fun r_113 u t H1 locs ht hvm hw hBk hz1 hk1 hS => ?_)
              have hP := va_P_ro hP hk1
              subst hw
              clear hBk hvm ht u hz1 hk1
              clear hPc hDc hFc; clear t
              generalize H1 = H at hP hS ⊢
              refine lv_istore_n (lv' := [(2, .int (F_X7_leastOf R C fi br K di)), (0, .ref hM), (1, .int (F_X7_able R C fi br K))]) hx hb dX7_isWhole_116 rfl hl (by decide) rfl (fun ls hl => ?_)
              refine lv_aload_n hx hb dX7_isWhole_117 rfl (lv_at hl 1 rfl) ?_
              have hPc := hP.sub (ws' := [(hM, .inr (14, [.int th, .int (nI R), .int (nI C), .int fi, .int di, .int he, .int br, .int pa, .int gu, .int (nI sc), .int cl, .int se, .int lo, .int lu, .int rf, .ref kl, .ref kc, .ref hB])), (kl, .inr (6, [.int km, .ref kd, .int (nI K)]))]) [0, 1] rfl
              have hDc := hD.sub (ws' := [(hM, .inr (14, [.int th, .int (nI R), .int (nI C), .int fi, .int di, .int he, .int br, .int pa, .int gu, .int (nI sc), .int cl, .int se, .int lo, .int lu, .int rf, .ref kl, .ref kc, .ref hB])), (kl, .inr (6, [.int km, .ref kd, .int (nI K)]))]) [0, 1] (by decide) rfl
              have hFc := va_free (wc := [(hM, .inr (14, [.int th, .int (nI R), .int (nI C), .int fi, .int di, .int he, .int br, .int pa, .int gu, .int (nI sc), .int cl, .int se, .int lo, .int lu, .int rf, .ref kl, .ref kc, .ref hB])), (kl, .inr (6, [.int km, .ref kd, .int (nI K)]))]) hD (va_S_up hS hA) hA [0, 1] rfl
              refine va_calli (va_runV (As := []) (rest := []) ⟨hx, hb, hml, hown, hts⟩ (c_X7_isClear l D hM th R C fi di he br pa gu sc cl se lo lu rf kl kc hB km kd K H.size (show R ≤ 5 from hR) (show C ≤ 5 from hC) (show 0 < C from hC0) (show K ≤ 25 from hKb)) (cwV 0 hts (gi_V q_1566 q_1568 q_70 q_104 q_1569) rfl rfl rfl (by decide +kernel) ⟨Nat.le_of_ble_eq_true rfl, Nat.le_of_ble_eq_true rfl⟩) ⟨cPre_blind, va_recv hK hP (ci := 14) (q0 := 0) rfl rfl, cPre_mk hPc hK hDc hN (lwZ_for hZ (va_S_up hS hA) hFc)⟩ rfl rfl hl.1 rfl (lv_room (Nat.le_of_ble_eq_true rfl)) dX7_isWhole_118 ⟨(Nat.le_of_ble_eq_true rfl), (Nat.le_of_ble_eq_true rfl)⟩) hS (fun q h1 h2 => absurd h2 (Nat.not_le.mpr h1)) (fun q h => Nat.le_trans hS.1 h) (fun r_118 u t H1 locs ht hvm hw hBk hz1 hk1 hS => ?_)
              have hP := va_P_ro hP hk1
              obtain ⟨hw, z_4⟩ := hw
              rw [hw] at z_4
              subst hw
              clear hBk hvm ht u hz1 hk1
              clear hPc hDc hFc; clear t
              generalize H1 = H at hP hS ⊢
              refine lv_if_eq (tgt := 152) hx hb dX7_isWhole_121 (by decide) (fun c_5 => ?_) (fun c_5 => ?_)
              · refine lv_iload_n hx hb dX7_isWhole_152 rfl (lv_at hl 0 rfl) ?_
                refine lv_iconst (v := 3) hx hb dX7_isWhole_153 (by decide) ?_
                refine lv_icmp_lt (tgt := 168) hx hb dX7_isWhole_154 (by decide) (fun c_6 => ?_) (fun c_6 => ?_)
                · refine lv_iconst (v := 0) hx hb dX7_isWhole_168 (by decide) ?_
                  subst hQe
                  exact W.zret (ty := .boolean) (v := 0) hx hb hr (zb_narrow zb_0) (fun t ht hW => ⟨⟨0, (), rfl, ⟨(by rw [hE0, L_X7_isWhole_35, if_pos c_5, if_pos c_6]), zb_0⟩, trivial⟩, hS.F ht⟩) hS.2.2 dX7_isWhole_169
                · refine lv_iload_n hx hb dX7_isWhole_157 rfl (lv_at hl 0 rfl) ?_
                  refine lv_iconst (v := 2) hx hb dX7_isWhole_158 (by decide) ?_
                  refine lv_irem hx hb dX7_isWhole_159 (by decide) ?_
                  refine lv_iconst (v := 1) hx hb dX7_isWhole_160 (by decide) ?_
                  refine lv_icmp_ne (tgt := 168) hx hb dX7_isWhole_161 (by decide) (fun c_7 => ?_) (fun c_7 => ?_)
                  · refine lv_iconst (v := 0) hx hb dX7_isWhole_168 (by decide) ?_
                    subst hQe
                    exact W.zret (ty := .boolean) (v := 0) hx hb hr (zb_narrow zb_0) (fun t ht hW => ⟨⟨0, (), rfl, ⟨(by rw [hE0, L_X7_isWhole_35, if_pos c_5, if_neg c_6, if_neg c_7]), zb_0⟩, trivial⟩, hS.F ht⟩) hS.2.2 dX7_isWhole_169
                  · refine lv_iconst (v := 1) hx hb dX7_isWhole_164 (by decide) ?_
                    refine lv_goto (tgt := 169) hx hb dX7_isWhole_165 (by decide) ?_
                    subst hQe
                    exact W.zret (ty := .boolean) (v := 1) hx hb hr (zb_narrow zb_1) (fun t ht hW => ⟨⟨1, (), rfl, ⟨(by rw [hE0, L_X7_isWhole_35, if_pos c_5, if_neg c_6, if_pos c_7]), zb_1⟩, trivial⟩, hS.F ht⟩) hS.2.2 dX7_isWhole_169
              · refine lv_iload_n hx hb dX7_isWhole_124 rfl (lv_at hl 0 rfl) ?_
                refine lv_iconst (v := (-1)) hx hb dX7_isWhole_125 (by decide) ?_
                refine lv_icmp_ne (tgt := 148) hx hb dX7_isWhole_126 (by decide) (fun c_8 => ?_) (fun c_8 => ?_)
                · refine lv_iconst (v := 0) hx hb dX7_isWhole_148 (by decide) ?_
                  refine lv_goto (tgt := 169) hx hb dX7_isWhole_149 (by decide) ?_
                  subst hQe
                  exact W.zret (ty := .boolean) (v := 0) hx hb hr (zb_narrow zb_0) (fun t ht hW => ⟨⟨0, (), rfl, ⟨(by rw [hE0, L_X7_isWhole_35, if_neg c_5, if_neg c_8]), zb_0⟩, trivial⟩, hS.F ht⟩) hS.2.2 dX7_isWhole_169
                · refine lv_aload_n hx hb dX7_isWhole_129 rfl (lv_at hl 1 rfl) ?_
                  refine lv_aload_n hx hb dX7_isWhole_130 rfl (lv_at hl 1 rfl) ?_
                  refine va_get (D := D) (ci := 14) (v := .int fi) (C := RX7) (T := TX7) (N := 18) hx hb hts in_X7 hown hK hP 0 rfl rfl 3 (by decide) (hts _ q_1271) (fun _ h9 => h9) rfl dX7_isWhole_131 ?_
                  refine lv_aload_n hx hb dX7_isWhole_134 rfl (lv_at hl 1 rfl) ?_
                  refine va_get (D := D) (ci := 14) (v := .int di) (C := RX7) (T := TX7) (N := 18) hx hb hts in_X7 hown hK hP 0 rfl rfl 4 (by decide) (hts _ q_1272) (fun _ h9 => h9) rfl dX7_isWhole_135 ?_
                  have hPc := hP.sub (ws' := [(hM, .inr (14, [.int th, .int (nI R), .int (nI C), .int fi, .int di, .int he, .int br, .int pa, .int gu, .int (nI sc), .int cl, .int se, .int lo, .int lu, .int rf, .ref kl, .ref kc, .ref hB])), (kl, .inr (6, [.int km, .ref kd, .int (nI K)]))]) [0, 1] rfl
                  have hDc := hD.sub (ws' := [(hM, .inr (14, [.int th, .int (nI R), .int (nI C), .int fi, .int di, .int he, .int br, .int pa, .int gu, .int (nI sc), .int cl, .int se, .int lo, .int lu, .int rf, .ref kl, .ref kc, .ref hB])), (kl, .inr (6, [.int km, .ref kd, .int (nI K)]))]) [0, 1] (by decide) rfl
                  have hFc := va_free (wc := [(hM, .inr (14, [.int th, .int (nI R), .int (nI C), .int fi, .int di, .int he, .int br, .int pa, .int gu, .int (nI sc), .int cl, .int se, .int lo, .int lu, .int rf, .ref kl, .ref kc, .ref hB])), (kl, .inr (6, [.int km, .ref kd, .int (nI K)]))]) hD (va_S_up hS hA) hA [0, 1] rfl
                  refine va_calli (va_runV (As := [.int fi, .int di]) (rest := []) ⟨hx, hb, hml, hown, hts⟩ (c_X7_isExact l D hM th R C fi di he br pa gu sc cl se lo lu rf kl kc hB km kd K fi di H.size (show R ≤ 5 from hR) (show C ≤ 5 from hC) (show 0 < C from hC0) (show K ≤ 25 from hKb)) (cwV 2 hts (gi_V q_1605 q_1607 q_74 q_104 q_1608) rfl rfl rfl (by decide +kernel) ⟨Nat.le_of_ble_eq_true rfl, Nat.le_of_ble_eq_true rfl⟩) ⟨cPre_blind, va_recv hK hP (ci := 14) (q0 := 0) rfl rfl, cPre_mk hPc hK hDc hN (lwZ_for hZ (va_S_up hS hA) hFc)⟩ rfl rfl hl.1 rfl (lv_room (Nat.le_of_ble_eq_true rfl)) dX7_isWhole_138 ⟨(Nat.le_of_ble_eq_true rfl), (Nat.le_of_ble_eq_true rfl)⟩) hS (fun q h1 h2 => absurd h2 (Nat.not_le.mpr h1)) (fun q h => Nat.le_trans hS.1 h) (fun r_138 u t H1 locs ht hvm hw hBk hz1 hk1 hS => ?_)
                  have hP := va_P_ro hP hk1
                  obtain ⟨hw, z_9⟩ := hw
                  rw [hw] at z_9
                  subst hw
                  clear hBk hvm ht u hz1 hk1
                  clear hPc hDc hFc; clear t
                  generalize H1 = H at hP hS ⊢
                  refine lv_if_eq (tgt := 148) hx hb dX7_isWhole_141 (by decide) (fun c_10 => ?_) (fun c_10 => ?_)
                  · refine lv_iconst (v := 0) hx hb dX7_isWhole_148 (by decide) ?_
                    refine lv_goto (tgt := 169) hx hb dX7_isWhole_149 (by decide) ?_
                    subst hQe
                    exact W.zret (ty := .boolean) (v := 0) hx hb hr (zb_narrow zb_0) (fun t ht hW => ⟨⟨0, (), rfl, ⟨(by rw [hE0, L_X7_isWhole_35, if_neg c_5, if_pos c_8, if_pos c_10]), zb_0⟩, trivial⟩, hS.F ht⟩) hS.2.2 dX7_isWhole_169
                  · refine lv_iconst (v := 1) hx hb dX7_isWhole_144 (by decide) ?_
                    refine lv_goto (tgt := 169) hx hb dX7_isWhole_145 (by decide) ?_
                    subst hQe
                    exact W.zret (ty := .boolean) (v := 1) hx hb hr (zb_narrow zb_1) (fun t ht hW => ⟨⟨1, (), rfl, ⟨(by rw [hE0, L_X7_isWhole_35, if_neg c_5, if_pos c_8, if_neg c_10]), zb_1⟩, trivial⟩, hS.F ht⟩) hS.2.2 dX7_isWhole_169
            · exact absurd (nI_le (a := K) (b := i0) (by omega) (by omega)) c_3
          | succ n0 ih0 =>
            intro i0 hi0 a0 H locs ls hP hD hS hl hE0
            refine lv_iload_n hx hb dX7_isWhole_35 rfl (lv_at hl 2 rfl) ?_
            refine lv_aload_n hx hb dX7_isWhole_36 rfl (lv_at hl 0 rfl) ?_
            refine va_get (D := D) (ci := 14) (v := .ref kl) (C := RX7) (T := TX7) (N := 18) hx hb hts in_X7 hown hK hP 0 rfl rfl 15 (by decide) (hts _ q_1283) (fun _ h9 => h9) rfl dX7_isWhole_37 ?_
            have hPc := hP.sub (ws' := [(kl, .inr (6, [.int km, .ref kd, .int (nI K)]))]) [1] rfl
            have hDc := hD.sub (ws' := [(kl, .inr (6, [.int km, .ref kd, .int (nI K)]))]) [1] (by decide) rfl
            have hFc := va_free (wc := [(kl, .inr (6, [.int km, .ref kd, .int (nI K)]))]) hD (va_S_up hS hA) hA [1] rfl
            refine va_calli (va_runV (As := []) (rest := [.int (nI i0)]) ⟨hx, hb, hml, hown, hts⟩ (c_Jx4a65c_size_8abf5 l D kl km kd K H.size ) (cwV 0 hts (gi_V q_1263 q_1264 q_1265 q_107 q_1266) rfl rfl rfl (by decide +kernel) ⟨Nat.le_of_ble_eq_true rfl, Nat.le_of_ble_eq_true rfl⟩) ⟨cPre_blind, va_recv hK hP (ci := 6) (q0 := 1) rfl rfl, cPre_mk hPc hK hDc hN (lwZ_for hZ (va_S_up hS hA) hFc)⟩ rfl rfl hl.1 rfl (lv_room (Nat.le_of_ble_eq_true rfl)) dX7_isWhole_40 ⟨(Nat.le_of_ble_eq_true rfl), (Nat.le_of_ble_eq_true rfl)⟩) hS (fun q h1 h2 => absurd h2 (Nat.not_le.mpr h1)) (fun q h => Nat.le_trans hS.1 h) (fun r_40 u t H1 locs ht hvm hw hBk hz1 hk1 hS => ?_)
            have hP := va_P_ro hP hk1
            subst hw
            clear hBk hvm ht u hz1 hk1
            clear hPc hDc hFc; clear t
            generalize H1 = H at hP hS ⊢
            refine lv_icmp_ge (tgt := 108) hx hb dX7_isWhole_43 (by decide) (fun c_11 => ?_) (fun c_11 => ?_)
            · exact absurd c_11 (nI_ge (a := i0) (b := K) (by omega) (by omega))
            · refine lv_aload_n hx hb dX7_isWhole_46 rfl (lv_at hl 0 rfl) ?_
              refine va_get (D := D) (ci := 14) (v := .int fi) (C := RX7) (T := TX7) (N := 18) hx hb hts in_X7 hown hK hP 0 rfl rfl 3 (by decide) (hts _ q_1271) (fun _ h9 => h9) rfl dX7_isWhole_47 ?_
              refine lv_iload_n hx hb dX7_isWhole_50 rfl (lv_at hl 2 rfl) ?_
              have hPc := hP.sub (ws' := []) [] rfl
              have hDc := hD.sub (ws' := []) [] (by decide) rfl
              have hFc := va_free (wc := []) hD (va_S_up hS hA) hA [] rfl
              refine va_calli (va_runS (As := [.int fi, .int (nI i0)]) (rest := []) ⟨hx, hb, hml, hown, hts⟩ (c_X7_has l D fi (nI i0) H.size ) (cwS 2 hts (gi_S q_1361 q_1362 q_104 q_1363) rfl rfl rfl (by decide +kernel) ⟨Nat.le_of_ble_eq_true rfl, Nat.le_of_ble_eq_true rfl⟩) ⟨cPre_blind, cPre_mk hPc hK hDc hN (lwZ_for hZ (va_S_up hS hA) hFc)⟩ rfl rfl hl.1 rfl (lv_room (Nat.le_of_ble_eq_true rfl)) dX7_isWhole_51 ⟨(Nat.le_of_ble_eq_true rfl), (Nat.le_of_ble_eq_true rfl)⟩) hS (fun q h1 h2 => absurd h2 (Nat.not_le.mpr h1)) (fun q h => Nat.le_trans hS.1 h) (fun r_51 u t H1 locs ht hvm hw hBk hz1 hk1 hS => ?_)
              have hP := va_P_ro hP hk1
              obtain ⟨hw, z_12⟩ := hw
              rw [hw] at z_12
              subst hw
              clear hBk hvm ht u hz1 hk1
              clear hPc hDc hFc; clear t
              generalize H1 = H at hP hS ⊢
              refine lv_if_ne (tgt := 60) hx hb dX7_isWhole_54 (by decide) (fun c_13 => ?_) (fun c_13 => ?_)
              · refine lv_aload_n hx hb dX7_isWhole_60 rfl (lv_at hl 0 rfl) ?_
                refine lv_iconst (v := 1) hx hb dX7_isWhole_61 (by decide) ?_
                refine lv_iload_n hx hb dX7_isWhole_62 rfl (lv_at hl 2 rfl) ?_
                refine lv_ishl hx hb dX7_isWhole_63 ?_
                refine lv_aload_n hx hb dX7_isWhole_64 rfl (lv_at hl 0 rfl) ?_
                refine va_get (D := D) (ci := 14) (v := .int di) (C := RX7) (T := TX7) (N := 18) hx hb hts in_X7 hown hK hP 0 rfl rfl 4 (by decide) (hts _ q_1272) (fun _ h9 => h9) rfl dX7_isWhole_65 ?_
                have hPc := hP.sub (ws' := [(hM, .inr (14, [.int th, .int (nI R), .int (nI C), .int fi, .int di, .int he, .int br, .int pa, .int gu, .int (nI sc), .int cl, .int se, .int lo, .int lu, .int rf, .ref kl, .ref kc, .ref hB])), (kl, .inr (6, [.int km, .ref kd, .int (nI K)]))]) [0, 1] rfl
                have hDc := hD.sub (ws' := [(hM, .inr (14, [.int th, .int (nI R), .int (nI C), .int fi, .int di, .int he, .int br, .int pa, .int gu, .int (nI sc), .int cl, .int se, .int lo, .int lu, .int rf, .ref kl, .ref kc, .ref hB])), (kl, .inr (6, [.int km, .ref kd, .int (nI K)]))]) [0, 1] (by decide) rfl
                have hFc := va_free (wc := [(hM, .inr (14, [.int th, .int (nI R), .int (nI C), .int fi, .int di, .int he, .int br, .int pa, .int gu, .int (nI sc), .int cl, .int se, .int lo, .int lu, .int rf, .ref kl, .ref kc, .ref hB])), (kl, .inr (6, [.int km, .ref kd, .int (nI K)]))]) hD (va_S_up hS hA) hA [0, 1] rfl
                refine va_calli (va_runV (As := [.int ((1 : Int32) <<< ((nI i0) &&& 31)), .int di]) (rest := []) ⟨hx, hb, hml, hown, hts⟩ (c_X7_isExact l D hM th R C fi di he br pa gu sc cl se lo lu rf kl kc hB km kd K ((1 : Int32) <<< ((nI i0) &&& 31)) di H.size (show R ≤ 5 from hR) (show C ≤ 5 from hC) (show 0 < C from hC0) (show K ≤ 25 from hKb)) (cwV 2 hts (gi_V q_1605 q_1607 q_74 q_104 q_1608) rfl rfl rfl (by decide +kernel) ⟨Nat.le_of_ble_eq_true rfl, Nat.le_of_ble_eq_true rfl⟩) ⟨cPre_blind, va_recv hK hP (ci := 14) (q0 := 0) rfl rfl, cPre_mk hPc hK hDc hN (lwZ_for hZ (va_S_up hS hA) hFc)⟩ rfl rfl hl.1 rfl (lv_room (Nat.le_of_ble_eq_true rfl)) dX7_isWhole_68 ⟨(Nat.le_of_ble_eq_true rfl), (Nat.le_of_ble_eq_true rfl)⟩) hS (fun q h1 h2 => absurd h2 (Nat.not_le.mpr h1)) (fun q h => Nat.le_trans hS.1 h) (fun r_68 u t H1 locs ht hvm hw hBk hz1 hk1 hS => ?_)
                have hP := va_P_ro hP hk1
                obtain ⟨hw, z_14⟩ := hw
                rw [hw] at z_14
                subst hw
                clear hBk hvm ht u hz1 hk1
                clear hPc hDc hFc; clear t
                generalize H1 = H at hP hS ⊢
                refine lv_if_eq (tgt := 100) hx hb dX7_isWhole_71 (by decide) (fun c_15 => ?_) (fun c_15 => ?_)
                · refine lv_iconst (v := 0) hx hb dX7_isWhole_100 (by decide) ?_
                  subst hQe
                  exact W.zret (ty := .boolean) (v := 0) hx hb hr (zb_narrow zb_0) (fun t ht hW => ⟨⟨0, (), rfl, ⟨(by rw [hE0, L_X7_isWhole_35, if_neg c_13, if_pos c_15]), zb_0⟩, trivial⟩, hS.F ht⟩) hS.2.2 dX7_isWhole_101
                · refine lv_iload_n hx hb dX7_isWhole_74 rfl (lv_at hl 1 rfl) ?_
                  refine lv_iload_n hx hb dX7_isWhole_75 rfl (lv_at hl 2 rfl) ?_
                  have hPc := hP.sub (ws' := []) [] rfl
                  have hDc := hD.sub (ws' := []) [] (by decide) rfl
                  have hFc := va_free (wc := []) hD (va_S_up hS hA) hA [] rfl
                  refine va_calli (va_runS (As := [.int (F_X7_able R C fi br K), .int (nI i0)]) (rest := []) ⟨hx, hb, hml, hown, hts⟩ (c_X7_has l D (F_X7_able R C fi br K) (nI i0) H.size ) (cwS 2 hts (gi_S q_1361 q_1362 q_104 q_1363) rfl rfl rfl (by decide +kernel) ⟨Nat.le_of_ble_eq_true rfl, Nat.le_of_ble_eq_true rfl⟩) ⟨cPre_blind, cPre_mk hPc hK hDc hN (lwZ_for hZ (va_S_up hS hA) hFc)⟩ rfl rfl hl.1 rfl (lv_room (Nat.le_of_ble_eq_true rfl)) dX7_isWhole_76 ⟨(Nat.le_of_ble_eq_true rfl), (Nat.le_of_ble_eq_true rfl)⟩) hS (fun q h1 h2 => absurd h2 (Nat.not_le.mpr h1)) (fun q h => Nat.le_trans hS.1 h) (fun r_76 u t H1 locs ht hvm hw hBk hz1 hk1 hS => ?_)
                  have hP := va_P_ro hP hk1
                  obtain ⟨hw, z_16⟩ := hw
                  rw [hw] at z_16
                  subst hw
                  clear hBk hvm ht u hz1 hk1
                  clear hPc hDc hFc; clear t
                  generalize H1 = H at hP hS ⊢
                  refine lv_if_eq (tgt := 102) hx hb dX7_isWhole_79 (by decide) (fun c_17 => ?_) (fun c_17 => ?_)
                  · refine lv_iinc (v := nI (i0 + 1)) (lv' := [(2, .int (nI (i0 + 1))), (0, .ref hM), (1, .int (F_X7_able R C fi br K))]) hx hb dX7_isWhole_102 hl (k := 2) rfl (nI_1 _) (by decide) rfl (fun ls hl => ?_)
                    refine lv_goto (tgt := 35) hx hb dX7_isWhole_105 (by decide) ?_
                    have hl : lv_has ls 3 [(0, .ref hM), (1, .int (F_X7_able R C fi br K)), (2, .int (nI (i0 + 1)))] := lv_sub hl [1, 2, 0] rfl
                    have hP := hP.sub (ws' := [(hM, .inr (14, [.int th, .int (nI R), .int (nI C), .int fi, .int di, .int he, .int br, .int pa, .int gu, .int (nI sc), .int cl, .int se, .int lo, .int lu, .int rf, .ref kl, .ref kc, .ref hB])), (kl, .inr (6, [.int km, .ref kd, .int (nI K)])), (hB, .inr (1, [.ref aY, .int 0, .int ml, .int (nI n)])), (aY, .inl ((D.1 100), cap, .inl fY))]) [0, 1, 2, 3] rfl
                    have hD := hD.sub (ws' := [(hM, .inr (14, [.int th, .int (nI R), .int (nI C), .int fi, .int di, .int he, .int br, .int pa, .int gu, .int (nI sc), .int cl, .int se, .int lo, .int lu, .int rf, .ref kl, .ref kc, .ref hB])), (kl, .inr (6, [.int km, .ref kd, .int (nI K)])), (hB, .inr (1, [.ref aY, .int 0, .int ml, .int (nI n)])), (aY, .inl ((D.1 100), cap, .inl fY))]) [0, 1, 2, 3] (by decide) rfl
                    exact ih0 (i0 + 1) (by omega) () H locs ls hP hD hS hl (by rw [hE0, L_X7_isWhole_35, if_neg c_13, if_neg c_15, if_pos c_17])
                  · refine lv_aload_n hx hb dX7_isWhole_82 rfl (lv_at hl 0 rfl) ?_
                    refine lv_iconst (v := 1) hx hb dX7_isWhole_83 (by decide) ?_
                    refine lv_iload_n hx hb dX7_isWhole_84 rfl (lv_at hl 2 rfl) ?_
                    refine lv_ishl hx hb dX7_isWhole_85 ?_
                    refine lv_aload_n hx hb dX7_isWhole_86 rfl (lv_at hl 0 rfl) ?_
                    refine va_get (D := D) (ci := 14) (v := .int di) (C := RX7) (T := TX7) (N := 18) hx hb hts in_X7 hown hK hP 0 rfl rfl 4 (by decide) (hts _ q_1272) (fun _ h9 => h9) rfl dX7_isWhole_87 ?_
                    have hPc := hP.sub (ws' := [(hM, .inr (14, [.int th, .int (nI R), .int (nI C), .int fi, .int di, .int he, .int br, .int pa, .int gu, .int (nI sc), .int cl, .int se, .int lo, .int lu, .int rf, .ref kl, .ref kc, .ref hB])), (kl, .inr (6, [.int km, .ref kd, .int (nI K)]))]) [0, 1] rfl
                    have hDc := hD.sub (ws' := [(hM, .inr (14, [.int th, .int (nI R), .int (nI C), .int fi, .int di, .int he, .int br, .int pa, .int gu, .int (nI sc), .int cl, .int se, .int lo, .int lu, .int rf, .ref kl, .ref kc, .ref hB])), (kl, .inr (6, [.int km, .ref kd, .int (nI K)]))]) [0, 1] (by decide) rfl
                    have hFc := va_free (wc := [(hM, .inr (14, [.int th, .int (nI R), .int (nI C), .int fi, .int di, .int he, .int br, .int pa, .int gu, .int (nI sc), .int cl, .int se, .int lo, .int lu, .int rf, .ref kl, .ref kc, .ref hB])), (kl, .inr (6, [.int km, .ref kd, .int (nI K)]))]) hD (va_S_up hS hA) hA [0, 1] rfl
                    refine va_calli (va_runV (As := [.int ((1 : Int32) <<< ((nI i0) &&& 31)), .int di]) (rest := []) ⟨hx, hb, hml, hown, hts⟩ (c_X7_seenOf l D hM th R C fi di he br pa gu sc cl se lo lu rf kl kc hB km kd K ((1 : Int32) <<< ((nI i0) &&& 31)) di H.size (show R ≤ 5 from hR) (show C ≤ 5 from hC) (show 0 < C from hC0) (show K ≤ 25 from hKb)) (cwV 2 hts (gi_V q_1407 q_1409 q_59 q_104 q_1410) rfl rfl rfl (by decide +kernel) ⟨Nat.le_of_ble_eq_true rfl, Nat.le_of_ble_eq_true rfl⟩) ⟨cPre_blind, va_recv hK hP (ci := 14) (q0 := 0) rfl rfl, cPre_mk hPc hK hDc hN (lwZ_for hZ (va_S_up hS hA) hFc)⟩ rfl rfl hl.1 rfl (lv_room (Nat.le_of_ble_eq_true rfl)) dX7_isWhole_90 ⟨(Nat.le_of_ble_eq_true rfl), (Nat.le_of_ble_eq_true rfl)⟩) hS (fun q h1 h2 => absurd h2 (Nat.not_le.mpr h1)) (fun q h => Nat.le_trans hS.1 h) (fun r_90 u t H1 locs ht hvm hw hBk hz1 hk1 hS => ?_)
                    have hP := va_P_ro hP hk1
                    subst hw
                    clear hBk hvm ht u hz1 hk1
                    clear hPc hDc hFc; clear t
                    generalize H1 = H at hP hS ⊢
                    refine lv_iload_n hx hb dX7_isWhole_93 rfl (lv_at hl 2 rfl) ?_
                    have hPc := hP.sub (ws' := []) [] rfl
                    have hDc := hD.sub (ws' := []) [] (by decide) rfl
                    have hFc := va_free (wc := []) hD (va_S_up hS hA) hA [] rfl
                    refine va_calli (va_runS (As := [.int (F_X7_seenOf R C fi br K ((1 : Int32) <<< ((nI i0) &&& 31)) di), .int (nI i0)]) (rest := []) ⟨hx, hb, hml, hown, hts⟩ (c_X7_has l D (F_X7_seenOf R C fi br K ((1 : Int32) <<< ((nI i0) &&& 31)) di) (nI i0) H.size ) (cwS 2 hts (gi_S q_1361 q_1362 q_104 q_1363) rfl rfl rfl (by decide +kernel) ⟨Nat.le_of_ble_eq_true rfl, Nat.le_of_ble_eq_true rfl⟩) ⟨cPre_blind, cPre_mk hPc hK hDc hN (lwZ_for hZ (va_S_up hS hA) hFc)⟩ rfl rfl hl.1 rfl (lv_room (Nat.le_of_ble_eq_true rfl)) dX7_isWhole_94 ⟨(Nat.le_of_ble_eq_true rfl), (Nat.le_of_ble_eq_true rfl)⟩) hS (fun q h1 h2 => absurd h2 (Nat.not_le.mpr h1)) (fun q h => Nat.le_trans hS.1 h) (fun r_94 u t H1 locs ht hvm hw hBk hz1 hk1 hS => ?_)
                    have hP := va_P_ro hP hk1
                    obtain ⟨hw, z_18⟩ := hw
                    rw [hw] at z_18
                    subst hw
                    clear hBk hvm ht u hz1 hk1
                    clear hPc hDc hFc; clear t
                    generalize H1 = H at hP hS ⊢
                    refine lv_if_ne (tgt := 102) hx hb dX7_isWhole_97 (by decide) (fun c_19 => ?_) (fun c_19 => ?_)
                    · refine lv_iinc (v := nI (i0 + 1)) (lv' := [(2, .int (nI (i0 + 1))), (0, .ref hM), (1, .int (F_X7_able R C fi br K))]) hx hb dX7_isWhole_102 hl (k := 2) rfl (nI_1 _) (by decide) rfl (fun ls hl => ?_)
                      refine lv_goto (tgt := 35) hx hb dX7_isWhole_105 (by decide) ?_
                      have hl : lv_has ls 3 [(0, .ref hM), (1, .int (F_X7_able R C fi br K)), (2, .int (nI (i0 + 1)))] := lv_sub hl [1, 2, 0] rfl
                      have hP := hP.sub (ws' := [(hM, .inr (14, [.int th, .int (nI R), .int (nI C), .int fi, .int di, .int he, .int br, .int pa, .int gu, .int (nI sc), .int cl, .int se, .int lo, .int lu, .int rf, .ref kl, .ref kc, .ref hB])), (kl, .inr (6, [.int km, .ref kd, .int (nI K)])), (hB, .inr (1, [.ref aY, .int 0, .int ml, .int (nI n)])), (aY, .inl ((D.1 100), cap, .inl fY))]) [0, 1, 2, 3] rfl
                      have hD := hD.sub (ws' := [(hM, .inr (14, [.int th, .int (nI R), .int (nI C), .int fi, .int di, .int he, .int br, .int pa, .int gu, .int (nI sc), .int cl, .int se, .int lo, .int lu, .int rf, .ref kl, .ref kc, .ref hB])), (kl, .inr (6, [.int km, .ref kd, .int (nI K)])), (hB, .inr (1, [.ref aY, .int 0, .int ml, .int (nI n)])), (aY, .inl ((D.1 100), cap, .inl fY))]) [0, 1, 2, 3] (by decide) rfl
                      exact ih0 (i0 + 1) (by omega) () H locs ls hP hD hS hl (by rw [hE0, L_X7_isWhole_35, if_neg c_13, if_neg c_15, if_neg c_17, if_neg c_19])
                    · refine lv_iconst (v := 0) hx hb dX7_isWhole_100 (by decide) ?_
                      subst hQe
                      exact W.zret (ty := .boolean) (v := 0) hx hb hr (zb_narrow zb_0) (fun t ht hW => ⟨⟨0, (), rfl, ⟨(by rw [hE0, L_X7_isWhole_35, if_neg c_13, if_neg c_15, if_neg c_17, if_pos c_19]), zb_0⟩, trivial⟩, hS.F ht⟩) hS.2.2 dX7_isWhole_101
              · refine lv_goto (tgt := 102) hx hb dX7_isWhole_57 (by decide) ?_
                refine lv_iinc (v := nI (i0 + 1)) (lv' := [(2, .int (nI (i0 + 1))), (0, .ref hM), (1, .int (F_X7_able R C fi br K))]) hx hb dX7_isWhole_102 hl (k := 2) rfl (nI_1 _) (by decide) rfl (fun ls hl => ?_)
                refine lv_goto (tgt := 35) hx hb dX7_isWhole_105 (by decide) ?_
                have hl : lv_has ls 3 [(0, .ref hM), (1, .int (F_X7_able R C fi br K)), (2, .int (nI (i0 + 1)))] := lv_sub hl [1, 2, 0] rfl
                have hP := hP.sub (ws' := [(hM, .inr (14, [.int th, .int (nI R), .int (nI C), .int fi, .int di, .int he, .int br, .int pa, .int gu, .int (nI sc), .int cl, .int se, .int lo, .int lu, .int rf, .ref kl, .ref kc, .ref hB])), (kl, .inr (6, [.int km, .ref kd, .int (nI K)])), (hB, .inr (1, [.ref aY, .int 0, .int ml, .int (nI n)])), (aY, .inl ((D.1 100), cap, .inl fY))]) [0, 1, 2, 3] rfl
                have hD := hD.sub (ws' := [(hM, .inr (14, [.int th, .int (nI R), .int (nI C), .int fi, .int di, .int he, .int br, .int pa, .int gu, .int (nI sc), .int cl, .int se, .int lo, .int lu, .int rf, .ref kl, .ref kc, .ref hB])), (kl, .inr (6, [.int km, .ref kd, .int (nI K)])), (hB, .inr (1, [.ref aY, .int 0, .int ml, .int (nI n)])), (aY, .inl ((D.1 100), cap, .inl fY))]) [0, 1, 2, 3] (by decide) rfl
                exact ih0 (i0 + 1) (by omega) () H locs ls hP hD hS hl (by rw [hE0, L_X7_isWhole_35, if_pos c_13])
        have hl : lv_has ls 3 [(0, .ref hM), (1, .int (F_X7_able R C fi br K)), (2, .int (nI 0))] := lv_sub hl [2, 1, 0] rfl
        exact lp_35 K 0 (by omega) () H locs ls hP hD hS hl (by unfold F_X7_isWhole; rw [if_pos c_1, if_pos c_2])
      · refine lv_iconst (v := 0) hx hb dX7_isWhole_26 (by decide) ?_
        subst hQe
        exact W.zret (ty := .boolean) (v := 0) hx hb hr (zb_narrow zb_0) (fun t ht hW => ⟨⟨0, (), rfl, ⟨(by unfold F_X7_isWhole; rw [if_pos c_1, if_neg c_2]), zb_0⟩, trivial⟩, hS.F ht⟩) hS.2.2 dX7_isWhole_27
  rw [hHe, hLe] at hgoal
  exact hgoal

def F_X7_isSound (R : Nat) (C : Nat) (fi : Int32) (di : Int32) (he : Int32) (br : Int32) (K : Nat) (n : Nat) : Int32 × Int32 := (F_X7_isWhole R C fi di he br K n, 0)
set_option maxHeartbeats 4000000 in
set_option maxRecDepth 100000 in
theorem c_X7_isSound (l : Launch) (D : va_G) (hM : Nat) (th : Int32) (R : Nat) (C : Nat) (fi : Int32) (di : Int32) (he : Int32) (br : Int32) (pa : Int32) (gu : Int32) (sc : Nat) (cl : Int32) (se : Int32) (lo : Int32) (lu : Int32) (rf : Int32) (kl : Nat) (kc : Nat) (hB : Nat) (km : Int32) (kd : Nat) (K : Nat) (aY : Nat) (ml : Int32) (n : Nat) (cap : Nat) (fY : Nat → Int32) (sz : Nat) (hR : R ≤ 5) (hC : C ≤ 5) (hC0 : 0 < C) (hKb : K ≤ 25) : Met l yX7_isSound (Cond.code yX7_isSound cX7_isSound 1 (some .boolean) :: lwAll) ({ frames := 5, cells := 0, slots := 0, locals := 117 } : Room) (va_Pc [.ref hM] (cPre D (lwTY D) [(hM, .inr (14, [.int th, .int (nI R), .int (nI C), .int fi, .int di, .int he, .int br, .int pa, .int gu, .int (nI sc), .int cl, .int se, .int lo, .int lu, .int rf, .ref kl, .ref kc, .ref hB])), (kl, .inr (6, [.int km, .ref kd, .int (nI K)])), (hB, .inr (1, [.ref aY, .int 0, .int ml, .int (nI n)])), (aY, .inl ((D.1 100), cap, .inl fY))] sz)) (va_Qi (fun (r : Int32) (_ : Unit) => r = (F_X7_isSound R C fi di he br K n).1 ∧ (r = 0 ∨ r = 1)) (fun (_ : Unit) t => va_P D vwCl [(hM, .inr (14, [.int ((F_X7_isSound R C fi di he br K n).2), .int (nI R), .int (nI C), .int fi, .int di, .int he, .int br, .int pa, .int gu, .int (nI sc), .int cl, .int se, .int lo, .int lu, .int rf, .ref kl, .ref kc, .ref hB])), (kl, .inr (6, [.int km, .ref kd, .int (nI K)])), (hB, .inr (1, [.ref aY, .int 0, .int ml, .int (nI n)])), (aY, .inl ((D.1 100), cap, .inl fY))] t.heap ∧ va_D (va_A [(hM, .inr (14, [.int th, .int (nI R), .int (nI C), .int fi, .int di, .int he, .int br, .int pa, .int gu, .int (nI sc), .int cl, .int se, .int lo, .int lu, .int rf, .ref kl, .ref kc, .ref hB])), (kl, .inr (6, [.int km, .ref kd, .int (nI K)])), (hB, .inr (1, [.ref aY, .int 0, .int ml, .int (nI n)])), (aY, .inl ((D.1 100), cap, .inl fY))] sz) [(hM, .inr (14, [.int ((F_X7_isSound R C fi di he br K n).2), .int (nI R), .int (nI C), .int fi, .int di, .int he, .int br, .int pa, .int gu, .int (nI sc), .int cl, .int se, .int lo, .int lu, .int rf, .ref kl, .ref kc, .ref hB])), (kl, .inr (6, [.int km, .ref kd, .int (nI K)])), (hB, .inr (1, [.ref aY, .int 0, .int ml, .int (nI n)])), (aY, .inl ((D.1 100), cap, .inl fY))]) (va_A [(hM, .inr (14, [.int th, .int (nI R), .int (nI C), .int fi, .int di, .int he, .int br, .int pa, .int gu, .int (nI sc), .int cl, .int se, .int lo, .int lu, .int rf, .ref kl, .ref kc, .ref hB])), (kl, .inr (6, [.int km, .ref kd, .int (nI K)])), (hB, .inr (1, [.ref aY, .int 0, .int ml, .int (nI n)])), (aY, .inl ((D.1 100), cap, .inl fY))] sz)) 0 0 (va_A [(hM, .inr (14, [.int th, .int (nI R), .int (nI C), .int fi, .int di, .int he, .int br, .int pa, .int gu, .int (nI sc), .int cl, .int se, .int lo, .int lu, .int rf, .ref kl, .ref kc, .ref hB])), (kl, .inr (6, [.int km, .ref kd, .int (nI K)])), (hB, .inr (1, [.ref aY, .int 0, .int ml, .int (nI n)])), (aY, .inl ((D.1 100), cap, .inl fY))] sz) := by
  refine Met.ofW (cc := cX7_isSound) (maxL := 1) (ret := (some .boolean)) (by decide) rfl ?_
  intro p e s m args below meth c s₁ B hml hv
  obtain ⟨rfl, hsz, hP, hK, hD0, hN, hZ⟩ := hv
  have hx := B.exec
  have hb := B.bytes
  have hr := B.returns
  have hts : ∀ wd ∈ lwAll, wd.before ([.ref hM] : List Value).toArray s = true := fun wd h => atoms_spec (ws := (Cond.code yX7_isSound cX7_isSound 1 (some .boolean) :: lwAll)) B.pre wd (List.mem_cons_of_mem _ h)
  have hown : s.vm.findClass RX7 = some m.cls := findClass_of_methodNamed B.named
  have hlocks := B.notSynchronized
  subst hsz
  have hD := hD0.self (sz := s.heap.size)
  have hl := lv_entry ([.ref hM]) (n := 1) (Nat.le_of_ble_eq_true rfl)
  rw [lg_entry_eq]
  generalize (lg_sl ([.ref hM]) ++ List.replicate (1 - (lg_sl ([.ref hM])).length) Slot.unset).toArray = ls at hl ⊢
  have hl : lv_has ls 1 [(0, .ref hM)] := hl
  have hS : va_S (va_A [(hM, .inr (14, [.int th, .int (nI R), .int (nI C), .int fi, .int di, .int he, .int br, .int pa, .int gu, .int (nI sc), .int cl, .int se, .int lo, .int lu, .int rf, .ref kl, .ref kc, .ref hB])), (kl, .inr (6, [.int km, .ref kd, .int (nI K)])), (hB, .inr (1, [.ref aY, .int 0, .int ml, .int (nI n)])), (aY, .inl ((D.1 100), cap, .inl fY))] s.heap.size) s.heap s.heap [] := va_S.rf
  generalize hQe : MQ below (va_Qi (fun (r : Int32) (_ : Unit) => r = (F_X7_isSound R C fi di he br K n).1 ∧ (r = 0 ∨ r = 1)) (fun (_ : Unit) t => va_P D vwCl [(hM, .inr (14, [.int ((F_X7_isSound R C fi di he br K n).2), .int (nI R), .int (nI C), .int fi, .int di, .int he, .int br, .int pa, .int gu, .int (nI sc), .int cl, .int se, .int lo, .int lu, .int rf, .ref kl, .ref kc, .ref hB])), (kl, .inr (6, [.int km, .ref kd, .int (nI K)])), (hB, .inr (1, [.ref aY, .int 0, .int ml, .int (nI n)])), (aY, .inl ((D.1 100), cap, .inl fY))] t.heap ∧ va_D (va_A [(hM, .inr (14, [.int th, .int (nI R), .int (nI C), .int fi, .int di, .int he, .int br, .int pa, .int gu, .int (nI sc), .int cl, .int se, .int lo, .int lu, .int rf, .ref kl, .ref kc, .ref hB])), (kl, .inr (6, [.int km, .ref kd, .int (nI K)])), (hB, .inr (1, [.ref aY, .int 0, .int ml, .int (nI n)])), (aY, .inl ((D.1 100), cap, .inl fY))] s.heap.size) [(hM, .inr (14, [.int ((F_X7_isSound R C fi di he br K n).2), .int (nI R), .int (nI C), .int fi, .int di, .int he, .int br, .int pa, .int gu, .int (nI sc), .int cl, .int se, .int lo, .int lu, .int rf, .ref kl, .ref kc, .ref hB])), (kl, .inr (6, [.int km, .ref kd, .int (nI K)])), (hB, .inr (1, [.ref aY, .int 0, .int ml, .int (nI n)])), (aY, .inl ((D.1 100), cap, .inl fY))]) (va_A [(hM, .inr (14, [.int th, .int (nI R), .int (nI C), .int fi, .int di, .int he, .int br, .int pa, .int gu, .int (nI sc), .int cl, .int se, .int lo, .int lu, .int rf, .ref kl, .ref kc, .ref hB])), (kl, .inr (6, [.int km, .ref kd, .int (nI K)])), (hB, .inr (1, [.ref aY, .int 0, .int ml, .int (nI n)])), (aY, .inl ((D.1 100), cap, .inl fY))] s.heap.size)) ([.ref hM] : List Value).toArray s 0 0 (va_A [(hM, .inr (14, [.int th, .int (nI R), .int (nI C), .int fi, .int di, .int he, .int br, .int pa, .int gu, .int (nI sc), .int cl, .int se, .int lo, .int lu, .int rf, .ref kl, .ref kc, .ref hB])), (kl, .inr (6, [.int km, .ref kd, .int (nI K)])), (hB, .inr (1, [.ref aY, .int 0, .int ml, .int (nI n)])), (aY, .inl ((D.1 100), cap, .inl fY))] s.heap.size) = Q
  have hP : va_P D vwCl [(hM, .inr (14, [.int th, .int (nI R), .int (nI C), .int fi, .int di, .int he, .int br, .int pa, .int gu, .int (nI sc), .int cl, .int se, .int lo, .int lu, .int rf, .ref kl, .ref kc, .ref hB])), (kl, .inr (6, [.int km, .ref kd, .int (nI K)])), (hB, .inr (1, [.ref aY, .int 0, .int ml, .int (nI n)])), (aY, .inl ((D.1 100), cap, .inl fY))] s.heap := hP
  obtain ⟨A, hAe⟩ : ∃ A, A = va_A [(hM, .inr (14, [.int th, .int (nI R), .int (nI C), .int fi, .int di, .int he, .int br, .int pa, .int gu, .int (nI sc), .int cl, .int se, .int lo, .int lu, .int rf, .ref kl, .ref kc, .ref hB])), (kl, .inr (6, [.int km, .ref kd, .int (nI K)])), (hB, .inr (1, [.ref aY, .int 0, .int ml, .int (nI n)])), (aY, .inl ((D.1 100), cap, .inl fY))] s.heap.size := ⟨_, rfl⟩
  rw [← hAe] at hD hZ hS
  have hA : ∀ q : Nat, s.heap.size ≤ q → A q := fun q h => by rw [hAe]; exact Or.inr h
  obtain ⟨H, hHe⟩ : ∃ H, H = s.heap := ⟨_, rfl⟩
  obtain ⟨locs, hLe⟩ : ∃ L : List Loc, L = [] := ⟨_, rfl⟩
  have hP : va_P D vwCl [(hM, .inr (14, [.int th, .int (nI R), .int (nI C), .int fi, .int di, .int he, .int br, .int pa, .int gu, .int (nI sc), .int cl, .int se, .int lo, .int lu, .int rf, .ref kl, .ref kc, .ref hB])), (kl, .inr (6, [.int km, .ref kd, .int (nI K)])), (hB, .inr (1, [.ref aY, .int 0, .int ml, .int (nI n)])), (aY, .inl ((D.1 100), cap, .inl fY))] H := by rw [hHe]; exact hP
  have hS : va_S A s.heap H locs := by rw [hHe, hLe]; exact hS
  have hgoal : W p l e ({ frames := 5, cells := 0, slots := 0, locals := 117 } : Room) s m ([.ref hM] : List Value).toArray below meth c H locs 0 0 Q (F0 m 0 ls []) := by
    clear hHe hLe
    refine lv_aload_n hx hb dX7_isSound_0 rfl (lv_at hl 0 rfl) ?_
    refine lv_iconst (v := 0) hx hb dX7_isSound_1 (by decide) ?_
    refine va_put (D := D) (ci := 14) (v := .int 0) (ty := .int) (C := RX7) (T := TX7) (N := 18) hx hb hts in_X7 tyX7 tyX7_ok nmX7 hown hK hP hD hS 0 rfl rfl 0 (by decide) (hts _ q_1268) (fun _ h9 => h9) rfl (by decide +kernel) rfl rfl (Nat.le_of_ble_eq_true rfl) dX7_isSound_2 (fun H locs hP hD hS => ?_)
    have hP : va_P D vwCl [(hM, .inr (14, [.int 0, .int (nI R), .int (nI C), .int fi, .int di, .int he, .int br, .int pa, .int gu, .int (nI sc), .int cl, .int se, .int lo, .int lu, .int rf, .ref kl, .ref kc, .ref hB])), (kl, .inr (6, [.int km, .ref kd, .int (nI K)])), (hB, .inr (1, [.ref aY, .int 0, .int ml, .int (nI n)])), (aY, .inl ((D.1 100), cap, .inl fY))] H := hP
    have hD : va_D A [(hM, .inr (14, [.int 0, .int (nI R), .int (nI C), .int fi, .int di, .int he, .int br, .int pa, .int gu, .int (nI sc), .int cl, .int se, .int lo, .int lu, .int rf, .ref kl, .ref kc, .ref hB])), (kl, .inr (6, [.int km, .ref kd, .int (nI K)])), (hB, .inr (1, [.ref aY, .int 0, .int ml, .int (nI n)])), (aY, .inl ((D.1 100), cap, .inl fY))] := hD
    refine lv_aload_n hx hb dX7_isSound_5 rfl (lv_at hl 0 rfl) ?_
    have hPc := hP.sub (ws' := [(hM, .inr (14, [.int 0, .int (nI R), .int (nI C), .int fi, .int di, .int he, .int br, .int pa, .int gu, .int (nI sc), .int cl, .int se, .int lo, .int lu, .int rf, .ref kl, .ref kc, .ref hB])), (kl, .inr (6, [.int km, .ref kd, .int (nI K)])), (hB, .inr (1, [.ref aY, .int 0, .int ml, .int (nI n)])), (aY, .inl ((D.1 100), cap, .inl fY))]) [0, 1, 2, 3] rfl
    have hDc := hD.sub (ws' := [(hM, .inr (14, [.int 0, .int (nI R), .int (nI C), .int fi, .int di, .int he, .int br, .int pa, .int gu, .int (nI sc), .int cl, .int se, .int lo, .int lu, .int rf, .ref kl, .ref kc, .ref hB])), (kl, .inr (6, [.int km, .ref kd, .int (nI K)])), (hB, .inr (1, [.ref aY, .int 0, .int ml, .int (nI n)])), (aY, .inl ((D.1 100), cap, .inl fY))]) [0, 1, 2, 3] (by decide) rfl
    have hFc := va_free (wc := [(hM, .inr (14, [.int 0, .int (nI R), .int (nI C), .int fi, .int di, .int he, .int br, .int pa, .int gu, .int (nI sc), .int cl, .int se, .int lo, .int lu, .int rf, .ref kl, .ref kc, .ref hB])), (kl, .inr (6, [.int km, .ref kd, .int (nI K)])), (hB, .inr (1, [.ref aY, .int 0, .int ml, .int (nI n)])), (aY, .inl ((D.1 100), cap, .inl fY))]) hD hS hA [0, 1, 2, 3] rfl
    refine va_calli (va_runV (As := []) (rest := []) ⟨hx, hb, hml, hown, hts⟩ (c_X7_isWhole l D hM 0 R C fi di he br pa gu sc cl se lo lu rf kl kc hB km kd K aY ml n cap fY H.size (show R ≤ 5 from hR) (show C ≤ 5 from hC) (show 0 < C from hC0) (show K ≤ 25 from hKb)) (cwV 0 hts (gi_V q_1641 q_1643 q_78 q_104 q_1644) rfl rfl rfl (by decide +kernel) ⟨Nat.le_of_ble_eq_true rfl, Nat.le_of_ble_eq_true rfl⟩) ⟨cPre_blind, va_recv hK hP (ci := 14) (q0 := 0) rfl rfl, cPre_mk hPc hK hDc hN (lwZ_for hZ hS hFc)⟩ rfl rfl hl.1 rfl (lv_room (Nat.le_of_ble_eq_true rfl)) dX7_isSound_6 ⟨(Nat.le_of_ble_eq_true rfl), (Nat.le_of_ble_eq_true rfl)⟩) hS (fun q h1 h2 => absurd h2 (Nat.not_le.mpr h1)) (fun q h => hA q (Nat.le_trans hS.1 h)) (fun r_6 u t H1 locs ht hvm hw hBk hz1 hk1 hS => ?_)
    have hP := va_P_ro hP hk1
    obtain ⟨hw, z_1⟩ := hw
    rw [hw] at z_1
    subst hw
    clear hBk hvm ht u hz1 hk1
    clear hPc hDc hFc; clear t
    generalize H1 = H at hP hS ⊢
    subst hQe
    subst hAe
    have hE : (F_X7_isSound R C fi di he br K n) = (F_X7_isWhole R C fi di he br K n, 0) := (by rfl)
    have hP9 := hP.sub (ws' := [(hM, .inr (14, [.int 0, .int (nI R), .int (nI C), .int fi, .int di, .int he, .int br, .int pa, .int gu, .int (nI sc), .int cl, .int se, .int lo, .int lu, .int rf, .ref kl, .ref kc, .ref hB])), (kl, .inr (6, [.int km, .ref kd, .int (nI K)])), (hB, .inr (1, [.ref aY, .int 0, .int ml, .int (nI n)])), (aY, .inl ((D.1 100), cap, .inl fY))]) [0, 1, 2, 3] rfl
    have hD9 := hD.sub (ws' := [(hM, .inr (14, [.int 0, .int (nI R), .int (nI C), .int fi, .int di, .int he, .int br, .int pa, .int gu, .int (nI sc), .int cl, .int se, .int lo, .int lu, .int rf, .ref kl, .ref kc, .ref hB])), (kl, .inr (6, [.int km, .ref kd, .int (nI K)])), (hB, .inr (1, [.ref aY, .int 0, .int ml, .int (nI n)])), (aY, .inl ((D.1 100), cap, .inl fY))]) [0, 1, 2, 3] (by decide) rfl
    exact W.zret (ty := .boolean) (v := F_X7_isWhole R C fi di he br K n) hx hb hr (zb_narrow (by assumption)) (fun t ht hW => ⟨⟨F_X7_isWhole R C fi di he br K n, (), rfl, ⟨(by rw [hE]), (by assumption)⟩, (by (try rw [hE]); rw [ht]; exact hP9), (by (try rw [hE]); exact hD9)⟩, hS.F ht⟩) hS.2.2 dX7_isSound_9
  rw [hHe, hLe] at hgoal
  exact hgoal
