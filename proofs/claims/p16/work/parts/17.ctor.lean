def S_X1_startAnew_2  (i0 : Nat) (a0 : (Nat → Int32)) : (Nat → Int32) := (if 25 ≤ (nI i0) then upd a0 i0 31 else upd a0 i0 ((nI i0) - (nI i0) / 26 * 26))
def S_X1_startAnew_40  (i0 : Nat) (a0 : (Nat → Int32) × (Nat → Int32)) : (Nat → Int32) × (Nat → Int32) := (upd a0.1 i0 (-1), upd a0.2 i0 0)
def F_X1_startAnew (fC : Nat → Int32) (fG : Nat → Int32) (fI : Nat → Int32) (ml : Int32) (n : Nat) : (Nat → Int32) × (Nat → Int32) × (Nat → Int32) × Int32 × Nat × Int32 × Nat × Int32 := ((itr (fun i a => S_X1_startAnew_2 i a) 75 0 fC), (itr (fun i a => S_X1_startAnew_40 i a) 25 0 (fG, fI)).1, (itr (fun i a => S_X1_startAnew_40 i a) 25 0 (fG, fI)).2, (F_J4_setLength_d00df ml n 0).1, ((F_J4_setLength_d00df ml n 0).2), 0, 0, 0)
set_option maxHeartbeats 4000000 in
set_option maxRecDepth 100000 in
theorem c_X1_startAnew (l : Launch) (D : va_G) (hT : Nat) (aC : Nat) (aG : Nat) (aI : Nat) (hB : Nat) (aK : Nat) (aL : Nat) (aQ : Nat) (lo : Int32) (Ch : Nat) (ct : Int32) (fC : Nat → Int32) (fG : Nat → Int32) (fI : Nat → Int32) (aY : Nat) (ml : Int32) (n : Nat) (cap : Nat) (fY : Nat → Int32) (sz : Nat) (hn : n ≤ cap) (hcap : cap ≤ 1000) : Met l yX1_startAnew (Cond.code yX1_startAnew cX1_startAnew 2 none :: lwAll) ({ frames := 3, cells := 0, slots := 0, locals := 64 } : Room) (va_Pc [.ref hT] (cPre D (lwTY D) [(hT, .inr (8, [.ref aC, .ref aG, .ref aI, .ref hB, .int lo, .ref aK, .ref aL, .ref aQ, .int (nI Ch), .int ct])), (aC, .inl ((D.1 101), 75, .inl fC)), (aG, .inl ((D.1 101), 25, .inl fG)), (aI, .inl ((D.1 101), 25, .inl fI)), (hB, .inr (1, [.ref aY, .int 0, .int ml, .int (nI n)])), (aY, .inl ((D.1 100), cap, .inl fY))] sz)) (va_Qv (fun (_ : Unit) => True) (fun (_ : Unit) t => va_P D vwCl [(hT, .inr (8, [.ref aC, .ref aG, .ref aI, .ref hB, .int ((F_X1_startAnew fC fG fI ml n).2.2.2.2.2.1), .ref aK, .ref aL, .ref aQ, .int (nI ((F_X1_startAnew fC fG fI ml n).2.2.2.2.2.2.1)), .int ((F_X1_startAnew fC fG fI ml n).2.2.2.2.2.2.2)])), (aC, .inl ((D.1 101), 75, .inl ((F_X1_startAnew fC fG fI ml n).1))), (aG, .inl ((D.1 101), 25, .inl ((F_X1_startAnew fC fG fI ml n).2.1))), (aI, .inl ((D.1 101), 25, .inl ((F_X1_startAnew fC fG fI ml n).2.2.1))), (hB, .inr (1, [.ref aY, .int 0, .int ((F_X1_startAnew fC fG fI ml n).2.2.2.1), .int (nI ((F_X1_startAnew fC fG fI ml n).2.2.2.2.1))])), (aY, .inl ((D.1 100), cap, .inl fY))] t.heap ∧ va_D (va_A [(hT, .inr (8, [.ref aC, .ref aG, .ref aI, .ref hB, .int lo, .ref aK, .ref aL, .ref aQ, .int (nI Ch), .int ct])), (aC, .inl ((D.1 101), 75, .inl fC)), (aG, .inl ((D.1 101), 25, .inl fG)), (aI, .inl ((D.1 101), 25, .inl fI)), (hB, .inr (1, [.ref aY, .int 0, .int ml, .int (nI n)])), (aY, .inl ((D.1 100), cap, .inl fY))] sz) [(hT, .inr (8, [.ref aC, .ref aG, .ref aI, .ref hB, .int ((F_X1_startAnew fC fG fI ml n).2.2.2.2.2.1), .ref aK, .ref aL, .ref aQ, .int (nI ((F_X1_startAnew fC fG fI ml n).2.2.2.2.2.2.1)), .int ((F_X1_startAnew fC fG fI ml n).2.2.2.2.2.2.2)])), (aC, .inl ((D.1 101), 75, .inl ((F_X1_startAnew fC fG fI ml n).1))), (aG, .inl ((D.1 101), 25, .inl ((F_X1_startAnew fC fG fI ml n).2.1))), (aI, .inl ((D.1 101), 25, .inl ((F_X1_startAnew fC fG fI ml n).2.2.1))), (hB, .inr (1, [.ref aY, .int 0, .int ((F_X1_startAnew fC fG fI ml n).2.2.2.1), .int (nI ((F_X1_startAnew fC fG fI ml n).2.2.2.2.1))])), (aY, .inl ((D.1 100), cap, .inl fY))]) (va_A [(hT, .inr (8, [.ref aC, .ref aG, .ref aI, .ref hB, .int lo, .ref aK, .ref aL, .ref aQ, .int (nI Ch), .int ct])), (aC, .inl ((D.1 101), 75, .inl fC)), (aG, .inl ((D.1 101), 25, .inl fG)), (aI, .inl ((D.1 101), 25, .inl fI)), (hB, .inr (1, [.ref aY, .int 0, .int ml, .int (nI n)])), (aY, .inl ((D.1 100), cap, .inl fY))] sz)) 0 0 (va_A [(hT, .inr (8, [.ref aC, .ref aG, .ref aI, .ref hB, .int lo, .ref aK, .ref aL, .ref aQ, .int (nI Ch), .int ct])), (aC, .inl ((D.1 101), 75, .inl fC)), (aG, .inl ((D.1 101), 25, .inl fG)), (aI, .inl ((D.1 101), 25, .inl fI)), (hB, .inr (1, [.ref aY, .int 0, .int ml, .int (nI n)])), (aY, .inl ((D.1 100), cap, .inl fY))] sz) := by
  refine Met.ofW (cc := cX1_startAnew) (maxL := 2) (ret := none) (by decide) rfl ?_
  intro p e s m args below meth c s₁ B hml hv
  obtain ⟨rfl, hsz, hP, hK, hD0, hN, hZ⟩ := hv
  have hx := B.exec
  have hb := B.bytes
  have hr := B.returns
  have hts : ∀ wd ∈ lwAll, wd.before ([.ref hT] : List Value).toArray s = true := fun wd h => atoms_spec (ws := (Cond.code yX1_startAnew cX1_startAnew 2 none :: lwAll)) B.pre wd (List.mem_cons_of_mem _ h)
  have hown : s.vm.findClass RX1 = some m.cls := findClass_of_methodNamed B.named
  have hlocks := B.notSynchronized
  subst hsz
  have hD := hD0.self (sz := s.heap.size)
  have hl := lv_entry ([.ref hT]) (n := 2) (Nat.le_of_ble_eq_true rfl)
  rw [lg_entry_eq]
  generalize (lg_sl ([.ref hT]) ++ List.replicate (2 - (lg_sl ([.ref hT])).length) Slot.unset).toArray = ls at hl ⊢
  have hl : lv_has ls 2 [(0, .ref hT)] := hl
  have hS : va_S (va_A [(hT, .inr (8, [.ref aC, .ref aG, .ref aI, .ref hB, .int lo, .ref aK, .ref aL, .ref aQ, .int (nI Ch), .int ct])), (aC, .inl ((D.1 101), 75, .inl fC)), (aG, .inl ((D.1 101), 25, .inl fG)), (aI, .inl ((D.1 101), 25, .inl fI)), (hB, .inr (1, [.ref aY, .int 0, .int ml, .int (nI n)])), (aY, .inl ((D.1 100), cap, .inl fY))] s.heap.size) s.heap s.heap [] := va_S.rf
  generalize hQe : MQ below (va_Qv (fun (_ : Unit) => True) (fun (_ : Unit) t => va_P D vwCl [(hT, .inr (8, [.ref aC, .ref aG, .ref aI, .ref hB, .int ((F_X1_startAnew fC fG fI ml n).2.2.2.2.2.1), .ref aK, .ref aL, .ref aQ, .int (nI ((F_X1_startAnew fC fG fI ml n).2.2.2.2.2.2.1)), .int ((F_X1_startAnew fC fG fI ml n).2.2.2.2.2.2.2)])), (aC, .inl ((D.1 101), 75, .inl ((F_X1_startAnew fC fG fI ml n).1))), (aG, .inl ((D.1 101), 25, .inl ((F_X1_startAnew fC fG fI ml n).2.1))), (aI, .inl ((D.1 101), 25, .inl ((F_X1_startAnew fC fG fI ml n).2.2.1))), (hB, .inr (1, [.ref aY, .int 0, .int ((F_X1_startAnew fC fG fI ml n).2.2.2.1), .int (nI ((F_X1_startAnew fC fG fI ml n).2.2.2.2.1))])), (aY, .inl ((D.1 100), cap, .inl fY))] t.heap ∧ va_D (va_A [(hT, .inr (8, [.ref aC, .ref aG, .ref aI, .ref hB, .int lo, .ref aK, .ref aL, .ref aQ, .int (nI Ch), .int ct])), (aC, .inl ((D.1 101), 75, .inl fC)), (aG, .inl ((D.1 101), 25, .inl fG)), (aI, .inl ((D.1 101), 25, .inl fI)), (hB, .inr (1, [.ref aY, .int 0, .int ml, .int (nI n)])), (aY, .inl ((D.1 100), cap, .inl fY))] s.heap.size) [(hT, .inr (8, [.ref aC, .ref aG, .ref aI, .ref hB, .int ((F_X1_startAnew fC fG fI ml n).2.2.2.2.2.1), .ref aK, .ref aL, .ref aQ, .int (nI ((F_X1_startAnew fC fG fI ml n).2.2.2.2.2.2.1)), .int ((F_X1_startAnew fC fG fI ml n).2.2.2.2.2.2.2)])), (aC, .inl ((D.1 101), 75, .inl ((F_X1_startAnew fC fG fI ml n).1))), (aG, .inl ((D.1 101), 25, .inl ((F_X1_startAnew fC fG fI ml n).2.1))), (aI, .inl ((D.1 101), 25, .inl ((F_X1_startAnew fC fG fI ml n).2.2.1))), (hB, .inr (1, [.ref aY, .int 0, .int ((F_X1_startAnew fC fG fI ml n).2.2.2.1), .int (nI ((F_X1_startAnew fC fG fI ml n).2.2.2.2.1))])), (aY, .inl ((D.1 100), cap, .inl fY))]) (va_A [(hT, .inr (8, [.ref aC, .ref aG, .ref aI, .ref hB, .int lo, .ref aK, .ref aL, .ref aQ, .int (nI Ch), .int ct])), (aC, .inl ((D.1 101), 75, .inl fC)), (aG, .inl ((D.1 101), 25, .inl fG)), (aI, .inl ((D.1 101), 25, .inl fI)), (hB, .inr (1, [.ref aY, .int 0, .int ml, .int (nI n)])), (aY, .inl ((D.1 100), cap, .inl fY))] s.heap.size)) ([.ref hT] : List Value).toArray s 0 0 (va_A [(hT, .inr (8, [.ref aC, .ref aG, .ref aI, .ref hB, .int lo, .ref aK, .ref aL, .ref aQ, .int (nI Ch), .int ct])), (aC, .inl ((D.1 101), 75, .inl fC)), (aG, .inl ((D.1 101), 25, .inl fG)), (aI, .inl ((D.1 101), 25, .inl fI)), (hB, .inr (1, [.ref aY, .int 0, .int ml, .int (nI n)])), (aY, .inl ((D.1 100), cap, .inl fY))] s.heap.size) = Q
  have hP : va_P D vwCl [(hT, .inr (8, [.ref aC, .ref aG, .ref aI, .ref hB, .int lo, .ref aK, .ref aL, .ref aQ, .int (nI Ch), .int ct])), (aC, .inl ((D.1 101), 75, .inl fC)), (aG, .inl ((D.1 101), 25, .inl fG)), (aI, .inl ((D.1 101), 25, .inl fI)), (hB, .inr (1, [.ref aY, .int 0, .int ml, .int (nI n)])), (aY, .inl ((D.1 100), cap, .inl fY))] s.heap := hP
  obtain ⟨A, hAe⟩ : ∃ A, A = va_A [(hT, .inr (8, [.ref aC, .ref aG, .ref aI, .ref hB, .int lo, .ref aK, .ref aL, .ref aQ, .int (nI Ch), .int ct])), (aC, .inl ((D.1 101), 75, .inl fC)), (aG, .inl ((D.1 101), 25, .inl fG)), (aI, .inl ((D.1 101), 25, .inl fI)), (hB, .inr (1, [.ref aY, .int 0, .int ml, .int (nI n)])), (aY, .inl ((D.1 100), cap, .inl fY))] s.heap.size := ⟨_, rfl⟩
  rw [← hAe] at hD hZ hS
  have hA : ∀ q : Nat, s.heap.size ≤ q → A q := fun q h => by rw [hAe]; exact Or.inr h
  obtain ⟨H, hHe⟩ : ∃ H, H = s.heap := ⟨_, rfl⟩
  obtain ⟨locs, hLe⟩ : ∃ L : List Loc, L = [] := ⟨_, rfl⟩
  have hP : va_P D vwCl [(hT, .inr (8, [.ref aC, .ref aG, .ref aI, .ref hB, .int lo, .ref aK, .ref aL, .ref aQ, .int (nI Ch), .int ct])), (aC, .inl ((D.1 101), 75, .inl fC)), (aG, .inl ((D.1 101), 25, .inl fG)), (aI, .inl ((D.1 101), 25, .inl fI)), (hB, .inr (1, [.ref aY, .int 0, .int ml, .int (nI n)])), (aY, .inl ((D.1 100), cap, .inl fY))] H := by rw [hHe]; exact hP
  have hS : va_S A s.heap H locs := by rw [hHe, hLe]; exact hS
  have hgoal : W p l e ({ frames := 3, cells := 0, slots := 0, locals := 64 } : Room) s m ([.ref hT] : List Value).toArray below meth c H locs 0 0 Q (F0 m 0 ls []) := by
    clear hHe hLe
    refine lv_iconst (v := 0) hx hb dX1_startAnew_0 (by decide) ?_
    refine lv_istore_n (lv' := [(1, .int 0), (0, .ref hT)]) hx hb dX1_startAnew_1 rfl hl (by decide) rfl (fun ls hl => ?_)
    have lp_2 : ∀ (n0 i0 : Nat), i0 + n0 = 75 → ∀ (a0 : (Nat → Int32)) (H : Heap) (locs : List Loc) (ls : Array Slot), va_P D vwCl [(hT, .inr (8, [.ref aC, .ref aG, .ref aI, .ref hB, .int lo, .ref aK, .ref aL, .ref aQ, .int (nI Ch), .int ct])), (aC, .inl ((D.1 101), 75, .inl a0)), (aG, .inl ((D.1 101), 25, .inl fG)), (aI, .inl ((D.1 101), 25, .inl fI)), (hB, .inr (1, [.ref aY, .int 0, .int ml, .int (nI n)])), (aY, .inl ((D.1 100), cap, .inl fY))] H → va_D A [(hT, .inr (8, [.ref aC, .ref aG, .ref aI, .ref hB, .int lo, .ref aK, .ref aL, .ref aQ, .int (nI Ch), .int ct])), (aC, .inl ((D.1 101), 75, .inl a0)), (aG, .inl ((D.1 101), 25, .inl fG)), (aI, .inl ((D.1 101), 25, .inl fI)), (hB, .inr (1, [.ref aY, .int 0, .int ml, .int (nI n)])), (aY, .inl ((D.1 100), cap, .inl fY))] → va_S A s.heap H locs → lv_has ls 2 [(0, .ref hT), (1, .int (nI i0))] → (∀ (H : Heap) (locs : List Loc) (ls : Array Slot), va_P D vwCl [(hT, .inr (8, [.ref aC, .ref aG, .ref aI, .ref hB, .int lo, .ref aK, .ref aL, .ref aQ, .int (nI Ch), .int ct])), (aC, .inl ((D.1 101), 75, .inl (itr (fun i a => S_X1_startAnew_2 i a) n0 i0 a0))), (aG, .inl ((D.1 101), 25, .inl fG)), (aI, .inl ((D.1 101), 25, .inl fI)), (hB, .inr (1, [.ref aY, .int 0, .int ml, .int (nI n)])), (aY, .inl ((D.1 100), cap, .inl fY))] H → va_D A [(hT, .inr (8, [.ref aC, .ref aG, .ref aI, .ref hB, .int lo, .ref aK, .ref aL, .ref aQ, .int (nI Ch), .int ct])), (aC, .inl ((D.1 101), 75, .inl (itr (fun i a => S_X1_startAnew_2 i a) n0 i0 a0))), (aG, .inl ((D.1 101), 25, .inl fG)), (aI, .inl ((D.1 101), 25, .inl fI)), (hB, .inr (1, [.ref aY, .int 0, .int ml, .int (nI n)])), (aY, .inl ((D.1 100), cap, .inl fY))] → va_S A s.heap H locs → lv_has ls 2 [(0, .ref hT), (1, .int (nI 75))] → W p l e ({ frames := 3, cells := 0, slots := 0, locals := 64 } : Room) s m ([.ref hT] : List Value).toArray below meth c H locs 0 0 Q (F0 m 38 ls [])) → W p l e ({ frames := 3, cells := 0, slots := 0, locals := 64 } : Room) s m ([.ref hT] : List Value).toArray below meth c H locs 0 0 Q (F0 m 2 ls []) := by
      intro n0
      induction n0 with
      | zero =>
        intro i0 hi0 a0 H locs ls hP hD hS hl kon
        have he0 : i0 = 75 := by omega
        refine lv_iload_n hx hb dX1_startAnew_2 rfl (lv_at hl 1 rfl) ?_
        refine lv_aload_n hx hb dX1_startAnew_3 rfl (lv_at hl 0 rfl) ?_
        refine va_get (D := D) (ci := 8) (v := .ref aC) (C := RX1) (T := TX1) (N := 10) hx hb hts in_X1 hown hK hP 0 rfl rfl 0 (by decide) (hts _ q_254) (fun _ h9 => h9) rfl dX1_startAnew_4 ?_
        refine va_alen hx hb hK hP 1 1 rfl rfl (v := nI 75) rfl dX1_startAnew_7 ?_
        refine lv_icmp_ge (tgt := 38) hx hb dX1_startAnew_8 (by decide) (fun c_1 => ?_) (fun c_1 => ?_)
        · subst he0
          exact kon H locs ls hP hD hS (lv_sub hl [0, 1] rfl)
        · exact absurd (nI_le (a := 75) (b := i0) (by omega) (by omega)) c_1
      | succ n0 ih0 =>
        intro i0 hi0 a0 H locs ls hP hD hS hl kon
        refine lv_iload_n hx hb dX1_startAnew_2 rfl (lv_at hl 1 rfl) ?_
        refine lv_aload_n hx hb dX1_startAnew_3 rfl (lv_at hl 0 rfl) ?_
        refine va_get (D := D) (ci := 8) (v := .ref aC) (C := RX1) (T := TX1) (N := 10) hx hb hts in_X1 hown hK hP 0 rfl rfl 0 (by decide) (hts _ q_254) (fun _ h9 => h9) rfl dX1_startAnew_4 ?_
        refine va_alen hx hb hK hP 1 1 rfl rfl (v := nI 75) rfl dX1_startAnew_7 ?_
        refine lv_icmp_ge (tgt := 38) hx hb dX1_startAnew_8 (by decide) (fun c_2 => ?_) (fun c_2 => ?_)
        · exact absurd c_2 (nI_ge (a := i0) (b := 75) (by omega) (by omega))
        · refine lv_aload_n hx hb dX1_startAnew_11 rfl (lv_at hl 0 rfl) ?_
          refine va_get (D := D) (ci := 8) (v := .ref aC) (C := RX1) (T := TX1) (N := 10) hx hb hts in_X1 hown hK hP 0 rfl rfl 0 (by decide) (hts _ q_254) (fun _ h9 => h9) rfl dX1_startAnew_12 ?_
          refine lv_iload_n hx hb dX1_startAnew_15 rfl (lv_at hl 1 rfl) ?_
          refine lv_iload_n hx hb dX1_startAnew_16 rfl (lv_at hl 1 rfl) ?_
          refine lv_bipush (v := 25) hx hb dX1_startAnew_17 (by decide) ?_
          refine lv_icmp_ge (tgt := 29) hx hb dX1_startAnew_19 (by decide) (fun c_3 => ?_) (fun c_3 => ?_)
          · refine lv_bipush (v := 31) hx hb dX1_startAnew_29 (by decide) ?_
            refine va_iast hx hb hK hP hD hS 1 1 rfl rfl (vp_in_nI (by omega) (by omega)) dX1_startAnew_31 (fun H locs hP hD hS => ?_)
            rw [nI_clamp (by omega)] at hP hD
            have hP : va_P D vwCl [(hT, .inr (8, [.ref aC, .ref aG, .ref aI, .ref hB, .int lo, .ref aK, .ref aL, .ref aQ, .int (nI Ch), .int ct])), (aC, .inl ((D.1 101), 75, .inl (upd a0 i0 31))), (aG, .inl ((D.1 101), 25, .inl fG)), (aI, .inl ((D.1 101), 25, .inl fI)), (hB, .inr (1, [.ref aY, .int 0, .int ml, .int (nI n)])), (aY, .inl ((D.1 100), cap, .inl fY))] H := hP
            have hD : va_D A [(hT, .inr (8, [.ref aC, .ref aG, .ref aI, .ref hB, .int lo, .ref aK, .ref aL, .ref aQ, .int (nI Ch), .int ct])), (aC, .inl ((D.1 101), 75, .inl (upd a0 i0 31))), (aG, .inl ((D.1 101), 25, .inl fG)), (aI, .inl ((D.1 101), 25, .inl fI)), (hB, .inr (1, [.ref aY, .int 0, .int ml, .int (nI n)])), (aY, .inl ((D.1 100), cap, .inl fY))] := hD
            refine lv_iinc (v := nI (i0 + 1)) (lv' := [(1, .int (nI (i0 + 1))), (0, .ref hT)]) hx hb dX1_startAnew_32 hl (k := 1) rfl (nI_1 _) (by decide) rfl (fun ls hl => ?_)
            refine lv_goto (tgt := 2) hx hb dX1_startAnew_35 (by decide) ?_
            have hE : S_X1_startAnew_2 i0 a0 = upd a0 i0 31 := (by unfold S_X1_startAnew_2; rw [if_pos c_3])
            have hl : lv_has ls 2 [(0, .ref hT), (1, .int (nI (i0 + 1)))] := lv_sub hl [1, 0] rfl
            have hP := hP.sub (ws' := [(hT, .inr (8, [.ref aC, .ref aG, .ref aI, .ref hB, .int lo, .ref aK, .ref aL, .ref aQ, .int (nI Ch), .int ct])), (aC, .inl ((D.1 101), 75, .inl (upd a0 i0 31))), (aG, .inl ((D.1 101), 25, .inl fG)), (aI, .inl ((D.1 101), 25, .inl fI)), (hB, .inr (1, [.ref aY, .int 0, .int ml, .int (nI n)])), (aY, .inl ((D.1 100), cap, .inl fY))]) [0, 1, 2, 3, 4, 5] rfl
            have hD := hD.sub (ws' := [(hT, .inr (8, [.ref aC, .ref aG, .ref aI, .ref hB, .int lo, .ref aK, .ref aL, .ref aQ, .int (nI Ch), .int ct])), (aC, .inl ((D.1 101), 75, .inl (upd a0 i0 31))), (aG, .inl ((D.1 101), 25, .inl fG)), (aI, .inl ((D.1 101), 25, .inl fI)), (hB, .inr (1, [.ref aY, .int 0, .int ml, .int (nI n)])), (aY, .inl ((D.1 100), cap, .inl fY))]) [0, 1, 2, 3, 4, 5] (by decide) rfl
            exact ih0 (i0 + 1) (by omega) (S_X1_startAnew_2 i0 a0) H locs ls (by (try rw [hE]); exact hP) (by (try rw [hE]); exact hD) hS (by (try rw [hE]); exact hl) kon
          · refine lv_iload_n hx hb dX1_startAnew_22 rfl (lv_at hl 1 rfl) ?_
            refine lv_bipush (v := 26) hx hb dX1_startAnew_23 (by decide) ?_
            refine lv_irem hx hb dX1_startAnew_25 (by decide) ?_
            refine lv_goto (tgt := 31) hx hb dX1_startAnew_26 (by decide) ?_
            refine va_iast hx hb hK hP hD hS 1 1 rfl rfl (vp_in_nI (by omega) (by omega)) dX1_startAnew_31 (fun H locs hP hD hS => ?_)
            rw [nI_clamp (by omega)] at hP hD
            have hP : va_P D vwCl [(hT, .inr (8, [.ref aC, .ref aG, .ref aI, .ref hB, .int lo, .ref aK, .ref aL, .ref aQ, .int (nI Ch), .int ct])), (aC, .inl ((D.1 101), 75, .inl (upd a0 i0 ((nI i0) - (nI i0) / 26 * 26)))), (aG, .inl ((D.1 101), 25, .inl fG)), (aI, .inl ((D.1 101), 25, .inl fI)), (hB, .inr (1, [.ref aY, .int 0, .int ml, .int (nI n)])), (aY, .inl ((D.1 100), cap, .inl fY))] H := hP
            have hD : va_D A [(hT, .inr (8, [.ref aC, .ref aG, .ref aI, .ref hB, .int lo, .ref aK, .ref aL, .ref aQ, .int (nI Ch), .int ct])), (aC, .inl ((D.1 101), 75, .inl (upd a0 i0 ((nI i0) - (nI i0) / 26 * 26)))), (aG, .inl ((D.1 101), 25, .inl fG)), (aI, .inl ((D.1 101), 25, .inl fI)), (hB, .inr (1, [.ref aY, .int 0, .int ml, .int (nI n)])), (aY, .inl ((D.1 100), cap, .inl fY))] := hD
            refine lv_iinc (v := nI (i0 + 1)) (lv' := [(1, .int (nI (i0 + 1))), (0, .ref hT)]) hx hb dX1_startAnew_32 hl (k := 1) rfl (nI_1 _) (by decide) rfl (fun ls hl => ?_)
            refine lv_goto (tgt := 2) hx hb dX1_startAnew_35 (by decide) ?_
            have hE : S_X1_startAnew_2 i0 a0 = upd a0 i0 ((nI i0) - (nI i0) / 26 * 26) := (by unfold S_X1_startAnew_2; rw [if_neg c_3])
            have hl : lv_has ls 2 [(0, .ref hT), (1, .int (nI (i0 + 1)))] := lv_sub hl [1, 0] rfl
            have hP := hP.sub (ws' := [(hT, .inr (8, [.ref aC, .ref aG, .ref aI, .ref hB, .int lo, .ref aK, .ref aL, .ref aQ, .int (nI Ch), .int ct])), (aC, .inl ((D.1 101), 75, .inl (upd a0 i0 ((nI i0) - (nI i0) / 26 * 26)))), (aG, .inl ((D.1 101), 25, .inl fG)), (aI, .inl ((D.1 101), 25, .inl fI)), (hB, .inr (1, [.ref aY, .int 0, .int ml, .int (nI n)])), (aY, .inl ((D.1 100), cap, .inl fY))]) [0, 1, 2, 3, 4, 5] rfl
            have hD := hD.sub (ws' := [(hT, .inr (8, [.ref aC, .ref aG, .ref aI, .ref hB, .int lo, .ref aK, .ref aL, .ref aQ, .int (nI Ch), .int ct])), (aC, .inl ((D.1 101), 75, .inl (upd a0 i0 ((nI i0) - (nI i0) / 26 * 26)))), (aG, .inl ((D.1 101), 25, .inl fG)), (aI, .inl ((D.1 101), 25, .inl fI)), (hB, .inr (1, [.ref aY, .int 0, .int ml, .int (nI n)])), (aY, .inl ((D.1 100), cap, .inl fY))]) [0, 1, 2, 3, 4, 5] (by decide) rfl
            exact ih0 (i0 + 1) (by omega) (S_X1_startAnew_2 i0 a0) H locs ls (by (try rw [hE]); exact hP) (by (try rw [hE]); exact hD) hS (by (try rw [hE]); exact hl) kon
    have hl : lv_has ls 2 [(0, .ref hT), (1, .int (nI 0))] := lv_sub hl [1, 0] rfl
    refine lp_2 75 0 (by omega) fC H locs ls hP hD hS hl ?_
    clear lp_2 hP hD hS hl
    intro H locs ls hP hD hS hl
    refine lv_iconst (v := 0) hx hb dX1_startAnew_38 (by decide) ?_
    refine lv_istore_n (lv' := [(1, .int 0), (0, .ref hT)]) hx hb dX1_startAnew_39 rfl hl (by decide) rfl (fun ls hl => ?_)
    have lp_40 : ∀ (n0 i0 : Nat), i0 + n0 = 25 → ∀ (a0 : (Nat → Int32) × (Nat → Int32)) (H : Heap) (locs : List Loc) (ls : Array Slot), va_P D vwCl [(hT, .inr (8, [.ref aC, .ref aG, .ref aI, .ref hB, .int lo, .ref aK, .ref aL, .ref aQ, .int (nI Ch), .int ct])), (aC, .inl ((D.1 101), 75, .inl (itr (fun i a => S_X1_startAnew_2 i a) 75 0 fC))), (aG, .inl ((D.1 101), 25, .inl a0.1)), (aI, .inl ((D.1 101), 25, .inl a0.2)), (hB, .inr (1, [.ref aY, .int 0, .int ml, .int (nI n)])), (aY, .inl ((D.1 100), cap, .inl fY))] H → va_D A [(hT, .inr (8, [.ref aC, .ref aG, .ref aI, .ref hB, .int lo, .ref aK, .ref aL, .ref aQ, .int (nI Ch), .int ct])), (aC, .inl ((D.1 101), 75, .inl (itr (fun i a => S_X1_startAnew_2 i a) 75 0 fC))), (aG, .inl ((D.1 101), 25, .inl a0.1)), (aI, .inl ((D.1 101), 25, .inl a0.2)), (hB, .inr (1, [.ref aY, .int 0, .int ml, .int (nI n)])), (aY, .inl ((D.1 100), cap, .inl fY))] → va_S A s.heap H locs → lv_has ls 2 [(0, .ref hT), (1, .int (nI i0))] → (∀ (H : Heap) (locs : List Loc) (ls : Array Slot), va_P D vwCl [(hT, .inr (8, [.ref aC, .ref aG, .ref aI, .ref hB, .int lo, .ref aK, .ref aL, .ref aQ, .int (nI Ch), .int ct])), (aC, .inl ((D.1 101), 75, .inl (itr (fun i a => S_X1_startAnew_2 i a) 75 0 fC))), (aG, .inl ((D.1 101), 25, .inl ((itr (fun i a => S_X1_startAnew_40 i a) n0 i0 a0).1))), (aI, .inl ((D.1 101), 25, .inl ((itr (fun i a => S_X1_startAnew_40 i a) n0 i0 a0).2))), (hB, .inr (1, [.ref aY, .int 0, .int ml, .int (nI n)])), (aY, .inl ((D.1 100), cap, .inl fY))] H → va_D A [(hT, .inr (8, [.ref aC, .ref aG, .ref aI, .ref hB, .int lo, .ref aK, .ref aL, .ref aQ, .int (nI Ch), .int ct])), (aC, .inl ((D.1 101), 75, .inl (itr (fun i a => S_X1_startAnew_2 i a) 75 0 fC))), (aG, .inl ((D.1 101), 25, .inl ((itr (fun i a => S_X1_startAnew_40 i a) n0 i0 a0).1))), (aI, .inl ((D.1 101), 25, .inl ((itr (fun i a => S_X1_startAnew_40 i a) n0 i0 a0).2))), (hB, .inr (1, [.ref aY, .int 0, .int ml, .int (nI n)])), (aY, .inl ((D.1 100), cap, .inl fY))] → va_S A s.heap H locs → lv_has ls 2 [(0, .ref hT), (1, .int (nI 25))] → W p l e ({ frames := 3, cells := 0, slots := 0, locals := 64 } : Room) s m ([.ref hT] : List Value).toArray below meth c H locs 0 0 Q (F0 m 66 ls [])) → W p l e ({ frames := 3, cells := 0, slots := 0, locals := 64 } : Room) s m ([.ref hT] : List Value).toArray below meth c H locs 0 0 Q (F0 m 40 ls []) := by
      intro n0
      induction n0 with
      | zero =>
        intro i0 hi0 a0 H locs ls hP hD hS hl kon
        have he0 : i0 = 25 := by omega
        refine lv_iload_n hx hb dX1_startAnew_40 rfl (lv_at hl 1 rfl) ?_
        refine lv_bipush (v := 25) hx hb dX1_startAnew_41 (by decide) ?_
        refine lv_icmp_ge (tgt := 66) hx hb dX1_startAnew_43 (by decide) (fun c_4 => ?_) (fun c_4 => ?_)
        · subst he0
          exact kon H locs ls hP hD hS (lv_sub hl [0, 1] rfl)
        · exact absurd (nI_le (a := 25) (b := i0) (by omega) (by omega)) c_4
      | succ n0 ih0 =>
        intro i0 hi0 a0 H locs ls hP hD hS hl kon
        refine lv_iload_n hx hb dX1_startAnew_40 rfl (lv_at hl 1 rfl) ?_
        refine lv_bipush (v := 25) hx hb dX1_startAnew_41 (by decide) ?_
        refine lv_icmp_ge (tgt := 66) hx hb dX1_startAnew_43 (by decide) (fun c_5 => ?_) (fun c_5 => ?_)
        · exact absurd c_5 (nI_ge (a := i0) (b := 25) (by omega) (by omega))
        · refine lv_aload_n hx hb dX1_startAnew_46 rfl (lv_at hl 0 rfl) ?_
          refine va_get (D := D) (ci := 8) (v := .ref aG) (C := RX1) (T := TX1) (N := 10) hx hb hts in_X1 hown hK hP 0 rfl rfl 1 (by decide) (hts _ q_256) (fun _ h9 => h9) rfl dX1_startAnew_47 ?_
          refine lv_iload_n hx hb dX1_startAnew_50 rfl (lv_at hl 1 rfl) ?_
          refine lv_iconst (v := (-1)) hx hb dX1_startAnew_51 (by decide) ?_
          refine va_iast hx hb hK hP hD hS 2 1 rfl rfl (vp_in_nI (by omega) (by omega)) dX1_startAnew_52 (fun H locs hP hD hS => ?_)
          rw [nI_clamp (by omega)] at hP hD
          have hP : va_P D vwCl [(hT, .inr (8, [.ref aC, .ref aG, .ref aI, .ref hB, .int lo, .ref aK, .ref aL, .ref aQ, .int (nI Ch), .int ct])), (aC, .inl ((D.1 101), 75, .inl (itr (fun i a => S_X1_startAnew_2 i a) 75 0 fC))), (aG, .inl ((D.1 101), 25, .inl (upd a0.1 i0 (-1)))), (aI, .inl ((D.1 101), 25, .inl a0.2)), (hB, .inr (1, [.ref aY, .int 0, .int ml, .int (nI n)])), (aY, .inl ((D.1 100), cap, .inl fY))] H := hP
          have hD : va_D A [(hT, .inr (8, [.ref aC, .ref aG, .ref aI, .ref hB, .int lo, .ref aK, .ref aL, .ref aQ, .int (nI Ch), .int ct])), (aC, .inl ((D.1 101), 75, .inl (itr (fun i a => S_X1_startAnew_2 i a) 75 0 fC))), (aG, .inl ((D.1 101), 25, .inl (upd a0.1 i0 (-1)))), (aI, .inl ((D.1 101), 25, .inl a0.2)), (hB, .inr (1, [.ref aY, .int 0, .int ml, .int (nI n)])), (aY, .inl ((D.1 100), cap, .inl fY))] := hD
          refine lv_aload_n hx hb dX1_startAnew_53 rfl (lv_at hl 0 rfl) ?_
          refine va_get (D := D) (ci := 8) (v := .ref aI) (C := RX1) (T := TX1) (N := 10) hx hb hts in_X1 hown hK hP 0 rfl rfl 2 (by decide) (hts _ q_258) (fun _ h9 => h9) rfl dX1_startAnew_54 ?_
          refine lv_iload_n hx hb dX1_startAnew_57 rfl (lv_at hl 1 rfl) ?_
          refine lv_iconst (v := 0) hx hb dX1_startAnew_58 (by decide) ?_
          refine va_iast hx hb hK hP hD hS 3 1 rfl rfl (vp_in_nI (by omega) (by omega)) dX1_startAnew_59 (fun H locs hP hD hS => ?_)
          rw [nI_clamp (by omega)] at hP hD
          have hP : va_P D vwCl [(hT, .inr (8, [.ref aC, .ref aG, .ref aI, .ref hB, .int lo, .ref aK, .ref aL, .ref aQ, .int (nI Ch), .int ct])), (aC, .inl ((D.1 101), 75, .inl (itr (fun i a => S_X1_startAnew_2 i a) 75 0 fC))), (aG, .inl ((D.1 101), 25, .inl (upd a0.1 i0 (-1)))), (aI, .inl ((D.1 101), 25, .inl (upd a0.2 i0 0))), (hB, .inr (1, [.ref aY, .int 0, .int ml, .int (nI n)])), (aY, .inl ((D.1 100), cap, .inl fY))] H := hP
          have hD : va_D A [(hT, .inr (8, [.ref aC, .ref aG, .ref aI, .ref hB, .int lo, .ref aK, .ref aL, .ref aQ, .int (nI Ch), .int ct])), (aC, .inl ((D.1 101), 75, .inl (itr (fun i a => S_X1_startAnew_2 i a) 75 0 fC))), (aG, .inl ((D.1 101), 25, .inl (upd a0.1 i0 (-1)))), (aI, .inl ((D.1 101), 25, .inl (upd a0.2 i0 0))), (hB, .inr (1, [.ref aY, .int 0, .int ml, .int (nI n)])), (aY, .inl ((D.1 100), cap, .inl fY))] := hD
          refine lv_iinc (v := nI (i0 + 1)) (lv' := [(1, .int (nI (i0 + 1))), (0, .ref hT)]) hx hb dX1_startAnew_60 hl (k := 1) rfl (nI_1 _) (by decide) rfl (fun ls hl => ?_)
          refine lv_goto (tgt := 40) hx hb dX1_startAnew_63 (by decide) ?_
          have hE : S_X1_startAnew_40 i0 a0 = (upd a0.1 i0 (-1), upd a0.2 i0 0) := (by rfl)
          have hl : lv_has ls 2 [(0, .ref hT), (1, .int (nI (i0 + 1)))] := lv_sub hl [1, 0] rfl
          have hP := hP.sub (ws' := [(hT, .inr (8, [.ref aC, .ref aG, .ref aI, .ref hB, .int lo, .ref aK, .ref aL, .ref aQ, .int (nI Ch), .int ct])), (aC, .inl ((D.1 101), 75, .inl (itr (fun i a => S_X1_startAnew_2 i a) 75 0 fC))), (aG, .inl ((D.1 101), 25, .inl (upd a0.1 i0 (-1)))), (aI, .inl ((D.1 101), 25, .inl (upd a0.2 i0 0))), (hB, .inr (1, [.ref aY, .int 0, .int ml, .int (nI n)])), (aY, .inl ((D.1 100), cap, .inl fY))]) [0, 1, 2, 3, 4, 5] rfl
          have hD := hD.sub (ws' := [(hT, .inr (8, [.ref aC, .ref aG, .ref aI, .ref hB, .int lo, .ref aK, .ref aL, .ref aQ, .int (nI Ch), .int ct])), (aC, .inl ((D.1 101), 75, .inl (itr (fun i a => S_X1_startAnew_2 i a) 75 0 fC))), (aG, .inl ((D.1 101), 25, .inl (upd a0.1 i0 (-1)))), (aI, .inl ((D.1 101), 25, .inl (upd a0.2 i0 0))), (hB, .inr (1, [.ref aY, .int 0, .int ml, .int (nI n)])), (aY, .inl ((D.1 100), cap, .inl fY))]) [0, 1, 2, 3, 4, 5] (by decide) rfl
          exact ih0 (i0 + 1) (by omega) (S_X1_startAnew_40 i0 a0) H locs ls (by (try rw [hE]); exact hP) (by (try rw [hE]); exact hD) hS (by (try rw [hE]); exact hl) kon
    have hl : lv_has ls 2 [(0, .ref hT), (1, .int (nI 0))] := lv_sub hl [1, 0] rfl
    refine lp_40 25 0 (by omega) (fG, fI) H locs ls hP hD hS hl ?_
    clear lp_40 hP hD hS hl
    intro H locs ls hP hD hS hl
    refine lv_aload_n hx hb dX1_startAnew_66 rfl (lv_at hl 0 rfl) ?_
    refine va_get (D := D) (ci := 8) (v := .ref hB) (C := RX1) (T := TX1) (N := 10) hx hb hts in_X1 hown hK hP 0 rfl rfl 3 (by decide) (hts _ q_259) (fun _ h9 => h9) rfl dX1_startAnew_67 ?_
    refine lv_iconst (v := 0) hx hb dX1_startAnew_70 (by decide) ?_
    have hPc := hP.sub (ws' := [(hB, .inr (1, [.ref aY, .int 0, .int ml, .int (nI n)])), (aY, .inl ((D.1 100), cap, .inl fY))]) [4, 5] rfl
    have hDc := hD.sub (ws' := [(hB, .inr (1, [.ref aY, .int 0, .int ml, .int (nI n)])), (aY, .inl ((D.1 100), cap, .inl fY))]) [4, 5] (by decide) rfl
    have hFc := va_free (wc := [(hB, .inr (1, [.ref aY, .int 0, .int ml, .int (nI n)])), (aY, .inl ((D.1 100), cap, .inl fY))]) hD hS hA [4, 5] rfl
    refine va_callv (va_runV (As := [.int 0]) (rest := []) ⟨hx, hb, hml, hown, hts⟩ (c_J4_setLength_d00df l D hB aY ml n cap fY 0 0 H.size (show 0 ≤ n from (by omega)) (show n ≤ cap from (by omega)) (show cap ≤ 1000 from (by omega)) (show 0 = nI 0 from rfl)) (cwV 1 hts (gi_V q_311 q_312 q_313 q_86 q_314) rfl rfl rfl (by decide +kernel) ⟨Nat.le_of_ble_eq_true rfl, Nat.le_of_ble_eq_true rfl⟩) ⟨cPre_blind, va_recv hK hP (ci := 1) (q0 := 4) rfl rfl, cPre_mk hPc hK hDc hN (lwZ_for hZ hS hFc)⟩ rfl rfl hl.1 rfl (lv_room (Nat.le_of_ble_eq_true rfl)) dX1_startAnew_71 ⟨(Nat.le_of_ble_eq_true rfl), (Nat.le_of_ble_eq_true rfl)⟩) hS (fun q _ h => hFc q h) hFc (fun u t H1 locs ht hvm hw hBk hz1 hk1 hS => ?_)
    obtain ⟨hP1, hD1⟩ := hBk
    rw [ht] at hP1
    obtain ⟨hP, hD⟩ := va_join (wr := [(hT, .inr (8, [.ref aC, .ref aG, .ref aI, .ref hB, .int lo, .ref aK, .ref aL, .ref aQ, .int (nI Ch), .int ct])), (aC, .inl ((D.1 101), 75, .inl (itr (fun i a => S_X1_startAnew_2 i a) 75 0 fC))), (aG, .inl ((D.1 101), 25, .inl ((itr (fun i a => S_X1_startAnew_40 i a) 25 0 (fG, fI)).1))), (aI, .inl ((D.1 101), 25, .inl ((itr (fun i a => S_X1_startAnew_40 i a) 25 0 (fG, fI)).2)))]) (w1 := [(hB, .inr (1, [.ref aY, .int 0, .int ((F_J4_setLength_d00df ml n 0).1), .int (nI ((F_J4_setLength_d00df ml n 0).2))])), (aY, .inl ((D.1 100), cap, .inl fY))]) hP hD [4, 5] [0, 1, 2, 3] rfl rfl (by decide) (by decide) hk1 hFc hP1 hD1
    clear hPc hDc hFc hP1 hD1 hk1 hz1
    clear hvm ht u; clear t
    generalize H1 = H at hP hS ⊢
    have hP : va_P D vwCl [(hT, .inr (8, [.ref aC, .ref aG, .ref aI, .ref hB, .int lo, .ref aK, .ref aL, .ref aQ, .int (nI Ch), .int ct])), (aC, .inl ((D.1 101), 75, .inl (itr (fun i a => S_X1_startAnew_2 i a) 75 0 fC))), (aG, .inl ((D.1 101), 25, .inl ((itr (fun i a => S_X1_startAnew_40 i a) 25 0 (fG, fI)).1))), (aI, .inl ((D.1 101), 25, .inl ((itr (fun i a => S_X1_startAnew_40 i a) 25 0 (fG, fI)).2))), (hB, .inr (1, [.ref aY, .int 0, .int ((F_J4_setLength_d00df ml n 0).1), .int (nI ((F_J4_setLength_d00df ml n 0).2))])), (aY, .inl ((D.1 100), cap, .inl fY))] H := hP
    have hD : va_D A [(hT, .inr (8, [.ref aC, .ref aG, .ref aI, .ref hB, .int lo, .ref aK, .ref aL, .ref aQ, .int (nI Ch), .int ct])), (aC, .inl ((D.1 101), 75, .inl (itr (fun i a => S_X1_startAnew_2 i a) 75 0 fC))), (aG, .inl ((D.1 101), 25, .inl ((itr (fun i a => S_X1_startAnew_40 i a) 25 0 (fG, fI)).1))), (aI, .inl ((D.1 101), 25, .inl ((itr (fun i a => S_X1_startAnew_40 i a) 25 0 (fG, fI)).2))), (hB, .inr (1, [.ref aY, .int 0, .int ((F_J4_setLength_d00df ml n 0).1), .int (nI ((F_J4_setLength_d00df ml n 0).2))])), (aY, .inl ((D.1 100), cap, .inl fY))] := hD
    refine lv_aload_n hx hb dX1_startAnew_74 rfl (lv_at hl 0 rfl) ?_
    refine lv_iconst (v := 0) hx hb dX1_startAnew_75 (by decide) ?_
    refine va_put (D := D) (ci := 8) (v := .int 0) (ty := .int) (C := RX1) (T := TX1) (N := 10) hx hb hts in_X1 tyX1 tyX1_ok nmX1 hown hK hP hD hS 0 rfl rfl 4 (by decide) (hts _ q_261) (fun _ h9 => h9) rfl (by decide +kernel) rfl rfl (Nat.le_of_ble_eq_true rfl) dX1_startAnew_76 (fun H locs hP hD hS => ?_)
    have hP : va_P D vwCl [(hT, .inr (8, [.ref aC, .ref aG, .ref aI, .ref hB, .int 0, .ref aK, .ref aL, .ref aQ, .int (nI Ch), .int ct])), (aC, .inl ((D.1 101), 75, .inl (itr (fun i a => S_X1_startAnew_2 i a) 75 0 fC))), (aG, .inl ((D.1 101), 25, .inl ((itr (fun i a => S_X1_startAnew_40 i a) 25 0 (fG, fI)).1))), (aI, .inl ((D.1 101), 25, .inl ((itr (fun i a => S_X1_startAnew_40 i a) 25 0 (fG, fI)).2))), (hB, .inr (1, [.ref aY, .int 0, .int ((F_J4_setLength_d00df ml n 0).1), .int (nI ((F_J4_setLength_d00df ml n 0).2))])), (aY, .inl ((D.1 100), cap, .inl fY))] H := hP
    have hD : va_D A [(hT, .inr (8, [.ref aC, .ref aG, .ref aI, .ref hB, .int 0, .ref aK, .ref aL, .ref aQ, .int (nI Ch), .int ct])), (aC, .inl ((D.1 101), 75, .inl (itr (fun i a => S_X1_startAnew_2 i a) 75 0 fC))), (aG, .inl ((D.1 101), 25, .inl ((itr (fun i a => S_X1_startAnew_40 i a) 25 0 (fG, fI)).1))), (aI, .inl ((D.1 101), 25, .inl ((itr (fun i a => S_X1_startAnew_40 i a) 25 0 (fG, fI)).2))), (hB, .inr (1, [.ref aY, .int 0, .int ((F_J4_setLength_d00df ml n 0).1), .int (nI ((F_J4_setLength_d00df ml n 0).2))])), (aY, .inl ((D.1 100), cap, .inl fY))] := hD
    refine lv_aload_n hx hb dX1_startAnew_79 rfl (lv_at hl 0 rfl) ?_
    refine lv_iconst (v := 0) hx hb dX1_startAnew_80 (by decide) ?_
    refine va_put (D := D) (ci := 8) (v := .int 0) (ty := .int) (C := RX1) (T := TX1) (N := 10) hx hb hts in_X1 tyX1 tyX1_ok nmX1 hown hK hP hD hS 0 rfl rfl 8 (by decide) (hts _ q_266) (fun _ h9 => h9) rfl (by decide +kernel) rfl rfl (Nat.le_of_ble_eq_true rfl) dX1_startAnew_81 (fun H locs hP hD hS => ?_)
    have hP : va_P D vwCl [(hT, .inr (8, [.ref aC, .ref aG, .ref aI, .ref hB, .int 0, .ref aK, .ref aL, .ref aQ, .int 0, .int ct])), (aC, .inl ((D.1 101), 75, .inl (itr (fun i a => S_X1_startAnew_2 i a) 75 0 fC))), (aG, .inl ((D.1 101), 25, .inl ((itr (fun i a => S_X1_startAnew_40 i a) 25 0 (fG, fI)).1))), (aI, .inl ((D.1 101), 25, .inl ((itr (fun i a => S_X1_startAnew_40 i a) 25 0 (fG, fI)).2))), (hB, .inr (1, [.ref aY, .int 0, .int ((F_J4_setLength_d00df ml n 0).1), .int (nI ((F_J4_setLength_d00df ml n 0).2))])), (aY, .inl ((D.1 100), cap, .inl fY))] H := hP
    have hD : va_D A [(hT, .inr (8, [.ref aC, .ref aG, .ref aI, .ref hB, .int 0, .ref aK, .ref aL, .ref aQ, .int 0, .int ct])), (aC, .inl ((D.1 101), 75, .inl (itr (fun i a => S_X1_startAnew_2 i a) 75 0 fC))), (aG, .inl ((D.1 101), 25, .inl ((itr (fun i a => S_X1_startAnew_40 i a) 25 0 (fG, fI)).1))), (aI, .inl ((D.1 101), 25, .inl ((itr (fun i a => S_X1_startAnew_40 i a) 25 0 (fG, fI)).2))), (hB, .inr (1, [.ref aY, .int 0, .int ((F_J4_setLength_d00df ml n 0).1), .int (nI ((F_J4_setLength_d00df ml n 0).2))])), (aY, .inl ((D.1 100), cap, .inl fY))] := hD
    refine lv_aload_n hx hb dX1_startAnew_84 rfl (lv_at hl 0 rfl) ?_
    refine lv_iconst (v := 0) hx hb dX1_startAnew_85 (by decide) ?_
    refine va_put (D := D) (ci := 8) (v := .int 0) (ty := .int) (C := RX1) (T := TX1) (N := 10) hx hb hts in_X1 tyX1 tyX1_ok nmX1 hown hK hP hD hS 0 rfl rfl 9 (by decide) (hts _ q_268) (fun _ h9 => h9) rfl (by decide +kernel) rfl rfl (Nat.le_of_ble_eq_true rfl) dX1_startAnew_86 (fun H locs hP hD hS => ?_)
    have hP : va_P D vwCl [(hT, .inr (8, [.ref aC, .ref aG, .ref aI, .ref hB, .int 0, .ref aK, .ref aL, .ref aQ, .int 0, .int 0])), (aC, .inl ((D.1 101), 75, .inl (itr (fun i a => S_X1_startAnew_2 i a) 75 0 fC))), (aG, .inl ((D.1 101), 25, .inl ((itr (fun i a => S_X1_startAnew_40 i a) 25 0 (fG, fI)).1))), (aI, .inl ((D.1 101), 25, .inl ((itr (fun i a => S_X1_startAnew_40 i a) 25 0 (fG, fI)).2))), (hB, .inr (1, [.ref aY, .int 0, .int ((F_J4_setLength_d00df ml n 0).1), .int (nI ((F_J4_setLength_d00df ml n 0).2))])), (aY, .inl ((D.1 100), cap, .inl fY))] H := hP
    have hD : va_D A [(hT, .inr (8, [.ref aC, .ref aG, .ref aI, .ref hB, .int 0, .ref aK, .ref aL, .ref aQ, .int 0, .int 0])), (aC, .inl ((D.1 101), 75, .inl (itr (fun i a => S_X1_startAnew_2 i a) 75 0 fC))), (aG, .inl ((D.1 101), 25, .inl ((itr (fun i a => S_X1_startAnew_40 i a) 25 0 (fG, fI)).1))), (aI, .inl ((D.1 101), 25, .inl ((itr (fun i a => S_X1_startAnew_40 i a) 25 0 (fG, fI)).2))), (hB, .inr (1, [.ref aY, .int 0, .int ((F_J4_setLength_d00df ml n 0).1), .int (nI ((F_J4_setLength_d00df ml n 0).2))])), (aY, .inl ((D.1 100), cap, .inl fY))] := hD
    subst hQe
    subst hAe
    have hE : (F_X1_startAnew fC fG fI ml n) = ((itr (fun i a => S_X1_startAnew_2 i a) 75 0 fC), (itr (fun i a => S_X1_startAnew_40 i a) 25 0 (fG, fI)).1, (itr (fun i a => S_X1_startAnew_40 i a) 25 0 (fG, fI)).2, (F_J4_setLength_d00df ml n 0).1, ((F_J4_setLength_d00df ml n 0).2), 0, 0, 0) := (by rfl)
    have hP9 := hP.sub (ws' := [(hT, .inr (8, [.ref aC, .ref aG, .ref aI, .ref hB, .int 0, .ref aK, .ref aL, .ref aQ, .int 0, .int 0])), (aC, .inl ((D.1 101), 75, .inl (itr (fun i a => S_X1_startAnew_2 i a) 75 0 fC))), (aG, .inl ((D.1 101), 25, .inl ((itr (fun i a => S_X1_startAnew_40 i a) 25 0 (fG, fI)).1))), (aI, .inl ((D.1 101), 25, .inl ((itr (fun i a => S_X1_startAnew_40 i a) 25 0 (fG, fI)).2))), (hB, .inr (1, [.ref aY, .int 0, .int ((F_J4_setLength_d00df ml n 0).1), .int (nI ((F_J4_setLength_d00df ml n 0).2))])), (aY, .inl ((D.1 100), cap, .inl fY))]) [0, 1, 2, 3, 4, 5] rfl
    have hD9 := hD.sub (ws' := [(hT, .inr (8, [.ref aC, .ref aG, .ref aI, .ref hB, .int 0, .ref aK, .ref aL, .ref aQ, .int 0, .int 0])), (aC, .inl ((D.1 101), 75, .inl (itr (fun i a => S_X1_startAnew_2 i a) 75 0 fC))), (aG, .inl ((D.1 101), 25, .inl ((itr (fun i a => S_X1_startAnew_40 i a) 25 0 (fG, fI)).1))), (aI, .inl ((D.1 101), 25, .inl ((itr (fun i a => S_X1_startAnew_40 i a) 25 0 (fG, fI)).2))), (hB, .inr (1, [.ref aY, .int 0, .int ((F_J4_setLength_d00df ml n 0).1), .int (nI ((F_J4_setLength_d00df ml n 0).2))])), (aY, .inl ((D.1 100), cap, .inl fY))]) [0, 1, 2, 3, 4, 5] (by decide) rfl
    exact W.vret hx hb hr (fun t ht hW => ⟨⟨(), rfl, trivial, (by (try rw [hE]); rw [ht]; exact hP9), (by (try rw [hE]); exact hD9)⟩, hS.F ht⟩) hS.2.2 dX1_startAnew_89
  rw [hHe, hLe] at hgoal
  exact hgoal


set_option maxHeartbeats 4000000 in
set_option maxRecDepth 100000 in
theorem c_X3_init (l : Launch) (D : va_G) (hW : Nat) (w0 : Int32) (w1 : Int32) (w2 : Int32) (w3 : Int32) (w4 : Int32) (w5 : Int32) (w6 : Int32) (sz : Nat)  : Met l yX3_init (Cond.code yX3_init cX3_init 1 none :: lwAll) ({ frames := 1, cells := 0, slots := 0, locals := 12 } : Room) (va_Pc [.ref hW] (cPre D (lwTY D) [(hW, .inr (10, [.int w0, .int w1, .int w2, .int w3, .int w4, .int w5, .int w6]))] sz)) (va_Qv (fun (_ : Unit) => True) (fun _ _ => True) (fun q : Nat => sz ≤ q)) 0 0 (fun q : Nat => sz ≤ q) := by
  refine Met.ofW (cc := cX3_init) (maxL := 1) (ret := none) (by decide) rfl ?_
  intro p e s m args below meth c s₁ B hml hv
  obtain ⟨rfl, hsz, hP, hK, hD0, hN, hZ⟩ := hv
  have hx := B.exec
  have hb := B.bytes
  have hr := B.returns
  have hts : ∀ wd ∈ lwAll, wd.before ([.ref hW] : List Value).toArray s = true := fun wd h => atoms_spec (ws := (Cond.code yX3_init cX3_init 1 none :: lwAll)) B.pre wd (List.mem_cons_of_mem _ h)
  have hown : s.vm.findClass RX3 = some m.cls := findClass_of_methodNamed B.named
  have hlocks := B.notSynchronized
  have hin : meth.name = "<init>" := (name_of_methodNamed B.named B.method).1
  subst hsz
  have hD := hD0.self (sz := s.heap.size)
  have hl := lv_entry ([.ref hW]) (n := 1) (Nat.le_of_ble_eq_true rfl)
  rw [lg_entry_eq]
  generalize (lg_sl ([.ref hW]) ++ List.replicate (1 - (lg_sl ([.ref hW])).length) Slot.unset).toArray = ls at hl ⊢
  have hl : lv_has ls 1 [(0, .ref hW)] := hl
  have hS : va_S (fun q : Nat => s.heap.size ≤ q) s.heap s.heap [] := va_S.rf
  generalize hQe : MQ below (va_Qv (fun (_ : Unit) => True) (fun _ _ => True) (fun q : Nat => s.heap.size ≤ q)) ([.ref hW] : List Value).toArray s 0 0 (fun q : Nat => s.heap.size ≤ q) = Q
  have hP : va_P D vwCl [(hW, .inr (10, [.int w0, .int w1, .int w2, .int w3, .int w4, .int w5, .int w6]))] s.heap := hP
  obtain ⟨A, hAe⟩ : ∃ A, A = va_A [(hW, .inr (10, [.int w0, .int w1, .int w2, .int w3, .int w4, .int w5, .int w6]))] s.heap.size := ⟨_, rfl⟩
  rw [← hAe] at hD hZ
  have hA : ∀ q : Nat, s.heap.size ≤ q → A q := fun q h => by rw [hAe]; exact Or.inr h
  obtain ⟨H, hHe⟩ : ∃ H, H = s.heap := ⟨_, rfl⟩
  obtain ⟨locs, hLe⟩ : ∃ L : List Loc, L = [] := ⟨_, rfl⟩
  have hP : va_P D vwCl [(hW, .inr (10, [.int w0, .int w1, .int w2, .int w3, .int w4, .int w5, .int w6]))] H := by rw [hHe]; exact hP
  have hS : va_S (fun q : Nat => s.heap.size ≤ q) s.heap H locs := by rw [hHe, hLe]; exact hS
  have hgoal : W p l e ({ frames := 1, cells := 0, slots := 0, locals := 12 } : Room) s m ([.ref hW] : List Value).toArray below meth c H locs 0 0 Q (F0 m 0 ls []) := by
    clear hHe hLe
    refine lv_aload_n hx hb dX3_init_0 rfl (lv_at hl 0 rfl) ?_
    refine W.objInit hx hb hown (hts _ q_127) (hts _ q_120) (hts _ q_121) rfl (by rw [hml]; exact hl.1) rfl dX3_init_1 (Nat.le_of_ble_eq_true rfl) (Nat.le_of_ble_eq_true rfl) ?_
    refine W.eq (g2 := F0 m 4 ls []) rfl ?_
    subst hQe
    exact W.vret hx hb hr (fun t ht hW => ⟨⟨(), rfl, trivial, trivial⟩, hS.F ht⟩) hS.2.2 dX3_init_4
  rw [hHe, hLe] at hgoal
  exact hgoal


set_option maxHeartbeats 4000000 in
set_option maxRecDepth 100000 in
theorem c_X0_init (l : Launch) (D : va_G) (hF : Nat) (sz : Nat)  : Met l yX0_init (Cond.code yX0_init cX0_init 1 none :: lwAll) ({ frames := 1, cells := 4, slots := 100, locals := 12 } : Room) (va_Pc [.ref hF] (cPre D (lwTY D) [(hF, .inr (7, [.null, .null, .null, .null, .int 0, .int 0]))] sz)) (va_Qv (fun (_ : Nat × Nat × Nat × Nat) => True) (fun (u : Nat × Nat × Nat × Nat) t => va_P D vwCl [(hF, .inr (7, [.ref u.1, .ref u.2.1, .ref u.2.2.1, .ref u.2.2.2, .int 0, .int 23])), (u.1, .inl ((D.1 101), 25, .inl (fun _ => 0))), (u.2.1, .inl ((D.1 101), 25, .inl (fun _ => 0))), (u.2.2.1, .inl ((D.1 101), 25, .inl (fun _ => 0))), (u.2.2.2, .inl ((D.1 101), 25, .inl (fun _ => 0)))] t.heap ∧ va_D (va_A [(hF, .inr (7, [.null, .null, .null, .null, .int 0, .int 0]))] sz) [(hF, .inr (7, [.ref u.1, .ref u.2.1, .ref u.2.2.1, .ref u.2.2.2, .int 0, .int 23])), (u.1, .inl ((D.1 101), 25, .inl (fun _ => 0))), (u.2.1, .inl ((D.1 101), 25, .inl (fun _ => 0))), (u.2.2.1, .inl ((D.1 101), 25, .inl (fun _ => 0))), (u.2.2.2, .inl ((D.1 101), 25, .inl (fun _ => 0)))]) (va_A [(hF, .inr (7, [.null, .null, .null, .null, .int 0, .int 0]))] sz)) 4 100 (va_A [(hF, .inr (7, [.null, .null, .null, .null, .int 0, .int 0]))] sz) := by
  refine Met.ofW (cc := cX0_init) (maxL := 1) (ret := none) (by decide) rfl ?_
  intro p e s m args below meth c s₁ B hml hv
  obtain ⟨rfl, hsz, hP, hK, hD0, hN, hZ⟩ := hv
  have hx := B.exec
  have hb := B.bytes
  have hr := B.returns
  have hts : ∀ wd ∈ lwAll, wd.before ([.ref hF] : List Value).toArray s = true := fun wd h => atoms_spec (ws := (Cond.code yX0_init cX0_init 1 none :: lwAll)) B.pre wd (List.mem_cons_of_mem _ h)
  have hown : s.vm.findClass RX0 = some m.cls := findClass_of_methodNamed B.named
  have hlocks := B.notSynchronized
  have hin : meth.name = "<init>" := (name_of_methodNamed B.named B.method).1
  subst hsz
  have hD := hD0.self (sz := s.heap.size)
  have hl := lv_entry ([.ref hF]) (n := 1) (Nat.le_of_ble_eq_true rfl)
  rw [lg_entry_eq]
  generalize (lg_sl ([.ref hF]) ++ List.replicate (1 - (lg_sl ([.ref hF])).length) Slot.unset).toArray = ls at hl ⊢
  have hl : lv_has ls 1 [(0, .ref hF)] := hl
  have hS : va_S (va_A [(hF, .inr (7, [.null, .null, .null, .null, .int 0, .int 0]))] s.heap.size) s.heap s.heap [] := va_S.rf
  generalize hQe : MQ below (va_Qv (fun (_ : Nat × Nat × Nat × Nat) => True) (fun (u : Nat × Nat × Nat × Nat) t => va_P D vwCl [(hF, .inr (7, [.ref u.1, .ref u.2.1, .ref u.2.2.1, .ref u.2.2.2, .int 0, .int 23])), (u.1, .inl ((D.1 101), 25, .inl (fun _ => 0))), (u.2.1, .inl ((D.1 101), 25, .inl (fun _ => 0))), (u.2.2.1, .inl ((D.1 101), 25, .inl (fun _ => 0))), (u.2.2.2, .inl ((D.1 101), 25, .inl (fun _ => 0)))] t.heap ∧ va_D (va_A [(hF, .inr (7, [.null, .null, .null, .null, .int 0, .int 0]))] s.heap.size) [(hF, .inr (7, [.ref u.1, .ref u.2.1, .ref u.2.2.1, .ref u.2.2.2, .int 0, .int 23])), (u.1, .inl ((D.1 101), 25, .inl (fun _ => 0))), (u.2.1, .inl ((D.1 101), 25, .inl (fun _ => 0))), (u.2.2.1, .inl ((D.1 101), 25, .inl (fun _ => 0))), (u.2.2.2, .inl ((D.1 101), 25, .inl (fun _ => 0)))]) (va_A [(hF, .inr (7, [.null, .null, .null, .null, .int 0, .int 0]))] s.heap.size)) ([.ref hF] : List Value).toArray s 4 100 (va_A [(hF, .inr (7, [.null, .null, .null, .null, .int 0, .int 0]))] s.heap.size) = Q
  have hP : va_P D vwCl [(hF, .inr (7, [.null, .null, .null, .null, .int 0, .int 0]))] s.heap := hP
  obtain ⟨A, hAe⟩ : ∃ A, A = va_A [(hF, .inr (7, [.null, .null, .null, .null, .int 0, .int 0]))] s.heap.size := ⟨_, rfl⟩
  rw [← hAe] at hD hZ hS
  have hA : ∀ q : Nat, s.heap.size ≤ q → A q := fun q h => by rw [hAe]; exact Or.inr h
  obtain ⟨H, hHe⟩ : ∃ H, H = s.heap := ⟨_, rfl⟩
  obtain ⟨locs, hLe⟩ : ∃ L : List Loc, L = [] := ⟨_, rfl⟩
  have hP : va_P D vwCl [(hF, .inr (7, [.null, .null, .null, .null, .int 0, .int 0]))] H := by rw [hHe]; exact hP
  have hS : va_S A s.heap H locs := by rw [hHe, hLe]; exact hS
  have hgoal : W p l e ({ frames := 1, cells := 4, slots := 100, locals := 12 } : Room) s m ([.ref hF] : List Value).toArray below meth c H locs 0 0 Q (F0 m 0 ls []) := by
    clear hHe hLe
    refine lv_aload_n hx hb dX0_init_0 rfl (lv_at hl 0 rfl) ?_
    refine W.objInit hx hb hown (hts _ q_161) (hts _ q_120) (hts _ q_121) rfl (by rw [hml]; exact hl.1) rfl dX0_init_1 (Nat.le_of_ble_eq_true rfl) (Nat.le_of_ble_eq_true rfl) ?_
    refine W.eq (g2 := F0 m 4 ls []) rfl ?_
    refine lv_aload_n hx hb dX0_init_4 rfl (lv_at hl 0 rfl) ?_
    refine lv_bipush (v := 25) hx hb dX0_init_5 (by decide) ?_
    refine va_newI hx hb (hts _ q_187) hK hP hD hS hA (N' := 25) (by decide) rfl (by omega) (show 0 + 1 ≤ 4 from (by omega)) (show 0 + 25 ≤ 100 from (by omega)) dX0_init_7 (fun y_7 H hqe hP hD hS => ?_)
    clear hqe
    have hP : va_P D vwCl [(hF, .inr (7, [.null, .null, .null, .null, .int 0, .int 0])), (y_7, .inl ((D.1 101), 25, .inl (fun _ => 0)))] H := hP
    have hD : va_D A [(hF, .inr (7, [.null, .null, .null, .null, .int 0, .int 0])), (y_7, .inl ((D.1 101), 25, .inl (fun _ => 0)))] := hD
    refine va_putF (D := D) (ci := 7) (v := .ref y_7) (ty := (.array .int)) (C := RX0) (T := TX0) (N := 6) hx hb hts in_X0 tyX0 tyX0_ok nmX0 hown hK hP hD hS 0 rfl rfl 0 (by decide) (hts _ q_162) (fun _ h9 => h9) rfl hin rfl (by decide +kernel) rfl rfl (Nat.le_of_ble_eq_true rfl) dX0_init_9 (fun H locs hP hD hS => ?_)
    have hP : va_P D vwCl [(hF, .inr (7, [.ref y_7, .null, .null, .null, .int 0, .int 0])), (y_7, .inl ((D.1 101), 25, .inl (fun _ => 0)))] H := hP
    have hD : va_D A [(hF, .inr (7, [.ref y_7, .null, .null, .null, .int 0, .int 0])), (y_7, .inl ((D.1 101), 25, .inl (fun _ => 0)))] := hD
    refine lv_aload_n hx hb dX0_init_12 rfl (lv_at hl 0 rfl) ?_
    refine lv_bipush (v := 25) hx hb dX0_init_13 (by decide) ?_
    refine va_newI hx hb (hts _ q_187) hK hP hD hS hA (N' := 25) (by decide) rfl (by omega) (show (0 + 1) + 1 ≤ 4 from (by omega)) (show (0 + 25) + 25 ≤ 100 from (by omega)) dX0_init_15 (fun y_15 H hqe hP hD hS => ?_)
    clear hqe
    have hP : va_P D vwCl [(hF, .inr (7, [.ref y_7, .null, .null, .null, .int 0, .int 0])), (y_7, .inl ((D.1 101), 25, .inl (fun _ => 0))), (y_15, .inl ((D.1 101), 25, .inl (fun _ => 0)))] H := hP
    have hD : va_D A [(hF, .inr (7, [.ref y_7, .null, .null, .null, .int 0, .int 0])), (y_7, .inl ((D.1 101), 25, .inl (fun _ => 0))), (y_15, .inl ((D.1 101), 25, .inl (fun _ => 0)))] := hD
    refine va_putF (D := D) (ci := 7) (v := .ref y_15) (ty := (.array .int)) (C := RX0) (T := TX0) (N := 6) hx hb hts in_X0 tyX0 tyX0_ok nmX0 hown hK hP hD hS 0 rfl rfl 1 (by decide) (hts _ q_164) (fun _ h9 => h9) rfl hin rfl (by decide +kernel) rfl rfl (Nat.le_of_ble_eq_true rfl) dX0_init_17 (fun H locs hP hD hS => ?_)
    have hP : va_P D vwCl [(hF, .inr (7, [.ref y_7, .ref y_15, .null, .null, .int 0, .int 0])), (y_7, .inl ((D.1 101), 25, .inl (fun _ => 0))), (y_15, .inl ((D.1 101), 25, .inl (fun _ => 0)))] H := hP
    have hD : va_D A [(hF, .inr (7, [.ref y_7, .ref y_15, .null, .null, .int 0, .int 0])), (y_7, .inl ((D.1 101), 25, .inl (fun _ => 0))), (y_15, .inl ((D.1 101), 25, .inl (fun _ => 0)))] := hD
    refine lv_aload_n hx hb dX0_init_20 rfl (lv_at hl 0 rfl) ?_
    refine lv_bipush (v := 25) hx hb dX0_init_21 (by decide) ?_
    refine va_newI hx hb (hts _ q_187) hK hP hD hS hA (N' := 25) (by decide) rfl (by omega) (show ((0 + 1) + 1) + 1 ≤ 4 from (by omega)) (show ((0 + 25) + 25) + 25 ≤ 100 from (by omega)) dX0_init_23 (fun y_23 H hqe hP hD hS => ?_)
    clear hqe
    have hP : va_P D vwCl [(hF, .inr (7, [.ref y_7, .ref y_15, .null, .null, .int 0, .int 0])), (y_7, .inl ((D.1 101), 25, .inl (fun _ => 0))), (y_15, .inl ((D.1 101), 25, .inl (fun _ => 0))), (y_23, .inl ((D.1 101), 25, .inl (fun _ => 0)))] H := hP
    have hD : va_D A [(hF, .inr (7, [.ref y_7, .ref y_15, .null, .null, .int 0, .int 0])), (y_7, .inl ((D.1 101), 25, .inl (fun _ => 0))), (y_15, .inl ((D.1 101), 25, .inl (fun _ => 0))), (y_23, .inl ((D.1 101), 25, .inl (fun _ => 0)))] := hD
    refine va_putF (D := D) (ci := 7) (v := .ref y_23) (ty := (.array .int)) (C := RX0) (T := TX0) (N := 6) hx hb hts in_X0 tyX0 tyX0_ok nmX0 hown hK hP hD hS 0 rfl rfl 2 (by decide) (hts _ q_166) (fun _ h9 => h9) rfl hin rfl (by decide +kernel) rfl rfl (Nat.le_of_ble_eq_true rfl) dX0_init_25 (fun H locs hP hD hS => ?_)
    have hP : va_P D vwCl [(hF, .inr (7, [.ref y_7, .ref y_15, .ref y_23, .null, .int 0, .int 0])), (y_7, .inl ((D.1 101), 25, .inl (fun _ => 0))), (y_15, .inl ((D.1 101), 25, .inl (fun _ => 0))), (y_23, .inl ((D.1 101), 25, .inl (fun _ => 0)))] H := hP
    have hD : va_D A [(hF, .inr (7, [.ref y_7, .ref y_15, .ref y_23, .null, .int 0, .int 0])), (y_7, .inl ((D.1 101), 25, .inl (fun _ => 0))), (y_15, .inl ((D.1 101), 25, .inl (fun _ => 0))), (y_23, .inl ((D.1 101), 25, .inl (fun _ => 0)))] := hD
    refine lv_aload_n hx hb dX0_init_28 rfl (lv_at hl 0 rfl) ?_
    refine lv_bipush (v := 25) hx hb dX0_init_29 (by decide) ?_
    refine va_newI hx hb (hts _ q_187) hK hP hD hS hA (N' := 25) (by decide) rfl (by omega) (show (((0 + 1) + 1) + 1) + 1 ≤ 4 from (by omega)) (show (((0 + 25) + 25) + 25) + 25 ≤ 100 from (by omega)) dX0_init_31 (fun y_31 H hqe hP hD hS => ?_)
    clear hqe
    have hP : va_P D vwCl [(hF, .inr (7, [.ref y_7, .ref y_15, .ref y_23, .null, .int 0, .int 0])), (y_7, .inl ((D.1 101), 25, .inl (fun _ => 0))), (y_15, .inl ((D.1 101), 25, .inl (fun _ => 0))), (y_23, .inl ((D.1 101), 25, .inl (fun _ => 0))), (y_31, .inl ((D.1 101), 25, .inl (fun _ => 0)))] H := hP
    have hD : va_D A [(hF, .inr (7, [.ref y_7, .ref y_15, .ref y_23, .null, .int 0, .int 0])), (y_7, .inl ((D.1 101), 25, .inl (fun _ => 0))), (y_15, .inl ((D.1 101), 25, .inl (fun _ => 0))), (y_23, .inl ((D.1 101), 25, .inl (fun _ => 0))), (y_31, .inl ((D.1 101), 25, .inl (fun _ => 0)))] := hD
    refine va_putF (D := D) (ci := 7) (v := .ref y_31) (ty := (.array .int)) (C := RX0) (T := TX0) (N := 6) hx hb hts in_X0 tyX0 tyX0_ok nmX0 hown hK hP hD hS 0 rfl rfl 3 (by decide) (hts _ q_168) (fun _ h9 => h9) rfl hin rfl (by decide +kernel) rfl rfl (Nat.le_of_ble_eq_true rfl) dX0_init_33 (fun H locs hP hD hS => ?_)
    have hP : va_P D vwCl [(hF, .inr (7, [.ref y_7, .ref y_15, .ref y_23, .ref y_31, .int 0, .int 0])), (y_7, .inl ((D.1 101), 25, .inl (fun _ => 0))), (y_15, .inl ((D.1 101), 25, .inl (fun _ => 0))), (y_23, .inl ((D.1 101), 25, .inl (fun _ => 0))), (y_31, .inl ((D.1 101), 25, .inl (fun _ => 0)))] H := hP
    have hD : va_D A [(hF, .inr (7, [.ref y_7, .ref y_15, .ref y_23, .ref y_31, .int 0, .int 0])), (y_7, .inl ((D.1 101), 25, .inl (fun _ => 0))), (y_15, .inl ((D.1 101), 25, .inl (fun _ => 0))), (y_23, .inl ((D.1 101), 25, .inl (fun _ => 0))), (y_31, .inl ((D.1 101), 25, .inl (fun _ => 0)))] := hD
    refine lv_aload_n hx hb dX0_init_36 rfl (lv_at hl 0 rfl) ?_
    refine lv_iconst (v := 0) hx hb dX0_init_37 (by decide) ?_
    refine va_put (D := D) (ci := 7) (v := .int 0) (ty := .int) (C := RX0) (T := TX0) (N := 6) hx hb hts in_X0 tyX0 tyX0_ok nmX0 hown hK hP hD hS 0 rfl rfl 4 (by decide) (hts _ q_170) (fun _ h9 => h9) rfl (by decide +kernel) rfl rfl (Nat.le_of_ble_eq_true rfl) dX0_init_38 (fun H locs hP hD hS => ?_)
    have hP : va_P D vwCl [(hF, .inr (7, [.ref y_7, .ref y_15, .ref y_23, .ref y_31, .int 0, .int 0])), (y_7, .inl ((D.1 101), 25, .inl (fun _ => 0))), (y_15, .inl ((D.1 101), 25, .inl (fun _ => 0))), (y_23, .inl ((D.1 101), 25, .inl (fun _ => 0))), (y_31, .inl ((D.1 101), 25, .inl (fun _ => 0)))] H := hP
    have hD : va_D A [(hF, .inr (7, [.ref y_7, .ref y_15, .ref y_23, .ref y_31, .int 0, .int 0])), (y_7, .inl ((D.1 101), 25, .inl (fun _ => 0))), (y_15, .inl ((D.1 101), 25, .inl (fun _ => 0))), (y_23, .inl ((D.1 101), 25, .inl (fun _ => 0))), (y_31, .inl ((D.1 101), 25, .inl (fun _ => 0)))] := hD
    refine lv_aload_n hx hb dX0_init_41 rfl (lv_at hl 0 rfl) ?_
    refine lv_bipush (v := 23) hx hb dX0_init_42 (by decide) ?_
    refine va_put (D := D) (ci := 7) (v := .int 23) (ty := .int) (C := RX0) (T := TX0) (N := 6) hx hb hts in_X0 tyX0 tyX0_ok nmX0 hown hK hP hD hS 0 rfl rfl 5 (by decide) (hts _ q_172) (fun _ h9 => h9) rfl (by decide +kernel) rfl rfl (Nat.le_of_ble_eq_true rfl) dX0_init_44 (fun H locs hP hD hS => ?_)
    have hP : va_P D vwCl [(hF, .inr (7, [.ref y_7, .ref y_15, .ref y_23, .ref y_31, .int 0, .int 23])), (y_7, .inl ((D.1 101), 25, .inl (fun _ => 0))), (y_15, .inl ((D.1 101), 25, .inl (fun _ => 0))), (y_23, .inl ((D.1 101), 25, .inl (fun _ => 0))), (y_31, .inl ((D.1 101), 25, .inl (fun _ => 0)))] H := hP
    have hD : va_D A [(hF, .inr (7, [.ref y_7, .ref y_15, .ref y_23, .ref y_31, .int 0, .int 23])), (y_7, .inl ((D.1 101), 25, .inl (fun _ => 0))), (y_15, .inl ((D.1 101), 25, .inl (fun _ => 0))), (y_23, .inl ((D.1 101), 25, .inl (fun _ => 0))), (y_31, .inl ((D.1 101), 25, .inl (fun _ => 0)))] := hD
    subst hQe
    subst hAe
    refine W.widen (k := 4) (n := 100) (by omega) (by omega) ?_
    have hP9 := hP.sub (ws' := [(hF, .inr (7, [.ref y_7, .ref y_15, .ref y_23, .ref y_31, .int 0, .int 23])), (y_7, .inl ((D.1 101), 25, .inl (fun _ => 0))), (y_15, .inl ((D.1 101), 25, .inl (fun _ => 0))), (y_23, .inl ((D.1 101), 25, .inl (fun _ => 0))), (y_31, .inl ((D.1 101), 25, .inl (fun _ => 0)))]) [0, 1, 2, 3, 4] rfl
    have hD9 := hD.sub (ws' := [(hF, .inr (7, [.ref y_7, .ref y_15, .ref y_23, .ref y_31, .int 0, .int 23])), (y_7, .inl ((D.1 101), 25, .inl (fun _ => 0))), (y_15, .inl ((D.1 101), 25, .inl (fun _ => 0))), (y_23, .inl ((D.1 101), 25, .inl (fun _ => 0))), (y_31, .inl ((D.1 101), 25, .inl (fun _ => 0)))]) [0, 1, 2, 3, 4] (by decide) rfl
    exact W.vret hx hb hr (fun t ht hW => ⟨⟨(y_7, y_15, y_23, y_31), rfl, trivial, (by rw [ht]; exact hP9), (hD9)⟩, hS.F ht⟩) hS.2.2 dX0_init_47
  rw [hHe, hLe] at hgoal
  exact hgoal


set_option maxHeartbeats 4000000 in
set_option maxRecDepth 100000 in
theorem c_X2_init (l : Launch) (D : va_G) (hA_ : Nat) (sz : Nat)  : Met l yX2_init (Cond.code yX2_init cX2_init 1 none :: lwAll) ({ frames := 1, cells := 3, slots := 75, locals := 12 } : Room) (va_Pc [.ref hA_] (cPre D (lwTY D) [(hA_, .inr (9, [.null, .null, .null, .int 0, .int 0]))] sz)) (va_Qv (fun (_ : Nat × Nat × Nat) => True) (fun (u : Nat × Nat × Nat) t => va_P D vwCl [(hA_, .inr (9, [.ref u.1, .ref u.2.1, .ref u.2.2, .int 0, .int 0])), (u.1, .inl ((D.1 101), 25, .inl (fun _ => 0))), (u.2.1, .inl ((D.1 101), 25, .inl (fun _ => 0))), (u.2.2, .inl ((D.1 101), 25, .inl (fun _ => 0)))] t.heap ∧ va_D (va_A [(hA_, .inr (9, [.null, .null, .null, .int 0, .int 0]))] sz) [(hA_, .inr (9, [.ref u.1, .ref u.2.1, .ref u.2.2, .int 0, .int 0])), (u.1, .inl ((D.1 101), 25, .inl (fun _ => 0))), (u.2.1, .inl ((D.1 101), 25, .inl (fun _ => 0))), (u.2.2, .inl ((D.1 101), 25, .inl (fun _ => 0)))]) (va_A [(hA_, .inr (9, [.null, .null, .null, .int 0, .int 0]))] sz)) 3 75 (va_A [(hA_, .inr (9, [.null, .null, .null, .int 0, .int 0]))] sz) := by
  refine Met.ofW (cc := cX2_init) (maxL := 1) (ret := none) (by decide) rfl ?_
  intro p e s m args below meth c s₁ B hml hv
  obtain ⟨rfl, hsz, hP, hK, hD0, hN, hZ⟩ := hv
  have hx := B.exec
  have hb := B.bytes
  have hr := B.returns
  have hts : ∀ wd ∈ lwAll, wd.before ([.ref hA_] : List Value).toArray s = true := fun wd h => atoms_spec (ws := (Cond.code yX2_init cX2_init 1 none :: lwAll)) B.pre wd (List.mem_cons_of_mem _ h)
  have hown : s.vm.findClass RX2 = some m.cls := findClass_of_methodNamed B.named
  have hlocks := B.notSynchronized
  have hin : meth.name = "<init>" := (name_of_methodNamed B.named B.method).1
  subst hsz
  have hD := hD0.self (sz := s.heap.size)
  have hl := lv_entry ([.ref hA_]) (n := 1) (Nat.le_of_ble_eq_true rfl)
  rw [lg_entry_eq]
  generalize (lg_sl ([.ref hA_]) ++ List.replicate (1 - (lg_sl ([.ref hA_])).length) Slot.unset).toArray = ls at hl ⊢
  have hl : lv_has ls 1 [(0, .ref hA_)] := hl
  have hS : va_S (va_A [(hA_, .inr (9, [.null, .null, .null, .int 0, .int 0]))] s.heap.size) s.heap s.heap [] := va_S.rf
  generalize hQe : MQ below (va_Qv (fun (_ : Nat × Nat × Nat) => True) (fun (u : Nat × Nat × Nat) t => va_P D vwCl [(hA_, .inr (9, [.ref u.1, .ref u.2.1, .ref u.2.2, .int 0, .int 0])), (u.1, .inl ((D.1 101), 25, .inl (fun _ => 0))), (u.2.1, .inl ((D.1 101), 25, .inl (fun _ => 0))), (u.2.2, .inl ((D.1 101), 25, .inl (fun _ => 0)))] t.heap ∧ va_D (va_A [(hA_, .inr (9, [.null, .null, .null, .int 0, .int 0]))] s.heap.size) [(hA_, .inr (9, [.ref u.1, .ref u.2.1, .ref u.2.2, .int 0, .int 0])), (u.1, .inl ((D.1 101), 25, .inl (fun _ => 0))), (u.2.1, .inl ((D.1 101), 25, .inl (fun _ => 0))), (u.2.2, .inl ((D.1 101), 25, .inl (fun _ => 0)))]) (va_A [(hA_, .inr (9, [.null, .null, .null, .int 0, .int 0]))] s.heap.size)) ([.ref hA_] : List Value).toArray s 3 75 (va_A [(hA_, .inr (9, [.null, .null, .null, .int 0, .int 0]))] s.heap.size) = Q
  have hP : va_P D vwCl [(hA_, .inr (9, [.null, .null, .null, .int 0, .int 0]))] s.heap := hP
  obtain ⟨A, hAe⟩ : ∃ A, A = va_A [(hA_, .inr (9, [.null, .null, .null, .int 0, .int 0]))] s.heap.size := ⟨_, rfl⟩
  rw [← hAe] at hD hZ hS
  have hA : ∀ q : Nat, s.heap.size ≤ q → A q := fun q h => by rw [hAe]; exact Or.inr h
  obtain ⟨H, hHe⟩ : ∃ H, H = s.heap := ⟨_, rfl⟩
  obtain ⟨locs, hLe⟩ : ∃ L : List Loc, L = [] := ⟨_, rfl⟩
  have hP : va_P D vwCl [(hA_, .inr (9, [.null, .null, .null, .int 0, .int 0]))] H := by rw [hHe]; exact hP
  have hS : va_S A s.heap H locs := by rw [hHe, hLe]; exact hS
  have hgoal : W p l e ({ frames := 1, cells := 3, slots := 75, locals := 12 } : Room) s m ([.ref hA_] : List Value).toArray below meth c H locs 0 0 Q (F0 m 0 ls []) := by
    clear hHe hLe
    refine lv_aload_n hx hb dX2_init_0 rfl (lv_at hl 0 rfl) ?_
    refine W.objInit hx hb hown (hts _ q_193) (hts _ q_120) (hts _ q_121) rfl (by rw [hml]; exact hl.1) rfl dX2_init_1 (Nat.le_of_ble_eq_true rfl) (Nat.le_of_ble_eq_true rfl) ?_
    refine W.eq (g2 := F0 m 4 ls []) rfl ?_
    refine lv_aload_n hx hb dX2_init_4 rfl (lv_at hl 0 rfl) ?_
    refine lv_bipush (v := 25) hx hb dX2_init_5 (by decide) ?_
    refine va_newI hx hb (hts _ q_187) hK hP hD hS hA (N' := 25) (by decide) rfl (by omega) (show 0 + 1 ≤ 3 from (by omega)) (show 0 + 25 ≤ 75 from (by omega)) dX2_init_7 (fun y_7 H hqe hP hD hS => ?_)
    clear hqe
    have hP : va_P D vwCl [(hA_, .inr (9, [.null, .null, .null, .int 0, .int 0])), (y_7, .inl ((D.1 101), 25, .inl (fun _ => 0)))] H := hP
    have hD : va_D A [(hA_, .inr (9, [.null, .null, .null, .int 0, .int 0])), (y_7, .inl ((D.1 101), 25, .inl (fun _ => 0)))] := hD
    refine va_putF (D := D) (ci := 9) (v := .ref y_7) (ty := (.array .int)) (C := RX2) (T := TX2) (N := 5) hx hb hts in_X2 tyX2 tyX2_ok nmX2 hown hK hP hD hS 0 rfl rfl 0 (by decide) (hts _ q_194) (fun _ h9 => h9) rfl hin rfl (by decide +kernel) rfl rfl (Nat.le_of_ble_eq_true rfl) dX2_init_9 (fun H locs hP hD hS => ?_)
    have hP : va_P D vwCl [(hA_, .inr (9, [.ref y_7, .null, .null, .int 0, .int 0])), (y_7, .inl ((D.1 101), 25, .inl (fun _ => 0)))] H := hP
    have hD : va_D A [(hA_, .inr (9, [.ref y_7, .null, .null, .int 0, .int 0])), (y_7, .inl ((D.1 101), 25, .inl (fun _ => 0)))] := hD
    refine lv_aload_n hx hb dX2_init_12 rfl (lv_at hl 0 rfl) ?_
    refine lv_bipush (v := 25) hx hb dX2_init_13 (by decide) ?_
    refine va_newI hx hb (hts _ q_187) hK hP hD hS hA (N' := 25) (by decide) rfl (by omega) (show (0 + 1) + 1 ≤ 3 from (by omega)) (show (0 + 25) + 25 ≤ 75 from (by omega)) dX2_init_15 (fun y_15 H hqe hP hD hS => ?_)
    clear hqe
    have hP : va_P D vwCl [(hA_, .inr (9, [.ref y_7, .null, .null, .int 0, .int 0])), (y_7, .inl ((D.1 101), 25, .inl (fun _ => 0))), (y_15, .inl ((D.1 101), 25, .inl (fun _ => 0)))] H := hP
    have hD : va_D A [(hA_, .inr (9, [.ref y_7, .null, .null, .int 0, .int 0])), (y_7, .inl ((D.1 101), 25, .inl (fun _ => 0))), (y_15, .inl ((D.1 101), 25, .inl (fun _ => 0)))] := hD
    refine va_putF (D := D) (ci := 9) (v := .ref y_15) (ty := (.array .int)) (C := RX2) (T := TX2) (N := 5) hx hb hts in_X2 tyX2 tyX2_ok nmX2 hown hK hP hD hS 0 rfl rfl 1 (by decide) (hts _ q_196) (fun _ h9 => h9) rfl hin rfl (by decide +kernel) rfl rfl (Nat.le_of_ble_eq_true rfl) dX2_init_17 (fun H locs hP hD hS => ?_)
    have hP : va_P D vwCl [(hA_, .inr (9, [.ref y_7, .ref y_15, .null, .int 0, .int 0])), (y_7, .inl ((D.1 101), 25, .inl (fun _ => 0))), (y_15, .inl ((D.1 101), 25, .inl (fun _ => 0)))] H := hP
    have hD : va_D A [(hA_, .inr (9, [.ref y_7, .ref y_15, .null, .int 0, .int 0])), (y_7, .inl ((D.1 101), 25, .inl (fun _ => 0))), (y_15, .inl ((D.1 101), 25, .inl (fun _ => 0)))] := hD
    refine lv_aload_n hx hb dX2_init_20 rfl (lv_at hl 0 rfl) ?_
    refine lv_bipush (v := 25) hx hb dX2_init_21 (by decide) ?_
    refine va_newI hx hb (hts _ q_187) hK hP hD hS hA (N' := 25) (by decide) rfl (by omega) (show ((0 + 1) + 1) + 1 ≤ 3 from (by omega)) (show ((0 + 25) + 25) + 25 ≤ 75 from (by omega)) dX2_init_23 (fun y_23 H hqe hP hD hS => ?_)
    clear hqe
    have hP : va_P D vwCl [(hA_, .inr (9, [.ref y_7, .ref y_15, .null, .int 0, .int 0])), (y_7, .inl ((D.1 101), 25, .inl (fun _ => 0))), (y_15, .inl ((D.1 101), 25, .inl (fun _ => 0))), (y_23, .inl ((D.1 101), 25, .inl (fun _ => 0)))] H := hP
    have hD : va_D A [(hA_, .inr (9, [.ref y_7, .ref y_15, .null, .int 0, .int 0])), (y_7, .inl ((D.1 101), 25, .inl (fun _ => 0))), (y_15, .inl ((D.1 101), 25, .inl (fun _ => 0))), (y_23, .inl ((D.1 101), 25, .inl (fun _ => 0)))] := hD
    refine va_putF (D := D) (ci := 9) (v := .ref y_23) (ty := (.array .int)) (C := RX2) (T := TX2) (N := 5) hx hb hts in_X2 tyX2 tyX2_ok nmX2 hown hK hP hD hS 0 rfl rfl 2 (by decide) (hts _ q_198) (fun _ h9 => h9) rfl hin rfl (by decide +kernel) rfl rfl (Nat.le_of_ble_eq_true rfl) dX2_init_25 (fun H locs hP hD hS => ?_)
    have hP : va_P D vwCl [(hA_, .inr (9, [.ref y_7, .ref y_15, .ref y_23, .int 0, .int 0])), (y_7, .inl ((D.1 101), 25, .inl (fun _ => 0))), (y_15, .inl ((D.1 101), 25, .inl (fun _ => 0))), (y_23, .inl ((D.1 101), 25, .inl (fun _ => 0)))] H := hP
    have hD : va_D A [(hA_, .inr (9, [.ref y_7, .ref y_15, .ref y_23, .int 0, .int 0])), (y_7, .inl ((D.1 101), 25, .inl (fun _ => 0))), (y_15, .inl ((D.1 101), 25, .inl (fun _ => 0))), (y_23, .inl ((D.1 101), 25, .inl (fun _ => 0)))] := hD
    refine lv_aload_n hx hb dX2_init_28 rfl (lv_at hl 0 rfl) ?_
    refine lv_iconst (v := 0) hx hb dX2_init_29 (by decide) ?_
    refine va_put (D := D) (ci := 9) (v := .int 0) (ty := .int) (C := RX2) (T := TX2) (N := 5) hx hb hts in_X2 tyX2 tyX2_ok nmX2 hown hK hP hD hS 0 rfl rfl 3 (by decide) (hts _ q_200) (fun _ h9 => h9) rfl (by decide +kernel) rfl rfl (Nat.le_of_ble_eq_true rfl) dX2_init_30 (fun H locs hP hD hS => ?_)
    have hP : va_P D vwCl [(hA_, .inr (9, [.ref y_7, .ref y_15, .ref y_23, .int 0, .int 0])), (y_7, .inl ((D.1 101), 25, .inl (fun _ => 0))), (y_15, .inl ((D.1 101), 25, .inl (fun _ => 0))), (y_23, .inl ((D.1 101), 25, .inl (fun _ => 0)))] H := hP
    have hD : va_D A [(hA_, .inr (9, [.ref y_7, .ref y_15, .ref y_23, .int 0, .int 0])), (y_7, .inl ((D.1 101), 25, .inl (fun _ => 0))), (y_15, .inl ((D.1 101), 25, .inl (fun _ => 0))), (y_23, .inl ((D.1 101), 25, .inl (fun _ => 0)))] := hD
    refine lv_aload_n hx hb dX2_init_33 rfl (lv_at hl 0 rfl) ?_
    refine lv_iconst (v := 0) hx hb dX2_init_34 (by decide) ?_
    refine va_put (D := D) (ci := 9) (v := .int 0) (ty := .int) (C := RX2) (T := TX2) (N := 5) hx hb hts in_X2 tyX2 tyX2_ok nmX2 hown hK hP hD hS 0 rfl rfl 4 (by decide) (hts _ q_202) (fun _ h9 => h9) rfl (by decide +kernel) rfl rfl (Nat.le_of_ble_eq_true rfl) dX2_init_35 (fun H locs hP hD hS => ?_)
    have hP : va_P D vwCl [(hA_, .inr (9, [.ref y_7, .ref y_15, .ref y_23, .int 0, .int 0])), (y_7, .inl ((D.1 101), 25, .inl (fun _ => 0))), (y_15, .inl ((D.1 101), 25, .inl (fun _ => 0))), (y_23, .inl ((D.1 101), 25, .inl (fun _ => 0)))] H := hP
    have hD : va_D A [(hA_, .inr (9, [.ref y_7, .ref y_15, .ref y_23, .int 0, .int 0])), (y_7, .inl ((D.1 101), 25, .inl (fun _ => 0))), (y_15, .inl ((D.1 101), 25, .inl (fun _ => 0))), (y_23, .inl ((D.1 101), 25, .inl (fun _ => 0)))] := hD
    subst hQe
    subst hAe
    refine W.widen (k := 3) (n := 75) (by omega) (by omega) ?_
    have hP9 := hP.sub (ws' := [(hA_, .inr (9, [.ref y_7, .ref y_15, .ref y_23, .int 0, .int 0])), (y_7, .inl ((D.1 101), 25, .inl (fun _ => 0))), (y_15, .inl ((D.1 101), 25, .inl (fun _ => 0))), (y_23, .inl ((D.1 101), 25, .inl (fun _ => 0)))]) [0, 1, 2, 3] rfl
    have hD9 := hD.sub (ws' := [(hA_, .inr (9, [.ref y_7, .ref y_15, .ref y_23, .int 0, .int 0])), (y_7, .inl ((D.1 101), 25, .inl (fun _ => 0))), (y_15, .inl ((D.1 101), 25, .inl (fun _ => 0))), (y_23, .inl ((D.1 101), 25, .inl (fun _ => 0)))]) [0, 1, 2, 3] (by decide) rfl
    exact W.vret hx hb hr (fun t ht hW => ⟨⟨(y_7, y_15, y_23), rfl, trivial, (by rw [ht]; exact hP9), (hD9)⟩, hS.F ht⟩) hS.2.2 dX2_init_38
  rw [hHe, hLe] at hgoal
  exact hgoal


set_option maxHeartbeats 4000000 in
set_option maxRecDepth 100000 in
theorem c_J5_init_d00df (l : Launch) (D : va_G) (hB : Nat) (sz : Nat)  : Met l yJ5_init_d00df (Cond.code yJ5_init_d00df cJ5_init_d00df 2 none :: lwAll) ({ frames := 1, cells := 1, slots := 16, locals := 12 } : Room) (va_Pc [.ref hB, .int 16] (cPre D (lwTY D) [(hB, .inr (1, [.null, .int 0, .int 0, .int 0]))] sz)) (va_Qv (fun (_ : Nat) => True) (fun (u : Nat) t => va_P D vwCl [(hB, .inr (1, [.ref u, .int 0, .int 0, .int 0])), (u, .inl ((D.1 100), 16, .inl (fun _ => 0)))] t.heap ∧ va_D (va_A [(hB, .inr (1, [.null, .int 0, .int 0, .int 0]))] sz) [(hB, .inr (1, [.ref u, .int 0, .int 0, .int 0])), (u, .inl ((D.1 100), 16, .inl (fun _ => 0)))]) (va_A [(hB, .inr (1, [.null, .int 0, .int 0, .int 0]))] sz)) 1 16 (va_A [(hB, .inr (1, [.null, .int 0, .int 0, .int 0]))] sz) := by
  refine Met.ofW (cc := cJ5_init_d00df) (maxL := 2) (ret := none) (by decide) rfl ?_
  intro p e s m args below meth c s₁ B hml hv
  obtain ⟨rfl, hsz, hP, hK, hD0, hN, hZ⟩ := hv
  have hx := B.exec
  have hb := B.bytes
  have hr := B.returns
  have hts : ∀ wd ∈ lwAll, wd.before ([.ref hB, .int 16] : List Value).toArray s = true := fun wd h => atoms_spec (ws := (Cond.code yJ5_init_d00df cJ5_init_d00df 2 none :: lwAll)) B.pre wd (List.mem_cons_of_mem _ h)
  have hown : s.vm.findClass RJ5 = some m.cls := findClass_of_methodNamed B.named
  have hlocks := B.notSynchronized
  have hin : meth.name = "<init>" := (name_of_methodNamed B.named B.method).1
  subst hsz
  have hD := hD0.self (sz := s.heap.size)
  have hl := lv_entry ([.ref hB, .int 16]) (n := 2) (Nat.le_of_ble_eq_true rfl)
  rw [lg_entry_eq]
  generalize (lg_sl ([.ref hB, .int 16]) ++ List.replicate (2 - (lg_sl ([.ref hB, .int 16])).length) Slot.unset).toArray = ls at hl ⊢
  have hl : lv_has ls 2 [(0, .ref hB), (1, .int 16)] := hl
  have hS : va_S (va_A [(hB, .inr (1, [.null, .int 0, .int 0, .int 0]))] s.heap.size) s.heap s.heap [] := va_S.rf
  generalize hQe : MQ below (va_Qv (fun (_ : Nat) => True) (fun (u : Nat) t => va_P D vwCl [(hB, .inr (1, [.ref u, .int 0, .int 0, .int 0])), (u, .inl ((D.1 100), 16, .inl (fun _ => 0)))] t.heap ∧ va_D (va_A [(hB, .inr (1, [.null, .int 0, .int 0, .int 0]))] s.heap.size) [(hB, .inr (1, [.ref u, .int 0, .int 0, .int 0])), (u, .inl ((D.1 100), 16, .inl (fun _ => 0)))]) (va_A [(hB, .inr (1, [.null, .int 0, .int 0, .int 0]))] s.heap.size)) ([.ref hB, .int 16] : List Value).toArray s 1 16 (va_A [(hB, .inr (1, [.null, .int 0, .int 0, .int 0]))] s.heap.size) = Q
  have hP : va_P D vwCl [(hB, .inr (1, [.null, .int 0, .int 0, .int 0]))] s.heap := hP
  obtain ⟨A, hAe⟩ : ∃ A, A = va_A [(hB, .inr (1, [.null, .int 0, .int 0, .int 0]))] s.heap.size := ⟨_, rfl⟩
  rw [← hAe] at hD hZ hS
  have hA : ∀ q : Nat, s.heap.size ≤ q → A q := fun q h => by rw [hAe]; exact Or.inr h
  obtain ⟨H, hHe⟩ : ∃ H, H = s.heap := ⟨_, rfl⟩
  obtain ⟨locs, hLe⟩ : ∃ L : List Loc, L = [] := ⟨_, rfl⟩
  have hP : va_P D vwCl [(hB, .inr (1, [.null, .int 0, .int 0, .int 0]))] H := by rw [hHe]; exact hP
  have hS : va_S A s.heap H locs := by rw [hHe, hLe]; exact hS
  have hgoal : W p l e ({ frames := 1, cells := 1, slots := 16, locals := 12 } : Room) s m ([.ref hB, .int 16] : List Value).toArray below meth c H locs 0 0 Q (F0 m 0 ls []) := by
    clear hHe hLe
    refine lv_aload_n hx hb dJ5_init_d00df_0 rfl (lv_at hl 0 rfl) ?_
    refine W.objInit hx hb hown (hts _ q_229) (hts _ q_120) (hts _ q_121) rfl (by rw [hml]; exact hl.1) rfl dJ5_init_d00df_1 (Nat.le_of_ble_eq_true rfl) (Nat.le_of_ble_eq_true rfl) ?_
    refine W.eq (g2 := F0 m 4 ls []) rfl ?_
    refine va_gets hx hb hZ.1 hS hown (hts _ q_230) (fun _ h9 => h9) dJ5_init_d00df_4 ?_
    refine lv_if_eq (tgt := 25) hx hb dJ5_init_d00df_7 (by decide) (fun c_1 => ?_) (fun c_1 => ?_)
    · exact absurd c_1 (by decide)
    · refine lv_aload_n hx hb dJ5_init_d00df_10 rfl (lv_at hl 0 rfl) ?_
      refine lv_iload_n hx hb dJ5_init_d00df_11 rfl (lv_at hl 1 rfl) ?_
      refine va_newB hx hb (hts _ q_253) hK hP hD hS hA (N' := 16) (by decide) rfl (by omega) (show 0 + 1 ≤ 1 from (by omega)) (show 0 + 16 ≤ 16 from (by omega)) dJ5_init_d00df_12 (fun y_12 H hqe hP hD hS => ?_)
      clear hqe
      have hP : va_P D vwCl [(hB, .inr (1, [.null, .int 0, .int 0, .int 0])), (y_12, .inl ((D.1 100), 16, .inl (fun _ => 0)))] H := hP
      have hD : va_D A [(hB, .inr (1, [.null, .int 0, .int 0, .int 0])), (y_12, .inl ((D.1 100), 16, .inl (fun _ => 0)))] := hD
      refine va_put (D := D) (ci := 1) (v := .ref y_12) (ty := (.array .byte)) (C := RJ4) (T := TJ4) (N := 4) hx hb hts in_J4 tyJ4 tyJ4_ok nmJ4 hown hK hP hD hS 0 rfl rfl 0 (by decide) (hts _ q_239) (fun _ h9 => h9) rfl (by decide +kernel) rfl rfl (Nat.le_of_ble_eq_true rfl) dJ5_init_d00df_14 (fun H locs hP hD hS => ?_)
      have hP : va_P D vwCl [(hB, .inr (1, [.ref y_12, .int 0, .int 0, .int 0])), (y_12, .inl ((D.1 100), 16, .inl (fun _ => 0)))] H := hP
      have hD : va_D A [(hB, .inr (1, [.ref y_12, .int 0, .int 0, .int 0])), (y_12, .inl ((D.1 100), 16, .inl (fun _ => 0)))] := hD
      refine lv_aload_n hx hb dJ5_init_d00df_17 rfl (lv_at hl 0 rfl) ?_
      refine lv_iconst (v := 0) hx hb dJ5_init_d00df_18 (by decide) ?_
      refine va_put (D := D) (ci := 1) (v := .int 0) (ty := .byte) (C := RJ4) (T := TJ4) (N := 4) hx hb hts in_J4 tyJ4 tyJ4_ok nmJ4 hown hK hP hD hS 0 rfl rfl 1 (by decide) (hts _ q_240) (fun _ h9 => h9) rfl (by decide +kernel) rfl rfl (Nat.le_of_ble_eq_true rfl) dJ5_init_d00df_19 (fun H locs hP hD hS => ?_)
      have hP : va_P D vwCl [(hB, .inr (1, [.ref y_12, .int 0, .int 0, .int 0])), (y_12, .inl ((D.1 100), 16, .inl (fun _ => 0)))] H := hP
      have hD : va_D A [(hB, .inr (1, [.ref y_12, .int 0, .int 0, .int 0])), (y_12, .inl ((D.1 100), 16, .inl (fun _ => 0)))] := hD
      refine lv_goto (tgt := 38) hx hb dJ5_init_d00df_22 (by decide) ?_
      subst hQe
      subst hAe
      refine W.widen (k := 1) (n := 16) (by omega) (by omega) ?_
      have hP9 := hP.sub (ws' := [(hB, .inr (1, [.ref y_12, .int 0, .int 0, .int 0])), (y_12, .inl ((D.1 100), 16, .inl (fun _ => 0)))]) [0, 1] rfl
      have hD9 := hD.sub (ws' := [(hB, .inr (1, [.ref y_12, .int 0, .int 0, .int 0])), (y_12, .inl ((D.1 100), 16, .inl (fun _ => 0)))]) [0, 1] (by decide) rfl
      exact W.vret hx hb hr (fun t ht hW => ⟨⟨y_12, rfl, trivial, (by rw [ht]; exact hP9), (hD9)⟩, hS.F ht⟩) hS.2.2 dJ5_init_d00df_38
  rw [hHe, hLe] at hgoal
  exact hgoal


set_option maxHeartbeats 4000000 in
set_option maxRecDepth 100000 in
theorem c_J4_init_da8c8 (l : Launch) (D : va_G) (hB : Nat) (sz : Nat)  : Met l yJ4_init_da8c8 (Cond.code yJ4_init_da8c8 cJ4_init_da8c8 1 none :: lwAll) ({ frames := 2, cells := 1, slots := 16, locals := 33 } : Room) (va_Pc [.ref hB] (cPre D (lwTY D) [(hB, .inr (1, [.null, .int 0, .int 0, .int 0]))] sz)) (va_Qv (fun (_ : Nat) => True) (fun (u : Nat) t => va_P D vwCl [(hB, .inr (1, [.ref u, .int 0, .int 0, .int 0])), (u, .inl ((D.1 100), 16, .inl (fun _ => 0)))] t.heap ∧ va_D (va_A [(hB, .inr (1, [.null, .int 0, .int 0, .int 0]))] sz) [(hB, .inr (1, [.ref u, .int 0, .int 0, .int 0])), (u, .inl ((D.1 100), 16, .inl (fun _ => 0)))]) (va_A [(hB, .inr (1, [.null, .int 0, .int 0, .int 0]))] sz)) 1 16 (va_A [(hB, .inr (1, [.null, .int 0, .int 0, .int 0]))] sz) := by
  refine Met.ofW (cc := cJ4_init_da8c8) (maxL := 1) (ret := none) (by decide) rfl ?_
  intro p e s m args below meth c s₁ B hml hv
  obtain ⟨rfl, hsz, hP, hK, hD0, hN, hZ⟩ := hv
  have hx := B.exec
  have hb := B.bytes
  have hr := B.returns
  have hts : ∀ wd ∈ lwAll, wd.before ([.ref hB] : List Value).toArray s = true := fun wd h => atoms_spec (ws := (Cond.code yJ4_init_da8c8 cJ4_init_da8c8 1 none :: lwAll)) B.pre wd (List.mem_cons_of_mem _ h)
  have hown : s.vm.findClass RJ4 = some m.cls := findClass_of_methodNamed B.named
  have hlocks := B.notSynchronized
  have hin : meth.name = "<init>" := (name_of_methodNamed B.named B.method).1
  subst hsz
  have hD := hD0.self (sz := s.heap.size)
  have hl := lv_entry ([.ref hB]) (n := 1) (Nat.le_of_ble_eq_true rfl)
  rw [lg_entry_eq]
  generalize (lg_sl ([.ref hB]) ++ List.replicate (1 - (lg_sl ([.ref hB])).length) Slot.unset).toArray = ls at hl ⊢
  have hl : lv_has ls 1 [(0, .ref hB)] := hl
  have hS : va_S (va_A [(hB, .inr (1, [.null, .int 0, .int 0, .int 0]))] s.heap.size) s.heap s.heap [] := va_S.rf
  generalize hQe : MQ below (va_Qv (fun (_ : Nat) => True) (fun (u : Nat) t => va_P D vwCl [(hB, .inr (1, [.ref u, .int 0, .int 0, .int 0])), (u, .inl ((D.1 100), 16, .inl (fun _ => 0)))] t.heap ∧ va_D (va_A [(hB, .inr (1, [.null, .int 0, .int 0, .int 0]))] s.heap.size) [(hB, .inr (1, [.ref u, .int 0, .int 0, .int 0])), (u, .inl ((D.1 100), 16, .inl (fun _ => 0)))]) (va_A [(hB, .inr (1, [.null, .int 0, .int 0, .int 0]))] s.heap.size)) ([.ref hB] : List Value).toArray s 1 16 (va_A [(hB, .inr (1, [.null, .int 0, .int 0, .int 0]))] s.heap.size) = Q
  have hP : va_P D vwCl [(hB, .inr (1, [.null, .int 0, .int 0, .int 0]))] s.heap := hP
  obtain ⟨A, hAe⟩ : ∃ A, A = va_A [(hB, .inr (1, [.null, .int 0, .int 0, .int 0]))] s.heap.size := ⟨_, rfl⟩
  rw [← hAe] at hD hZ hS
  have hA : ∀ q : Nat, s.heap.size ≤ q → A q := fun q h => by rw [hAe]; exact Or.inr h
  obtain ⟨H, hHe⟩ : ∃ H, H = s.heap := ⟨_, rfl⟩
  obtain ⟨locs, hLe⟩ : ∃ L : List Loc, L = [] := ⟨_, rfl⟩
  have hP : va_P D vwCl [(hB, .inr (1, [.null, .int 0, .int 0, .int 0]))] H := by rw [hHe]; exact hP
  have hS : va_S A s.heap H locs := by rw [hHe, hLe]; exact hS
  have hgoal : W p l e ({ frames := 2, cells := 1, slots := 16, locals := 33 } : Room) s m ([.ref hB] : List Value).toArray below meth c H locs 0 0 Q (F0 m 0 ls []) := by
    clear hHe hLe
    refine lv_aload_n hx hb dJ4_init_da8c8_0 rfl (lv_at hl 0 rfl) ?_
    refine lv_bipush (v := 16) hx hb dJ4_init_da8c8_1 (by decide) ?_
    have hPc := hP.sub (ws' := [(hB, .inr (1, [.null, .int 0, .int 0, .int 0]))]) [0] rfl
    have hDc := hD.sub (ws' := [(hB, .inr (1, [.null, .int 0, .int 0, .int 0]))]) [0] (by decide) rfl
    have hFc := va_free (wc := [(hB, .inr (1, [.null, .int 0, .int 0, .int 0]))]) hD hS hA [0] rfl
    refine va_callv (va_runI (As := [.int 16]) (rest := []) ⟨hx, hb, hml, hown, hts⟩ (c_J5_init_d00df l D hB H.size ) ⟨callB_of 1 hts (gi_sub q_228) rfl rfl rfl (hts _ q_85) (hts _ q_226) (by decide +kernel) ⟨Nat.le_of_ble_eq_true rfl, Nat.le_of_ble_eq_true rfl⟩, rfl, (hts _ q_227)⟩ ⟨cPre_blind, cPre_mk hPc hK hDc hN (lwZ_for hZ hS hFc)⟩ rfl rfl hl.1 rfl (lv_room (Nat.le_of_ble_eq_true rfl)) dJ4_init_da8c8_3 ⟨(show 0 + 1 ≤ 1 from (by omega)), (show 0 + 16 ≤ 16 from (by omega))⟩) hS (fun q _ h => hFc q h) hFc (fun u t H1 locs ht hvm hw hBk hz1 hk1 hS => ?_)
    obtain ⟨aY_3, rfl⟩ : ∃ z, z = u := ⟨_, rfl⟩
    obtain ⟨hP1, hD1⟩ := hBk
    rw [ht] at hP1
    obtain ⟨hP, hD⟩ := va_join (wr := []) (w1 := [(hB, .inr (1, [.ref aY_3, .int 0, .int 0, .int 0])), (aY_3, .inl ((D.1 100), 16, .inl (fun _ => 0)))]) hP hD [0] [] rfl rfl (by decide) (by decide) hk1 hFc hP1 hD1
    clear hPc hDc hFc hP1 hD1 hk1 hz1
    clear hvm ht; clear t
    generalize H1 = H at hP hS ⊢
    have hP : va_P D vwCl [(hB, .inr (1, [.ref aY_3, .int 0, .int 0, .int 0])), (aY_3, .inl ((D.1 100), 16, .inl (fun _ => 0)))] H := hP
    have hD : va_D A [(hB, .inr (1, [.ref aY_3, .int 0, .int 0, .int 0])), (aY_3, .inl ((D.1 100), 16, .inl (fun _ => 0)))] := hD
    subst hQe
    subst hAe
    refine W.widen (k := 1) (n := 16) (by omega) (by omega) ?_
    have hP9 := hP.sub (ws' := [(hB, .inr (1, [.ref aY_3, .int 0, .int 0, .int 0])), (aY_3, .inl ((D.1 100), 16, .inl (fun _ => 0)))]) [0, 1] rfl
    have hD9 := hD.sub (ws' := [(hB, .inr (1, [.ref aY_3, .int 0, .int 0, .int 0])), (aY_3, .inl ((D.1 100), 16, .inl (fun _ => 0)))]) [0, 1] (by decide) rfl
    exact W.vret hx hb hr (fun t ht hW => ⟨⟨aY_3, rfl, trivial, (by rw [ht]; exact hP9), (hD9)⟩, hS.F ht⟩) hS.2.2 dJ4_init_da8c8_6
  rw [hHe, hLe] at hgoal
  exact hgoal


set_option maxHeartbeats 4000000 in
set_option maxRecDepth 100000 in
theorem c_X1_init (l : Launch) (D : va_G) (hT : Nat) (sz : Nat)  : Met l yX1_init (Cond.code yX1_init cX1_init 1 none :: lwAll) ({ frames := 3, cells := 8, slots := 175, locals := 53 } : Room) (va_Pc [.ref hT] (cPre D (lwTY D) [(hT, .inr (8, [.null, .null, .null, .null, .int 0, .null, .null, .null, .int 0, .int 0]))] sz)) (va_Qv (fun (_ : Nat × Nat × Nat × Nat × Nat × Nat × Nat × Nat) => True) (fun (u : Nat × Nat × Nat × Nat × Nat × Nat × Nat × Nat) t => va_P D vwCl [(hT, .inr (8, [.ref u.1, .ref u.2.1, .ref u.2.2.1, .ref u.2.2.2.1, .int 0, .ref u.2.2.2.2.2.1, .ref u.2.2.2.2.2.2.1, .ref u.2.2.2.2.2.2.2, .int 0, .int 0])), (u.1, .inl ((D.1 101), 75, .inl (fun _ => 0))), (u.2.1, .inl ((D.1 101), 25, .inl (fun _ => 0))), (u.2.2.1, .inl ((D.1 101), 25, .inl (fun _ => 0))), (u.2.2.2.1, .inr (1, [.ref u.2.2.2.2.1, .int 0, .int 0, .int 0])), (u.2.2.2.2.1, .inl ((D.1 100), 16, .inl (fun _ => 0))), (u.2.2.2.2.2.1, .inl ((D.1 101), 6, .inl (fun _ => 0))), (u.2.2.2.2.2.2.1, .inl ((D.1 101), 6, .inl (fun _ => 0))), (u.2.2.2.2.2.2.2, .inl ((D.1 101), 18, .inl (fun _ => 0)))] t.heap ∧ va_D (va_A [(hT, .inr (8, [.null, .null, .null, .null, .int 0, .null, .null, .null, .int 0, .int 0]))] sz) [(hT, .inr (8, [.ref u.1, .ref u.2.1, .ref u.2.2.1, .ref u.2.2.2.1, .int 0, .ref u.2.2.2.2.2.1, .ref u.2.2.2.2.2.2.1, .ref u.2.2.2.2.2.2.2, .int 0, .int 0])), (u.1, .inl ((D.1 101), 75, .inl (fun _ => 0))), (u.2.1, .inl ((D.1 101), 25, .inl (fun _ => 0))), (u.2.2.1, .inl ((D.1 101), 25, .inl (fun _ => 0))), (u.2.2.2.1, .inr (1, [.ref u.2.2.2.2.1, .int 0, .int 0, .int 0])), (u.2.2.2.2.1, .inl ((D.1 100), 16, .inl (fun _ => 0))), (u.2.2.2.2.2.1, .inl ((D.1 101), 6, .inl (fun _ => 0))), (u.2.2.2.2.2.2.1, .inl ((D.1 101), 6, .inl (fun _ => 0))), (u.2.2.2.2.2.2.2, .inl ((D.1 101), 18, .inl (fun _ => 0)))]) (va_A [(hT, .inr (8, [.null, .null, .null, .null, .int 0, .null, .null, .null, .int 0, .int 0]))] sz)) 8 175 (va_A [(hT, .inr (8, [.null, .null, .null, .null, .int 0, .null, .null, .null, .int 0, .int 0]))] sz) := by
  refine Met.ofW (cc := cX1_init) (maxL := 1) (ret := none) (by decide) rfl ?_
  intro p e s m args below meth c s₁ B hml hv
  obtain ⟨rfl, hsz, hP, hK, hD0, hN, hZ⟩ := hv
  have hx := B.exec
  have hb := B.bytes
  have hr := B.returns
  have hts : ∀ wd ∈ lwAll, wd.before ([.ref hT] : List Value).toArray s = true := fun wd h => atoms_spec (ws := (Cond.code yX1_init cX1_init 1 none :: lwAll)) B.pre wd (List.mem_cons_of_mem _ h)
  have hown : s.vm.findClass RX1 = some m.cls := findClass_of_methodNamed B.named
  have hlocks := B.notSynchronized
  have hin : meth.name = "<init>" := (name_of_methodNamed B.named B.method).1
  subst hsz
  have hD := hD0.self (sz := s.heap.size)
  have hl := lv_entry ([.ref hT]) (n := 1) (Nat.le_of_ble_eq_true rfl)
  rw [lg_entry_eq]
  generalize (lg_sl ([.ref hT]) ++ List.replicate (1 - (lg_sl ([.ref hT])).length) Slot.unset).toArray = ls at hl ⊢
  have hl : lv_has ls 1 [(0, .ref hT)] := hl
  have hS : va_S (va_A [(hT, .inr (8, [.null, .null, .null, .null, .int 0, .null, .null, .null, .int 0, .int 0]))] s.heap.size) s.heap s.heap [] := va_S.rf
  generalize hQe : MQ below (va_Qv (fun (_ : Nat × Nat × Nat × Nat × Nat × Nat × Nat × Nat) => True) (fun (u : Nat × Nat × Nat × Nat × Nat × Nat × Nat × Nat) t => va_P D vwCl [(hT, .inr (8, [.ref u.1, .ref u.2.1, .ref u.2.2.1, .ref u.2.2.2.1, .int 0, .ref u.2.2.2.2.2.1, .ref u.2.2.2.2.2.2.1, .ref u.2.2.2.2.2.2.2, .int 0, .int 0])), (u.1, .inl ((D.1 101), 75, .inl (fun _ => 0))), (u.2.1, .inl ((D.1 101), 25, .inl (fun _ => 0))), (u.2.2.1, .inl ((D.1 101), 25, .inl (fun _ => 0))), (u.2.2.2.1, .inr (1, [.ref u.2.2.2.2.1, .int 0, .int 0, .int 0])), (u.2.2.2.2.1, .inl ((D.1 100), 16, .inl (fun _ => 0))), (u.2.2.2.2.2.1, .inl ((D.1 101), 6, .inl (fun _ => 0))), (u.2.2.2.2.2.2.1, .inl ((D.1 101), 6, .inl (fun _ => 0))), (u.2.2.2.2.2.2.2, .inl ((D.1 101), 18, .inl (fun _ => 0)))] t.heap ∧ va_D (va_A [(hT, .inr (8, [.null, .null, .null, .null, .int 0, .null, .null, .null, .int 0, .int 0]))] s.heap.size) [(hT, .inr (8, [.ref u.1, .ref u.2.1, .ref u.2.2.1, .ref u.2.2.2.1, .int 0, .ref u.2.2.2.2.2.1, .ref u.2.2.2.2.2.2.1, .ref u.2.2.2.2.2.2.2, .int 0, .int 0])), (u.1, .inl ((D.1 101), 75, .inl (fun _ => 0))), (u.2.1, .inl ((D.1 101), 25, .inl (fun _ => 0))), (u.2.2.1, .inl ((D.1 101), 25, .inl (fun _ => 0))), (u.2.2.2.1, .inr (1, [.ref u.2.2.2.2.1, .int 0, .int 0, .int 0])), (u.2.2.2.2.1, .inl ((D.1 100), 16, .inl (fun _ => 0))), (u.2.2.2.2.2.1, .inl ((D.1 101), 6, .inl (fun _ => 0))), (u.2.2.2.2.2.2.1, .inl ((D.1 101), 6, .inl (fun _ => 0))), (u.2.2.2.2.2.2.2, .inl ((D.1 101), 18, .inl (fun _ => 0)))]) (va_A [(hT, .inr (8, [.null, .null, .null, .null, .int 0, .null, .null, .null, .int 0, .int 0]))] s.heap.size)) ([.ref hT] : List Value).toArray s 8 175 (va_A [(hT, .inr (8, [.null, .null, .null, .null, .int 0, .null, .null, .null, .int 0, .int 0]))] s.heap.size) = Q
  have hP : va_P D vwCl [(hT, .inr (8, [.null, .null, .null, .null, .int 0, .null, .null, .null, .int 0, .int 0]))] s.heap := hP
  obtain ⟨A, hAe⟩ : ∃ A, A = va_A [(hT, .inr (8, [.null, .null, .null, .null, .int 0, .null, .null, .null, .int 0, .int 0]))] s.heap.size := ⟨_, rfl⟩
  rw [← hAe] at hD hZ hS
  have hA : ∀ q : Nat, s.heap.size ≤ q → A q := fun q h => by rw [hAe]; exact Or.inr h
  obtain ⟨H, hHe⟩ : ∃ H, H = s.heap := ⟨_, rfl⟩
  obtain ⟨locs, hLe⟩ : ∃ L : List Loc, L = [] := ⟨_, rfl⟩
  have hP : va_P D vwCl [(hT, .inr (8, [.null, .null, .null, .null, .int 0, .null, .null, .null, .int 0, .int 0]))] H := by rw [hHe]; exact hP
  have hS : va_S A s.heap H locs := by rw [hHe, hLe]; exact hS
  have hgoal : W p l e ({ frames := 3, cells := 8, slots := 175, locals := 53 } : Room) s m ([.ref hT] : List Value).toArray below meth c H locs 0 0 Q (F0 m 0 ls []) := by
    clear hHe hLe
    refine lv_aload_n hx hb dX1_init_0 rfl (lv_at hl 0 rfl) ?_
    refine W.objInit hx hb hown (hts _ q_220) (hts _ q_120) (hts _ q_121) rfl (by rw [hml]; exact hl.1) rfl dX1_init_1 (Nat.le_of_ble_eq_true rfl) (Nat.le_of_ble_eq_true rfl) ?_
    refine W.eq (g2 := F0 m 4 ls []) rfl ?_
    refine lv_aload_n hx hb dX1_init_4 rfl (lv_at hl 0 rfl) ?_
    refine lv_bipush (v := 75) hx hb dX1_init_5 (by decide) ?_
    refine va_newI hx hb (hts _ q_187) hK hP hD hS hA (N' := 75) (by decide) rfl (by omega) (show 0 + 1 ≤ 8 from (by omega)) (show 0 + 75 ≤ 175 from (by omega)) dX1_init_7 (fun y_7 H hqe hP hD hS => ?_)
    clear hqe
    have hP : va_P D vwCl [(hT, .inr (8, [.null, .null, .null, .null, .int 0, .null, .null, .null, .int 0, .int 0])), (y_7, .inl ((D.1 101), 75, .inl (fun _ => 0)))] H := hP
    have hD : va_D A [(hT, .inr (8, [.null, .null, .null, .null, .int 0, .null, .null, .null, .int 0, .int 0])), (y_7, .inl ((D.1 101), 75, .inl (fun _ => 0)))] := hD
    refine va_putF (D := D) (ci := 8) (v := .ref y_7) (ty := (.array .int)) (C := RX1) (T := TX1) (N := 10) hx hb hts in_X1 tyX1 tyX1_ok nmX1 hown hK hP hD hS 0 rfl rfl 0 (by decide) (hts _ q_254) (fun _ h9 => h9) rfl hin rfl (by decide +kernel) rfl rfl (Nat.le_of_ble_eq_true rfl) dX1_init_9 (fun H locs hP hD hS => ?_)
    have hP : va_P D vwCl [(hT, .inr (8, [.ref y_7, .null, .null, .null, .int 0, .null, .null, .null, .int 0, .int 0])), (y_7, .inl ((D.1 101), 75, .inl (fun _ => 0)))] H := hP
    have hD : va_D A [(hT, .inr (8, [.ref y_7, .null, .null, .null, .int 0, .null, .null, .null, .int 0, .int 0])), (y_7, .inl ((D.1 101), 75, .inl (fun _ => 0)))] := hD
    refine lv_aload_n hx hb dX1_init_12 rfl (lv_at hl 0 rfl) ?_
    refine lv_bipush (v := 25) hx hb dX1_init_13 (by decide) ?_
    refine va_newI hx hb (hts _ q_187) hK hP hD hS hA (N' := 25) (by decide) rfl (by omega) (show (0 + 1) + 1 ≤ 8 from (by omega)) (show (0 + 75) + 25 ≤ 175 from (by omega)) dX1_init_15 (fun y_15 H hqe hP hD hS => ?_)
    clear hqe
    have hP : va_P D vwCl [(hT, .inr (8, [.ref y_7, .null, .null, .null, .int 0, .null, .null, .null, .int 0, .int 0])), (y_7, .inl ((D.1 101), 75, .inl (fun _ => 0))), (y_15, .inl ((D.1 101), 25, .inl (fun _ => 0)))] H := hP
    have hD : va_D A [(hT, .inr (8, [.ref y_7, .null, .null, .null, .int 0, .null, .null, .null, .int 0, .int 0])), (y_7, .inl ((D.1 101), 75, .inl (fun _ => 0))), (y_15, .inl ((D.1 101), 25, .inl (fun _ => 0)))] := hD
    refine va_putF (D := D) (ci := 8) (v := .ref y_15) (ty := (.array .int)) (C := RX1) (T := TX1) (N := 10) hx hb hts in_X1 tyX1 tyX1_ok nmX1 hown hK hP hD hS 0 rfl rfl 1 (by decide) (hts _ q_256) (fun _ h9 => h9) rfl hin rfl (by decide +kernel) rfl rfl (Nat.le_of_ble_eq_true rfl) dX1_init_17 (fun H locs hP hD hS => ?_)
    have hP : va_P D vwCl [(hT, .inr (8, [.ref y_7, .ref y_15, .null, .null, .int 0, .null, .null, .null, .int 0, .int 0])), (y_7, .inl ((D.1 101), 75, .inl (fun _ => 0))), (y_15, .inl ((D.1 101), 25, .inl (fun _ => 0)))] H := hP
    have hD : va_D A [(hT, .inr (8, [.ref y_7, .ref y_15, .null, .null, .int 0, .null, .null, .null, .int 0, .int 0])), (y_7, .inl ((D.1 101), 75, .inl (fun _ => 0))), (y_15, .inl ((D.1 101), 25, .inl (fun _ => 0)))] := hD
    refine lv_aload_n hx hb dX1_init_20 rfl (lv_at hl 0 rfl) ?_
    refine lv_bipush (v := 25) hx hb dX1_init_21 (by decide) ?_
    refine va_newI hx hb (hts _ q_187) hK hP hD hS hA (N' := 25) (by decide) rfl (by omega) (show ((0 + 1) + 1) + 1 ≤ 8 from (by omega)) (show ((0 + 75) + 25) + 25 ≤ 175 from (by omega)) dX1_init_23 (fun y_23 H hqe hP hD hS => ?_)
    clear hqe
    have hP : va_P D vwCl [(hT, .inr (8, [.ref y_7, .ref y_15, .null, .null, .int 0, .null, .null, .null, .int 0, .int 0])), (y_7, .inl ((D.1 101), 75, .inl (fun _ => 0))), (y_15, .inl ((D.1 101), 25, .inl (fun _ => 0))), (y_23, .inl ((D.1 101), 25, .inl (fun _ => 0)))] H := hP
    have hD : va_D A [(hT, .inr (8, [.ref y_7, .ref y_15, .null, .null, .int 0, .null, .null, .null, .int 0, .int 0])), (y_7, .inl ((D.1 101), 75, .inl (fun _ => 0))), (y_15, .inl ((D.1 101), 25, .inl (fun _ => 0))), (y_23, .inl ((D.1 101), 25, .inl (fun _ => 0)))] := hD
    refine va_putF (D := D) (ci := 8) (v := .ref y_23) (ty := (.array .int)) (C := RX1) (T := TX1) (N := 10) hx hb hts in_X1 tyX1 tyX1_ok nmX1 hown hK hP hD hS 0 rfl rfl 2 (by decide) (hts _ q_258) (fun _ h9 => h9) rfl hin rfl (by decide +kernel) rfl rfl (Nat.le_of_ble_eq_true rfl) dX1_init_25 (fun H locs hP hD hS => ?_)
    have hP : va_P D vwCl [(hT, .inr (8, [.ref y_7, .ref y_15, .ref y_23, .null, .int 0, .null, .null, .null, .int 0, .int 0])), (y_7, .inl ((D.1 101), 75, .inl (fun _ => 0))), (y_15, .inl ((D.1 101), 25, .inl (fun _ => 0))), (y_23, .inl ((D.1 101), 25, .inl (fun _ => 0)))] H := hP
    have hD : va_D A [(hT, .inr (8, [.ref y_7, .ref y_15, .ref y_23, .null, .int 0, .null, .null, .null, .int 0, .int 0])), (y_7, .inl ((D.1 101), 75, .inl (fun _ => 0))), (y_15, .inl ((D.1 101), 25, .inl (fun _ => 0))), (y_23, .inl ((D.1 101), 25, .inl (fun _ => 0)))] := hD
    refine lv_aload_n hx hb dX1_init_28 rfl (lv_at hl 0 rfl) ?_
    refine va_new (ci := 1) (fs := [.null, .int 0, .int 0, .int 0]) (C := RJ4) (T := TJ4) (N := 4) hx hb hts in_J4 tyJ4 tyJ4_ok hown (hts _ q_221) (hts _ q_222) (hts _ q_86) hK hP hD hS hA rfl (fun j hj => by rcases (show j = 0 ∨ j = 1 ∨ j = 2 ∨ j = 3 by omega) with rfl | rfl | rfl | rfl <;> rfl) (show (((0 + 1) + 1) + 1) + 1 ≤ 8 from (by omega)) (show (((0 + 75) + 25) + 25) + 4 ≤ 175 from (by omega)) dX1_init_29 (fun o_29 H hP hD hS => ?_)
    have hP : va_P D vwCl [(hT, .inr (8, [.ref y_7, .ref y_15, .ref y_23, .null, .int 0, .null, .null, .null, .int 0, .int 0])), (y_7, .inl ((D.1 101), 75, .inl (fun _ => 0))), (y_15, .inl ((D.1 101), 25, .inl (fun _ => 0))), (y_23, .inl ((D.1 101), 25, .inl (fun _ => 0))), (o_29, .inr (1, [.null, .int 0, .int 0, .int 0]))] H := hP
    have hD : va_D A [(hT, .inr (8, [.ref y_7, .ref y_15, .ref y_23, .null, .int 0, .null, .null, .null, .int 0, .int 0])), (y_7, .inl ((D.1 101), 75, .inl (fun _ => 0))), (y_15, .inl ((D.1 101), 25, .inl (fun _ => 0))), (y_23, .inl ((D.1 101), 25, .inl (fun _ => 0))), (o_29, .inr (1, [.null, .int 0, .int 0, .int 0]))] := hD
    refine lv_dup hx hb dX1_init_32 rfl ?_
    have hPc := hP.sub (ws' := [(o_29, .inr (1, [.null, .int 0, .int 0, .int 0]))]) [4] rfl
    have hDc := hD.sub (ws' := [(o_29, .inr (1, [.null, .int 0, .int 0, .int 0]))]) [4] (by decide) rfl
    have hFc := va_free (wc := [(o_29, .inr (1, [.null, .int 0, .int 0, .int 0]))]) hD hS hA [4] rfl
    refine va_callv (va_runI (As := []) (rest := [.ref o_29, .ref hT]) ⟨hx, hb, hml, hown, hts⟩ (c_J4_init_da8c8 l D o_29 H.size ) ⟨callB_of 0 hts (gi_sub q_225) rfl rfl rfl (hts _ q_86) (hts _ q_223) (by decide +kernel) ⟨Nat.le_of_ble_eq_true rfl, Nat.le_of_ble_eq_true rfl⟩, rfl, (hts _ q_224)⟩ ⟨cPre_blind, cPre_mk hPc hK hDc hN (lwZ_for hZ hS hFc)⟩ rfl rfl hl.1 rfl (lv_room (Nat.le_of_ble_eq_true rfl)) dX1_init_33 ⟨(show ((((0 + 1) + 1) + 1) + 1) + 1 ≤ 8 from (by omega)), (show ((((0 + 75) + 25) + 25) + 4) + 16 ≤ 175 from (by omega))⟩) hS (fun q _ h => hFc q h) hFc (fun u t H1 locs ht hvm hw hBk hz1 hk1 hS => ?_)
    obtain ⟨aY_33, rfl⟩ : ∃ z, z = u := ⟨_, rfl⟩
    obtain ⟨hP1, hD1⟩ := hBk
    rw [ht] at hP1
    obtain ⟨hP, hD⟩ := va_join (wr := [(hT, .inr (8, [.ref y_7, .ref y_15, .ref y_23, .null, .int 0, .null, .null, .null, .int 0, .int 0])), (y_7, .inl ((D.1 101), 75, .inl (fun _ => 0))), (y_15, .inl ((D.1 101), 25, .inl (fun _ => 0))), (y_23, .inl ((D.1 101), 25, .inl (fun _ => 0)))]) (w1 := [(o_29, .inr (1, [.ref aY_33, .int 0, .int 0, .int 0])), (aY_33, .inl ((D.1 100), 16, .inl (fun _ => 0)))]) hP hD [4] [0, 1, 2, 3] rfl rfl (by decide) (by decide) hk1 hFc hP1 hD1
    clear hPc hDc hFc hP1 hD1 hk1 hz1
    clear hvm ht; clear t
    generalize H1 = H at hP hS ⊢
    have hP : va_P D vwCl [(hT, .inr (8, [.ref y_7, .ref y_15, .ref y_23, .null, .int 0, .null, .null, .null, .int 0, .int 0])), (y_7, .inl ((D.1 101), 75, .inl (fun _ => 0))), (y_15, .inl ((D.1 101), 25, .inl (fun _ => 0))), (y_23, .inl ((D.1 101), 25, .inl (fun _ => 0))), (o_29, .inr (1, [.ref aY_33, .int 0, .int 0, .int 0])), (aY_33, .inl ((D.1 100), 16, .inl (fun _ => 0)))] H := hP
    have hD : va_D A [(hT, .inr (8, [.ref y_7, .ref y_15, .ref y_23, .null, .int 0, .null, .null, .null, .int 0, .int 0])), (y_7, .inl ((D.1 101), 75, .inl (fun _ => 0))), (y_15, .inl ((D.1 101), 25, .inl (fun _ => 0))), (y_23, .inl ((D.1 101), 25, .inl (fun _ => 0))), (o_29, .inr (1, [.ref aY_33, .int 0, .int 0, .int 0])), (aY_33, .inl ((D.1 100), 16, .inl (fun _ => 0)))] := hD
    refine va_putF (D := D) (ci := 8) (v := .ref o_29) (ty := (.object "java/lang/StringBuilder")) (C := RX1) (T := TX1) (N := 10) hx hb hts in_X1 tyX1 tyX1_ok nmX1 hown hK hP hD hS 0 rfl rfl 3 (by decide) (hts _ q_259) (fun _ h9 => h9) rfl hin rfl (by decide +kernel) rfl rfl (Nat.le_of_ble_eq_true rfl) dX1_init_36 (fun H locs hP hD hS => ?_)
    have hP : va_P D vwCl [(hT, .inr (8, [.ref y_7, .ref y_15, .ref y_23, .ref o_29, .int 0, .null, .null, .null, .int 0, .int 0])), (y_7, .inl ((D.1 101), 75, .inl (fun _ => 0))), (y_15, .inl ((D.1 101), 25, .inl (fun _ => 0))), (y_23, .inl ((D.1 101), 25, .inl (fun _ => 0))), (o_29, .inr (1, [.ref aY_33, .int 0, .int 0, .int 0])), (aY_33, .inl ((D.1 100), 16, .inl (fun _ => 0)))] H := hP
    have hD : va_D A [(hT, .inr (8, [.ref y_7, .ref y_15, .ref y_23, .ref o_29, .int 0, .null, .null, .null, .int 0, .int 0])), (y_7, .inl ((D.1 101), 75, .inl (fun _ => 0))), (y_15, .inl ((D.1 101), 25, .inl (fun _ => 0))), (y_23, .inl ((D.1 101), 25, .inl (fun _ => 0))), (o_29, .inr (1, [.ref aY_33, .int 0, .int 0, .int 0])), (aY_33, .inl ((D.1 100), 16, .inl (fun _ => 0)))] := hD
    refine lv_aload_n hx hb dX1_init_39 rfl (lv_at hl 0 rfl) ?_
    refine lv_bipush (v := 6) hx hb dX1_init_40 (by decide) ?_
    refine va_newI hx hb (hts _ q_187) hK hP hD hS hA (N' := 6) (by decide) rfl (by omega) (show (((((0 + 1) + 1) + 1) + 1) + 1) + 1 ≤ 8 from (by omega)) (show (((((0 + 75) + 25) + 25) + 4) + 16) + 6 ≤ 175 from (by omega)) dX1_init_42 (fun y_42 H hqe hP hD hS => ?_)
    clear hqe
    have hP : va_P D vwCl [(hT, .inr (8, [.ref y_7, .ref y_15, .ref y_23, .ref o_29, .int 0, .null, .null, .null, .int 0, .int 0])), (y_7, .inl ((D.1 101), 75, .inl (fun _ => 0))), (y_15, .inl ((D.1 101), 25, .inl (fun _ => 0))), (y_23, .inl ((D.1 101), 25, .inl (fun _ => 0))), (o_29, .inr (1, [.ref aY_33, .int 0, .int 0, .int 0])), (aY_33, .inl ((D.1 100), 16, .inl (fun _ => 0))), (y_42, .inl ((D.1 101), 6, .inl (fun _ => 0)))] H := hP
    have hD : va_D A [(hT, .inr (8, [.ref y_7, .ref y_15, .ref y_23, .ref o_29, .int 0, .null, .null, .null, .int 0, .int 0])), (y_7, .inl ((D.1 101), 75, .inl (fun _ => 0))), (y_15, .inl ((D.1 101), 25, .inl (fun _ => 0))), (y_23, .inl ((D.1 101), 25, .inl (fun _ => 0))), (o_29, .inr (1, [.ref aY_33, .int 0, .int 0, .int 0])), (aY_33, .inl ((D.1 100), 16, .inl (fun _ => 0))), (y_42, .inl ((D.1 101), 6, .inl (fun _ => 0)))] := hD
    refine va_putF (D := D) (ci := 8) (v := .ref y_42) (ty := (.array .int)) (C := RX1) (T := TX1) (N := 10) hx hb hts in_X1 tyX1 tyX1_ok nmX1 hown hK hP hD hS 0 rfl rfl 5 (by decide) (hts _ q_263) (fun _ h9 => h9) rfl hin rfl (by decide +kernel) rfl rfl (Nat.le_of_ble_eq_true rfl) dX1_init_44 (fun H locs hP hD hS => ?_)
    have hP : va_P D vwCl [(hT, .inr (8, [.ref y_7, .ref y_15, .ref y_23, .ref o_29, .int 0, .ref y_42, .null, .null, .int 0, .int 0])), (y_7, .inl ((D.1 101), 75, .inl (fun _ => 0))), (y_15, .inl ((D.1 101), 25, .inl (fun _ => 0))), (y_23, .inl ((D.1 101), 25, .inl (fun _ => 0))), (o_29, .inr (1, [.ref aY_33, .int 0, .int 0, .int 0])), (aY_33, .inl ((D.1 100), 16, .inl (fun _ => 0))), (y_42, .inl ((D.1 101), 6, .inl (fun _ => 0)))] H := hP
    have hD : va_D A [(hT, .inr (8, [.ref y_7, .ref y_15, .ref y_23, .ref o_29, .int 0, .ref y_42, .null, .null, .int 0, .int 0])), (y_7, .inl ((D.1 101), 75, .inl (fun _ => 0))), (y_15, .inl ((D.1 101), 25, .inl (fun _ => 0))), (y_23, .inl ((D.1 101), 25, .inl (fun _ => 0))), (o_29, .inr (1, [.ref aY_33, .int 0, .int 0, .int 0])), (aY_33, .inl ((D.1 100), 16, .inl (fun _ => 0))), (y_42, .inl ((D.1 101), 6, .inl (fun _ => 0)))] := hD
    refine lv_aload_n hx hb dX1_init_47 rfl (lv_at hl 0 rfl) ?_
    refine lv_bipush (v := 6) hx hb dX1_init_48 (by decide) ?_
    refine va_newI hx hb (hts _ q_187) hK hP hD hS hA (N' := 6) (by decide) rfl (by omega) (show ((((((0 + 1) + 1) + 1) + 1) + 1) + 1) + 1 ≤ 8 from (by omega)) (show ((((((0 + 75) + 25) + 25) + 4) + 16) + 6) + 6 ≤ 175 from (by omega)) dX1_init_50 (fun y_50 H hqe hP hD hS => ?_)
    clear hqe
    have hP : va_P D vwCl [(hT, .inr (8, [.ref y_7, .ref y_15, .ref y_23, .ref o_29, .int 0, .ref y_42, .null, .null, .int 0, .int 0])), (y_7, .inl ((D.1 101), 75, .inl (fun _ => 0))), (y_15, .inl ((D.1 101), 25, .inl (fun _ => 0))), (y_23, .inl ((D.1 101), 25, .inl (fun _ => 0))), (o_29, .inr (1, [.ref aY_33, .int 0, .int 0, .int 0])), (aY_33, .inl ((D.1 100), 16, .inl (fun _ => 0))), (y_42, .inl ((D.1 101), 6, .inl (fun _ => 0))), (y_50, .inl ((D.1 101), 6, .inl (fun _ => 0)))] H := hP
    have hD : va_D A [(hT, .inr (8, [.ref y_7, .ref y_15, .ref y_23, .ref o_29, .int 0, .ref y_42, .null, .null, .int 0, .int 0])), (y_7, .inl ((D.1 101), 75, .inl (fun _ => 0))), (y_15, .inl ((D.1 101), 25, .inl (fun _ => 0))), (y_23, .inl ((D.1 101), 25, .inl (fun _ => 0))), (o_29, .inr (1, [.ref aY_33, .int 0, .int 0, .int 0])), (aY_33, .inl ((D.1 100), 16, .inl (fun _ => 0))), (y_42, .inl ((D.1 101), 6, .inl (fun _ => 0))), (y_50, .inl ((D.1 101), 6, .inl (fun _ => 0)))] := hD
    refine va_putF (D := D) (ci := 8) (v := .ref y_50) (ty := (.array .int)) (C := RX1) (T := TX1) (N := 10) hx hb hts in_X1 tyX1 tyX1_ok nmX1 hown hK hP hD hS 0 rfl rfl 6 (by decide) (hts _ q_264) (fun _ h9 => h9) rfl hin rfl (by decide +kernel) rfl rfl (Nat.le_of_ble_eq_true rfl) dX1_init_52 (fun H locs hP hD hS => ?_)
    have hP : va_P D vwCl [(hT, .inr (8, [.ref y_7, .ref y_15, .ref y_23, .ref o_29, .int 0, .ref y_42, .ref y_50, .null, .int 0, .int 0])), (y_7, .inl ((D.1 101), 75, .inl (fun _ => 0))), (y_15, .inl ((D.1 101), 25, .inl (fun _ => 0))), (y_23, .inl ((D.1 101), 25, .inl (fun _ => 0))), (o_29, .inr (1, [.ref aY_33, .int 0, .int 0, .int 0])), (aY_33, .inl ((D.1 100), 16, .inl (fun _ => 0))), (y_42, .inl ((D.1 101), 6, .inl (fun _ => 0))), (y_50, .inl ((D.1 101), 6, .inl (fun _ => 0)))] H := hP
    have hD : va_D A [(hT, .inr (8, [.ref y_7, .ref y_15, .ref y_23, .ref o_29, .int 0, .ref y_42, .ref y_50, .null, .int 0, .int 0])), (y_7, .inl ((D.1 101), 75, .inl (fun _ => 0))), (y_15, .inl ((D.1 101), 25, .inl (fun _ => 0))), (y_23, .inl ((D.1 101), 25, .inl (fun _ => 0))), (o_29, .inr (1, [.ref aY_33, .int 0, .int 0, .int 0])), (aY_33, .inl ((D.1 100), 16, .inl (fun _ => 0))), (y_42, .inl ((D.1 101), 6, .inl (fun _ => 0))), (y_50, .inl ((D.1 101), 6, .inl (fun _ => 0)))] := hD
    refine lv_aload_n hx hb dX1_init_55 rfl (lv_at hl 0 rfl) ?_
    refine lv_bipush (v := 18) hx hb dX1_init_56 (by decide) ?_
    refine va_newI hx hb (hts _ q_187) hK hP hD hS hA (N' := 18) (by decide) rfl (by omega) (show (((((((0 + 1) + 1) + 1) + 1) + 1) + 1) + 1) + 1 ≤ 8 from (by omega)) (show (((((((0 + 75) + 25) + 25) + 4) + 16) + 6) + 6) + 18 ≤ 175 from (by omega)) dX1_init_58 (fun y_58 H hqe hP hD hS => ?_)
    clear hqe
    have hP : va_P D vwCl [(hT, .inr (8, [.ref y_7, .ref y_15, .ref y_23, .ref o_29, .int 0, .ref y_42, .ref y_50, .null, .int 0, .int 0])), (y_7, .inl ((D.1 101), 75, .inl (fun _ => 0))), (y_15, .inl ((D.1 101), 25, .inl (fun _ => 0))), (y_23, .inl ((D.1 101), 25, .inl (fun _ => 0))), (o_29, .inr (1, [.ref aY_33, .int 0, .int 0, .int 0])), (aY_33, .inl ((D.1 100), 16, .inl (fun _ => 0))), (y_42, .inl ((D.1 101), 6, .inl (fun _ => 0))), (y_50, .inl ((D.1 101), 6, .inl (fun _ => 0))), (y_58, .inl ((D.1 101), 18, .inl (fun _ => 0)))] H := hP
    have hD : va_D A [(hT, .inr (8, [.ref y_7, .ref y_15, .ref y_23, .ref o_29, .int 0, .ref y_42, .ref y_50, .null, .int 0, .int 0])), (y_7, .inl ((D.1 101), 75, .inl (fun _ => 0))), (y_15, .inl ((D.1 101), 25, .inl (fun _ => 0))), (y_23, .inl ((D.1 101), 25, .inl (fun _ => 0))), (o_29, .inr (1, [.ref aY_33, .int 0, .int 0, .int 0])), (aY_33, .inl ((D.1 100), 16, .inl (fun _ => 0))), (y_42, .inl ((D.1 101), 6, .inl (fun _ => 0))), (y_50, .inl ((D.1 101), 6, .inl (fun _ => 0))), (y_58, .inl ((D.1 101), 18, .inl (fun _ => 0)))] := hD
    refine va_putF (D := D) (ci := 8) (v := .ref y_58) (ty := (.array .int)) (C := RX1) (T := TX1) (N := 10) hx hb hts in_X1 tyX1 tyX1_ok nmX1 hown hK hP hD hS 0 rfl rfl 7 (by decide) (hts _ q_265) (fun _ h9 => h9) rfl hin rfl (by decide +kernel) rfl rfl (Nat.le_of_ble_eq_true rfl) dX1_init_60 (fun H locs hP hD hS => ?_)
    have hP : va_P D vwCl [(hT, .inr (8, [.ref y_7, .ref y_15, .ref y_23, .ref o_29, .int 0, .ref y_42, .ref y_50, .ref y_58, .int 0, .int 0])), (y_7, .inl ((D.1 101), 75, .inl (fun _ => 0))), (y_15, .inl ((D.1 101), 25, .inl (fun _ => 0))), (y_23, .inl ((D.1 101), 25, .inl (fun _ => 0))), (o_29, .inr (1, [.ref aY_33, .int 0, .int 0, .int 0])), (aY_33, .inl ((D.1 100), 16, .inl (fun _ => 0))), (y_42, .inl ((D.1 101), 6, .inl (fun _ => 0))), (y_50, .inl ((D.1 101), 6, .inl (fun _ => 0))), (y_58, .inl ((D.1 101), 18, .inl (fun _ => 0)))] H := hP
    have hD : va_D A [(hT, .inr (8, [.ref y_7, .ref y_15, .ref y_23, .ref o_29, .int 0, .ref y_42, .ref y_50, .ref y_58, .int 0, .int 0])), (y_7, .inl ((D.1 101), 75, .inl (fun _ => 0))), (y_15, .inl ((D.1 101), 25, .inl (fun _ => 0))), (y_23, .inl ((D.1 101), 25, .inl (fun _ => 0))), (o_29, .inr (1, [.ref aY_33, .int 0, .int 0, .int 0])), (aY_33, .inl ((D.1 100), 16, .inl (fun _ => 0))), (y_42, .inl ((D.1 101), 6, .inl (fun _ => 0))), (y_50, .inl ((D.1 101), 6, .inl (fun _ => 0))), (y_58, .inl ((D.1 101), 18, .inl (fun _ => 0)))] := hD
    subst hQe
    subst hAe
    refine W.widen (k := 8) (n := 175) (by omega) (by omega) ?_
    have hP9 := hP.sub (ws' := [(hT, .inr (8, [.ref y_7, .ref y_15, .ref y_23, .ref o_29, .int 0, .ref y_42, .ref y_50, .ref y_58, .int 0, .int 0])), (y_7, .inl ((D.1 101), 75, .inl (fun _ => 0))), (y_15, .inl ((D.1 101), 25, .inl (fun _ => 0))), (y_23, .inl ((D.1 101), 25, .inl (fun _ => 0))), (o_29, .inr (1, [.ref aY_33, .int 0, .int 0, .int 0])), (aY_33, .inl ((D.1 100), 16, .inl (fun _ => 0))), (y_42, .inl ((D.1 101), 6, .inl (fun _ => 0))), (y_50, .inl ((D.1 101), 6, .inl (fun _ => 0))), (y_58, .inl ((D.1 101), 18, .inl (fun _ => 0)))]) [0, 1, 2, 3, 4, 5, 6, 7, 8] rfl
    have hD9 := hD.sub (ws' := [(hT, .inr (8, [.ref y_7, .ref y_15, .ref y_23, .ref o_29, .int 0, .ref y_42, .ref y_50, .ref y_58, .int 0, .int 0])), (y_7, .inl ((D.1 101), 75, .inl (fun _ => 0))), (y_15, .inl ((D.1 101), 25, .inl (fun _ => 0))), (y_23, .inl ((D.1 101), 25, .inl (fun _ => 0))), (o_29, .inr (1, [.ref aY_33, .int 0, .int 0, .int 0])), (aY_33, .inl ((D.1 100), 16, .inl (fun _ => 0))), (y_42, .inl ((D.1 101), 6, .inl (fun _ => 0))), (y_50, .inl ((D.1 101), 6, .inl (fun _ => 0))), (y_58, .inl ((D.1 101), 18, .inl (fun _ => 0)))]) [0, 1, 2, 3, 4, 5, 6, 7, 8] (by decide) rfl
    exact W.vret hx hb hr (fun t ht hW => ⟨⟨(y_7, y_15, y_23, o_29, aY_33, y_42, y_50, y_58), rfl, trivial, (by rw [ht]; exact hP9), (hD9)⟩, hS.F ht⟩) hS.2.2 dX1_init_63
  rw [hHe, hLe] at hgoal
  exact hgoal
