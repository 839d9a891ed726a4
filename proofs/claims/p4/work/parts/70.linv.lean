theorem gi_SX {own : String} {idx : Nat} {y : MethodName} {b : Cond} (h1 : Cond.methodLink own idx y ∈ lwAll) (h2 : Cond.static y ∈ lwAll) (h4 : Cond.initialized y.cls ∈ lwAll) (h5 : b ∈ lwAll) : GoodIn lwAll (va_wsS own idx y (b :: lwAll)) :=
  gi_cons h1 (gi_cons h2 (gi_cons h4 (gi_sub h5)))
theorem sPre_mk {D : va_G} {wc : va_W} {s : State} {H : Heap} {A : Nat → Prop} {av : List Value} (hstr : ∃ sa, vk_R "RowscanModel" 271 "" sa s) (hI : lwI D (va_A wc H.size) s H) (hP : va_P D vwCl wc H) (hK : va_K D vwCl (lwTY2 D) s) (hD : va_D A wc) (hN : (∀ w ∈ lwNest, va_Nw w s) ∧ lwTx s) (hZ : lwZ (va_A wc H.size) s H) : ∀ U : State, U.heap = H → s.WarmedH U.vm → va_Pc av (sPre D (lwTY2 D) wc H.size) av.toArray U :=
  fun U hU hW => by
    obtain ⟨h0, h1⟩ := rPre_mk (av := av) hI hP hK hD hN hZ U hU hW
    obtain ⟨sa, h2⟩ := hstr
    exact ⟨h0, h1, sa, vk_R.warm hW h2⟩
theorem and31 (x : Int32) : ∃ w, w < 32 ∧ x &&& 31 = nI w := by
  have h1 : (x &&& 31).toBitVec.toNat < 32 := by
    rw [show (x &&& 31).toBitVec = x.toBitVec &&& 31#32 from rfl, BitVec.toNat_and]
    exact Nat.lt_of_le_of_lt Nat.and_le_right (by decide)
  refine ⟨(x &&& 31).toBitVec.toNat, h1, ?_⟩
  apply Int32.toBitVec_inj.mp
  apply BitVec.eq_of_toNat_eq
  show (x &&& 31).toBitVec.toNat = (BitVec.ofNat 32 (x &&& 31).toBitVec.toNat).toNat
  rw [BitVec.toNat_ofNat]
  omega

theorem lay_e0 {R : Nat} {C : Nat} {fi : Int32} {di : Int32} {he : Int32} {br : Int32} {pa : Int32} {gu : Int32} {sc : Nat} {cl : Int32} {se : Int32} {lo : Int32} {km : Int32} {K : Nat} {kn : Nat} {hm : Int32} {nh : Nat} {ml : Int32} {n : Nat} {V : Nat → KV} {x1 : Int32} {x2 : Int32} : (F_X7_lay R C fi di he br pa gu sc cl se lo km K kn hm nh ml n V x1 x2).2.2.2.2.2.2.2.2.2.2.2.2.2.2.2.1 = (F_X7_lay R C fi di he br pa gu sc cl se lo km K kn hm nh ml n V x1 x2).2.2.2.2.2.2.2.2.2.2.2.2.2.2.2.2.2.2.2.2.2.1 := by
  unfold F_X7_lay
  (repeat' split) <;> rfl

theorem lay_e1 {R : Nat} {C : Nat} {fi : Int32} {di : Int32} {he : Int32} {br : Int32} {pa : Int32} {gu : Int32} {sc : Nat} {cl : Int32} {se : Int32} {lo : Int32} {km : Int32} {K : Nat} {kn : Nat} {hm : Int32} {nh : Nat} {ml : Int32} {n : Nat} {V : Nat → KV} {x1 : Int32} {x2 : Int32} : (F_X7_lay R C fi di he br pa gu sc cl se lo km K kn hm nh ml n V x1 x2).2.2.2.2.2.2.2.2.2.2.2.2.2.2.2.2.2.2.1 = (F_X7_lay R C fi di he br pa gu sc cl se lo km K kn hm nh ml n V x1 x2).2.2.2.2.2.2.2.2.2.2.2.2.2.2.2.2.2.2.2.2.2.2.2 := by
  unfold F_X7_lay
  (repeat' split) <;> rfl

theorem chord_e0 {K : Nat} {hm : Int32} {nh : Nat} {hcp : Nat} {hf : Nat → Nat → Int32} {x1 : Int32} {x2 : Int32} : (F_X7_chord K hm nh hcp hf x1 x2).2.2.2.1 = (F_X7_chord K hm nh hcp hf x1 x2).2.2.2.2.2.1 := by
  unfold F_X7_chord
  (repeat' split) <;> rfl

theorem chord_cap {K : Nat} {hm : Int32} {nh : Nat} {hcp : Nat} {hf : Nat → Nat → Int32} {x1 : Int32} {x2 : Int32} (h1 : nh ≤ hcp) (h2 : hcp ≤ 40) (h3 : nh ≤ 6) (h4 : hcp ≠ 0 → 10 ≤ hcp) : (F_X7_chord K hm nh hcp hf x1 x2).2.2.2.2.1 ≤ 40 := by
  unfold F_X7_chord
  (repeat' split) <;> first | exact h2 | exact (add_cap h1 h2 (by omega) h4).2.1

theorem lgc_self (x : Int64) : lg_cmp x x = 0 := Int32.le_antisymm ((lg_cmp_le x x).mpr (Int64.le_refl x)) ((lg_cmp_ge x x).mpr (Int64.le_refl x))

theorem lay_acc (x1 x2 : Int32) : (E_X4_lay x1 x2 = 0 ∧ ¬ F_X7_isIn x1 2 5 = 0 ∧ ¬ F_X7_isIn x2 2 5 = 0) ∨ (¬ E_X4_lay x1 x2 = 0 ∧ (F_X7_isIn x1 2 5 = 0 ∨ (¬ F_X7_isIn x1 2 5 = 0 ∧ F_X7_isIn x2 2 5 = 0))) := by
  have e : E_X4_lay x1 x2 = if F_X7_isIn x1 2 5 = 0 then 1 else if F_X7_isIn x2 2 5 = 0 then 1 else 0 := rfl
  by_cases h1 : F_X7_isIn x1 2 5 = 0
  · refine Or.inr ⟨?_, Or.inl h1⟩
    rw [e, if_pos h1]
    decide
  · by_cases h2 : F_X7_isIn x2 2 5 = 0
    · refine Or.inr ⟨?_, Or.inr ⟨h1, h2⟩⟩
      rw [e, if_neg h1, if_pos h2]
      decide
    · refine Or.inl ⟨?_, h1, h2⟩
      rw [e, if_neg h1, if_neg h2]

theorem lay4_acc {x1 x2 : Int32} (h : E_X4_lay x1 x2 = 0) : ¬ F_X4_isSize x1 = 0 ∧ ¬ F_X4_isSize x2 = 0 := by
  unfold E_X4_lay at h
  by_cases h1 : F_X4_isSize x1 = 0
  · rw [if_pos h1] at h; exact absurd h (by decide)
  · rw [if_neg h1] at h
    by_cases h2 : F_X4_isSize x2 = 0
    · rw [if_pos h2] at h; exact absurd h (by decide)
    · exact ⟨h1, h2⟩

theorem lay_R {sc : Nat} {pa : Int32} {gu : Int32} {cl : Int32} {se : Int32} {R : Nat} {C : Nat} {K : Nat} {fi : Int32} {di : Int32} {br : Int32} {li : Int32} {he : Int32} {dn : Int32} {ea : Int32} {lo : Int32} {Ch : Nat} {ct : Int32} {ml : Int32} {n : Nat} {fB : Nat → Int32} {fS : Nat → Int32} {fN : Nat → Int32} {fM : Nat → Int32} {fCn : Nat → Int32} {fE : Nat → Int32} {fLE : Nat → Int32} {fC : Nat → Int32} {fG : Nat → Int32} {fI : Nat → Int32} {x1 : Int32} {x2 : Int32} {mR : Nat} {mC : Nat} {mfi : Int32} {mdi : Int32} {mhe : Int32} {mbr : Int32} {mpa : Int32} {mgu : Int32} {msc : Nat} {mcl : Int32} {mse : Int32} {mlo : Int32} {mkm : Int32} {mK : Nat} {mkn : Nat} {mhm : Int32} {mnh : Nat} {mml : Int32} {mn : Nat} {mV : Nat → KV} (h : R = mR) : (F_L_lay sc pa gu cl se R C K fi di br li he dn ea lo Ch ct ml n fB fS fN fM fCn fE fLE fC fG fI x1 x2).2.2.2.2.2.2.2.2.2.2.2.2.2.2.2.2.2.2.1 = (F_X7_lay mR mC mfi mdi mhe mbr mpa mgu msc mcl mse mlo mkm mK mkn mhm mnh mml mn mV x1 x2).2.2.1 := by
  rcases lay_acc x1 x2 with ⟨h0, h1, h2⟩ | ⟨h0, h1 | ⟨h1, h2⟩⟩
  · unfold F_L_lay F_X7_lay
    rw [if_pos h0, if_neg h1, if_neg h2]
    all_goals first | rfl | exact rfl
  · unfold F_L_lay F_X7_lay
    rw [if_neg h0, if_pos h1]
    exact h
  · unfold F_L_lay F_X7_lay
    rw [if_neg h0, if_neg h1, if_pos h2]
    exact h

theorem lay_C {sc : Nat} {pa : Int32} {gu : Int32} {cl : Int32} {se : Int32} {R : Nat} {C : Nat} {K : Nat} {fi : Int32} {di : Int32} {br : Int32} {li : Int32} {he : Int32} {dn : Int32} {ea : Int32} {lo : Int32} {Ch : Nat} {ct : Int32} {ml : Int32} {n : Nat} {fB : Nat → Int32} {fS : Nat → Int32} {fN : Nat → Int32} {fM : Nat → Int32} {fCn : Nat → Int32} {fE : Nat → Int32} {fLE : Nat → Int32} {fC : Nat → Int32} {fG : Nat → Int32} {fI : Nat → Int32} {x1 : Int32} {x2 : Int32} {mR : Nat} {mC : Nat} {mfi : Int32} {mdi : Int32} {mhe : Int32} {mbr : Int32} {mpa : Int32} {mgu : Int32} {msc : Nat} {mcl : Int32} {mse : Int32} {mlo : Int32} {mkm : Int32} {mK : Nat} {mkn : Nat} {mhm : Int32} {mnh : Nat} {mml : Int32} {mn : Nat} {mV : Nat → KV} (h : C = mC) : (F_L_lay sc pa gu cl se R C K fi di br li he dn ea lo Ch ct ml n fB fS fN fM fCn fE fLE fC fG fI x1 x2).2.2.2.2.2.2.2.2.2.2.2.2.2.2.2.2.2.2.2.1 = (F_X7_lay mR mC mfi mdi mhe mbr mpa mgu msc mcl mse mlo mkm mK mkn mhm mnh mml mn mV x1 x2).2.2.2.1 := by
  rcases lay_acc x1 x2 with ⟨h0, h1, h2⟩ | ⟨h0, h1 | ⟨h1, h2⟩⟩
  · unfold F_L_lay F_X7_lay
    rw [if_pos h0, if_neg h1, if_neg h2]
    all_goals first | rfl | exact rfl
  · unfold F_L_lay F_X7_lay
    rw [if_neg h0, if_pos h1]
    exact h
  · unfold F_L_lay F_X7_lay
    rw [if_neg h0, if_neg h1, if_pos h2]
    exact h

theorem lay_br {sc : Nat} {pa : Int32} {gu : Int32} {cl : Int32} {se : Int32} {R : Nat} {C : Nat} {K : Nat} {fi : Int32} {di : Int32} {br : Int32} {li : Int32} {he : Int32} {dn : Int32} {ea : Int32} {lo : Int32} {Ch : Nat} {ct : Int32} {ml : Int32} {n : Nat} {fB : Nat → Int32} {fS : Nat → Int32} {fN : Nat → Int32} {fM : Nat → Int32} {fCn : Nat → Int32} {fE : Nat → Int32} {fLE : Nat → Int32} {fC : Nat → Int32} {fG : Nat → Int32} {fI : Nat → Int32} {x1 : Int32} {x2 : Int32} {mR : Nat} {mC : Nat} {mfi : Int32} {mdi : Int32} {mhe : Int32} {mbr : Int32} {mpa : Int32} {mgu : Int32} {msc : Nat} {mcl : Int32} {mse : Int32} {mlo : Int32} {mkm : Int32} {mK : Nat} {mkn : Nat} {mhm : Int32} {mnh : Nat} {mml : Int32} {mn : Nat} {mV : Nat → KV} (h : br = mbr) : (F_L_lay sc pa gu cl se R C K fi di br li he dn ea lo Ch ct ml n fB fS fN fM fCn fE fLE fC fG fI x1 x2).2.2.2.2.2.2.2.2.2.2.2.2.2.2.2.2.2.2.2.2.2.2.2.1 = (F_X7_lay mR mC mfi mdi mhe mbr mpa mgu msc mcl mse mlo mkm mK mkn mhm mnh mml mn mV x1 x2).2.2.2.2.2.2.2.1 := by
  rcases lay_acc x1 x2 with ⟨h0, h1, h2⟩ | ⟨h0, h1 | ⟨h1, h2⟩⟩
  · unfold F_L_lay F_X7_lay
    rw [if_pos h0, if_neg h1, if_neg h2]
    all_goals first | rfl | exact rfl
  · unfold F_L_lay F_X7_lay
    rw [if_neg h0, if_pos h1]
    exact h
  · unfold F_L_lay F_X7_lay
    rw [if_neg h0, if_neg h1, if_pos h2]
    exact h

theorem lay_b {sc : Nat} {pa : Int32} {gu : Int32} {cl : Int32} {se : Int32} {R : Nat} {C : Nat} {K : Nat} {fi : Int32} {di : Int32} {br : Int32} {li : Int32} {he : Int32} {dn : Int32} {ea : Int32} {lo : Int32} {Ch : Nat} {ct : Int32} {ml : Int32} {n : Nat} {fB : Nat → Int32} {fS : Nat → Int32} {fN : Nat → Int32} {fM : Nat → Int32} {fCn : Nat → Int32} {fE : Nat → Int32} {fLE : Nat → Int32} {fC : Nat → Int32} {fG : Nat → Int32} {fI : Nat → Int32} {x1 : Int32} {x2 : Int32} (h : ∃ b, b < 1024 ∧ br = nI b) : ∃ b, b < 1024 ∧ (F_L_lay sc pa gu cl se R C K fi di br li he dn ea lo Ch ct ml n fB fS fN fM fCn fE fLE fC fG fI x1 x2).2.2.2.2.2.2.2.2.2.2.2.2.2.2.2.2.2.2.2.2.2.2.2.1 = nI b := by
  rcases lay_acc x1 x2 with ⟨h0, h1, h2⟩ | ⟨h0, -⟩
  · refine ⟨0, by decide, ?_⟩
    unfold F_L_lay
    rw [if_pos h0]
    rfl
  · unfold F_L_lay
    rw [if_neg h0]
    exact h
theorem with_10 : ∀ b, b < 1024 → ∀ k, k < 10 → ((nI b &&& (((1 : Int32) <<< (nI k &&& 31)) ^^^ (-1))).toNatClampNeg < 1024 ∧ nI (nI b &&& (((1 : Int32) <<< (nI k &&& 31)) ^^^ (-1))).toNatClampNeg = nI b &&& (((1 : Int32) <<< (nI k &&& 31)) ^^^ (-1))) ∧ ((nI b ||| ((1 : Int32) <<< (nI k &&& 31))).toNatClampNeg < 1024 ∧ nI (nI b ||| ((1 : Int32) <<< (nI k &&& 31))).toNatClampNeg = nI b ||| ((1 : Int32) <<< (nI k &&& 31))) := by decide +kernel
theorem many_10 : ∀ b, b < 1024 → F_J6_bitCount_0f7a4 (nI b) = F_X7_many (nI b) := by decide +kernel
theorem with_b {br x1 x2 : Int32} {k : Nat} (hb : ∃ b, b < 1024 ∧ br = nI b) (hx : x1 = nI k) (hk : k < 10) : ∃ b, b < 1024 ∧ F_X7_with br x1 x2 = nI b := by
  obtain ⟨b, b1, rfl⟩ := hb
  subst hx
  obtain ⟨w1, w2⟩ := with_10 b b1 k hk
  unfold F_X7_with
  by_cases h : x2 = 0
  · rw [if_pos h]
    exact ⟨_, w1.1, w1.2.symm⟩
  · rw [if_neg h]
    exact ⟨_, w2.1, w2.2.symm⟩
theorem brk_w {R C : Nat} {fi br x1 x2 : Int32} : (F_X3_breakLine R C fi br x1 x2).1 = F_X7_with br x1 x2 := by
  unfold F_X3_breakLine F_X7_with
  by_cases h : x2 = 0
  · rw [if_pos h, if_pos h]
    rfl
  · rw [if_neg h, if_neg h]
    rfl
theorem line_acc {R C : Nat} (x1 : Int32) (hR : R ≤ 5) (hC : C ≤ 5) (h0 : 0 < R) : (E_X4_line R C x1 = 0 ∧ ¬ F_X7_isIn x1 0 ((nI R + nI C) - 1) = 0) ∨ (¬ E_X4_line R C x1 = 0 ∧ F_X7_isIn x1 0 ((nI R + nI C) - 1) = 0) := by
  rw [show nI R + nI C = nI (R + C) from nI_add R C, nI_m1 (by omega)]
  unfold E_X4_line F_X7_isIn
  rw [show nI R + nI C = nI (R + C) from nI_add R C]
  by_cases h1 : x1 < 0
  · rw [if_pos h1, if_pos h1]
    exact Or.inr ⟨by decide, rfl⟩
  · rw [if_neg h1, if_neg h1]
    by_cases h2 : x1 < nI (R + C)
    · have h3 : ¬ nI (R + C - 1) < x1 := by
        rw [Int32.lt_iff_toInt_lt, nI_toInt (by omega)] at h2 ⊢
        omega
      rw [if_pos h2, if_neg h3]
      exact Or.inl ⟨rfl, by decide⟩
    · have h3 : nI (R + C - 1) < x1 := by
        rw [Int32.lt_iff_toInt_lt, nI_toInt (by omega)] at h2 ⊢
        omega
      rw [if_neg h2, if_pos h3]
      exact Or.inr ⟨by decide, rfl⟩
theorem line4 {R C : Nat} {fi br li x1 x2 : Int32} (h : E_X4_line R C x1 = 0) : (F_X4_line R C fi br li x1 x2).1 = F_J6_bitCount_0f7a4 (F_X7_with br x1 x2) ∧ (F_X4_line R C fi br li x1 x2).2.1 = F_X7_with br x1 x2 ∧ 0 ≤ x1 ∧ x1 < nI R + nI C := by
  unfold E_X4_line at h
  unfold F_X4_line
  by_cases h1 : x1 < 0
  · rw [if_pos h1] at h
    exact absurd h (by decide)
  · rw [if_neg h1] at h
    rw [if_neg h1]
    by_cases h2 : x1 < nI R + nI C
    · rw [if_pos h2]
      exact ⟨by rw [← brk_w (R := R) (C := C) (fi := fi)], brk_w, Int32.not_lt.mp h1, h2⟩
    · rw [if_neg h2] at h
      exact absurd h (by decide)
theorem line_cmp {R : Nat} {C : Nat} {fi : Int32} {br : Int32} {li : Int32} {x1 : Int32} {x2 : Int32} {on : Int64} {mR : Nat} {mC : Nat} {mbr : Int32} (hR : R ≤ 5) (hC : C ≤ 5) (h0 : 0 < mR) (h : br = mbr ∧ R = mR ∧ C = mC ∧ ∃ b, b < 1024 ∧ br = nI b) : (F_X7_line mR mC mbr x1 x2).2.1 = (F_L_line R C fi br li x1 x2 on).1 ∧ ((F_L_line R C fi br li x1 x2 on).1 = 0 → lg_cmp (F_L_line R C fi br li x1 x2 on).2.2.2 ((F_X7_line mR mC mbr x1 x2).1).toInt64 = 0) ∧ (F_L_line R C fi br li x1 x2 on).2.1 = (F_X7_line mR mC mbr x1 x2).2.2 ∧ ∃ b, b < 1024 ∧ (F_L_line R C fi br li x1 x2 on).2.1 = nI b := by
  obtain ⟨e1, e2, e3, hb⟩ := h
  subst e1
  subst e2
  subst e3
  rcases line_acc x1 hR hC h0 with ⟨g0, g1⟩ | ⟨g0, g1⟩
  · have f1 : (F_L_line R C fi br li x1 x2 on).1 = 0 := by unfold F_L_line; rw [if_pos g0]
    have f2 : (F_L_line R C fi br li x1 x2 on).2.2.2 = ((F_X4_line R C fi br li x1 x2).1).toInt64 := by unfold F_L_line; rw [if_pos g0]
    have f3 : (F_L_line R C fi br li x1 x2 on).2.1 = (F_X4_line R C fi br li x1 x2).2.1 := by unfold F_L_line; rw [if_pos g0]
    have f4 : (F_X7_line R C br x1 x2) = (F_X7_many (F_X7_with br x1 x2), (F_X7_start 0 1).2, F_X7_with br x1 x2) := by unfold F_X7_line; rw [if_neg g1, if_pos s0_eq]
    obtain ⟨l1, l2, l3, l4⟩ := line4 (fi := fi) (br := br) (li := li) (x2 := x2) g0
    obtain ⟨k1, k2⟩ := in_nat (b := 9) (by omega) l3 (by
      rw [show nI R + nI C = nI (R + C) from nI_add R C, Int32.lt_iff_toInt_lt, nI_toInt (by omega)] at l4
      rw [Int32.le_iff_toInt_le, nI_toInt (by omega)]
      omega)
    obtain ⟨b, b1, b2⟩ := with_b (x2 := x2) hb k2 (by omega)
    rw [f1, f2, f3, f4, l1, l2]
    refine ⟨show (F_X7_start 0 1).2 = 0 by decide, fun _ => ?_, rfl, b, b1, b2⟩
    show lg_cmp (F_J6_bitCount_0f7a4 (F_X7_with br x1 x2)).toInt64 (F_X7_many (F_X7_with br x1 x2)).toInt64 = 0
    rw [b2, many_10 b b1]
    exact lgc_self _
  · have f1 : (F_L_line R C fi br li x1 x2 on).1 = 1 := by unfold F_L_line; rw [if_neg g0]
    have f3 : (F_L_line R C fi br li x1 x2 on).2.1 = br := by unfold F_L_line; rw [if_neg g0]
    have f4 : (F_X7_line R C br x1 x2) = (0, (F_X7_start 1 1).2, br) := by unfold F_X7_line; rw [if_pos g1, if_neg s1_ne]
    rw [f1, f3, f4]
    exact ⟨show (F_X7_start 1 1).2 = 1 by decide, fun h9 => absurd h9 (by decide), rfl, hb⟩
