theorem gi_SX {own : String} {idx : Nat} {y : MethodName} {b : Cond} (h1 : Cond.methodLink own idx y ∈ lwAll) (h2 : Cond.static y ∈ lwAll) (h4 : Cond.initialized y.cls ∈ lwAll) (h5 : b ∈ lwAll) : GoodIn lwAll (va_wsS own idx y (b :: lwAll)) :=
  gi_cons h1 (gi_cons h2 (gi_cons h4 (gi_sub h5)))
theorem sPre_mk {D : va_G} {wc : va_W} {s : State} {H : Heap} {A : Nat → Prop} {av : List Value} (hstr : ∃ sa, vk_R "RowscanModel" 271 "" sa s) (hI : lwI D (va_A wc H.size) s H) (hP : va_P D vwCl wc H) (hK : va_K D vwCl (lwTY2 D) s) (hD : va_D A wc) (hN : (∀ w ∈ lwNest, va_Nw w s) ∧ lwTx s) (hZ : lwZ (va_A wc H.size) s H) : ∀ U : State, U.heap = H → s.WarmedH U.vm → va_Pc av (sPre D (lwTY2 D) wc H.size) av.toArray U :=
  fun U hU hW => by
    obtain ⟨h0, h1⟩ := rPre_mk (av := av) hI hP hK hD hN hZ U hU hW
    obtain ⟨sa, h2⟩ := hstr
    exact ⟨h0, h1, sa, vk_R.warm hW h2⟩
theorem and31 (x : Int32) : ∃ w, w < 32 ∧ x &&& 31 = nI w := by
  have h1 : (x &&& 31).toBitVec.toNat < 32 := by
    rw [show (x &&& 31).toBitVec = x.toBitVec &&& 31#32 from rfl, BitVec.toNat_and]
    exact Nat.lt_of_le_of_lt Nat.and_le_right (by decide)
  refine ⟨(x &&& 31).toBitVec.toNat, h1, ?_⟩
  apply Int32.toBitVec_inj.mp
  apply BitVec.eq_of_toNat_eq
  show (x &&& 31).toBitVec.toNat = (BitVec.ofNat 32 (x &&& 31).toBitVec.toNat).toNat
  rw [BitVec.toNat_ofNat]
  omega

theorem lay_e0 {R : Nat} {C : Nat} {fi : Int32} {di : Int32} {he : Int32} {br : Int32} {pa : Int32} {gu : Int32} {sc : Nat} {cl : Int32} {se : Int32} {lo : Int32} {km : Int32} {K : Nat} {kn : Nat} {hm : Int32} {nh : Nat} {ml : Int32} {n : Nat} {V : Nat → KV} {x1 : Int32} {x2 : Int32} : (F_X7_lay R C fi di he br pa gu sc cl se lo km K kn hm nh ml n V x1 x2).2.2.2.2.2.2.2.2.2.2.2.2.2.2.2.1 = (F_X7_lay R C fi di he br pa gu sc cl se lo km K kn hm nh ml n V x1 x2).2.2.2.2.2.2.2.2.2.2.2.2.2.2.2.2.2.2.2.2.2.1 := by
  unfold F_X7_lay
  (repeat' split) <;> rfl

theorem lay_e1 {R : Nat} {C : Nat} {fi : Int32} {di : Int32} {he : Int32} {br : Int32} {pa : Int32} {gu : Int32} {sc : Nat} {cl : Int32} {se : Int32} {lo : Int32} {km : Int32} {K : Nat} {kn : Nat} {hm : Int32} {nh : Nat} {ml : Int32} {n : Nat} {V : Nat → KV} {x1 : Int32} {x2 : Int32} : (F_X7_lay R C fi di he br pa gu sc cl se lo km K kn hm nh ml n V x1 x2).2.2.2.2.2.2.2.2.2.2.2.2.2.2.2.2.2.2.1 = (F_X7_lay R C fi di he br pa gu sc cl se lo km K kn hm nh ml n V x1 x2).2.2.2.2.2.2.2.2.2.2.2.2.2.2.2.2.2.2.2.2.2.2.2 := by
  unfold F_X7_lay
  (repeat' split) <;> rfl

theorem chord_e0 {K : Nat} {hm : Int32} {nh : Nat} {hcp : Nat} {hf : Nat → Nat → Int32} {x1 : Int32} {x2 : Int32} : (F_X7_chord K hm nh hcp hf x1 x2).2.2.2.1 = (F_X7_chord K hm nh hcp hf x1 x2).2.2.2.2.2.1 := by
  unfold F_X7_chord
  (repeat' split) <;> rfl

theorem chord_cap {K : Nat} {hm : Int32} {nh : Nat} {hcp : Nat} {hf : Nat → Nat → Int32} {x1 : Int32} {x2 : Int32} (h1 : nh ≤ hcp) (h2 : hcp ≤ 40) (h3 : nh ≤ 6) (h4 : hcp ≠ 0 → 10 ≤ hcp) : (F_X7_chord K hm nh hcp hf x1 x2).2.2.2.2.1 ≤ 40 := by
  unfold F_X7_chord
  (repeat' split) <;> first | exact h2 | exact (add_cap h1 h2 (by omega) h4).2.1
