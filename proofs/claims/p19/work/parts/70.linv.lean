theorem gi_SX {own : String} {idx : Nat} {y : MethodName} {b : Cond} (h1 : Cond.methodLink own idx y ∈ lwAll) (h2 : Cond.static y ∈ lwAll) (h4 : Cond.initialized y.cls ∈ lwAll) (h5 : b ∈ lwAll) : GoodIn lwAll (va_wsS own idx y (b :: lwAll)) :=
  gi_cons h1 (gi_cons h2 (gi_cons h4 (gi_sub h5)))
theorem sPre_mk {D : va_G} {wc : va_W} {s : State} {H : Heap} {A : Nat → Prop} {av : List Value} (hstr : ∃ sa, vk_R "RowscanModel" 271 "" sa s) (hI : lwI D (va_A wc H.size) s H) (hP : va_P D vwCl wc H) (hK : va_K D vwCl (lwTY2 D) s) (hD : va_D A wc) (hN : (∀ w ∈ lwNest, va_Nw w s) ∧ lwTx s) (hZ : lwZ (va_A wc H.size) s H) : ∀ U : State, U.heap = H → s.WarmedH U.vm → va_Pc av (sPre D (lwTY2 D) wc H.size) av.toArray U :=
  fun U hU hW => by
    obtain ⟨h0, h1⟩ := rPre_mk (av := av) hI hP hK hD hN hZ U hU hW
    obtain ⟨sa, h2⟩ := hstr
    exact ⟨h0, h1, sa, vk_R.warm hW h2⟩
theorem and31 (x : Int32) : ∃ w, w < 32 ∧ x &&& 31 = nI w := by
  have h1 : (x &&& 31).toBitVec.toNat < 32 := by
    rw [show (x &&& 31).toBitVec = x.toBitVec &&& 31#32 from rfl, BitVec.toNat_and]
    exact Nat.lt_of_le_of_lt Nat.and_le_right (by decide)
  refine ⟨(x &&& 31).toBitVec.toNat, h1, ?_⟩
  apply Int32.toBitVec_inj.mp
  apply BitVec.eq_of_toNat_eq
  show (x &&& 31).toBitVec.toNat = (BitVec.ofNat 32 (x &&& 31).toBitVec.toNat).toNat
  rw [BitVec.toNat_ofNat]
  omega

theorem lay_e0 {R : Nat} {C : Nat} {fi : Int32} {di : Int32} {he : Int32} {br : Int32} {pa : Int32} {gu : Int32} {sc : Nat} {cl : Int32} {se : Int32} {lo : Int32} {km : Int32} {K : Nat} {kn : Nat} {hm : Int32} {nh : Nat} {ml : Int32} {n : Nat} {V : Nat → KV} {x1 : Int32} {x2 : Int32} : (F_X7_lay R C fi di he br pa gu sc cl se lo km K kn hm nh ml n V x1 x2).2.2.2.2.2.2.2.2.2.2.2.2.2.2.2.1 = (F_X7_lay R C fi di he br pa gu sc cl se lo km K kn hm nh ml n V x1 x2).2.2.2.2.2.2.2.2.2.2.2.2.2.2.2.2.2.2.2.2.2.1 := by
  unfold F_X7_lay
  (repeat' split) <;> rfl

theorem lay_e1 {R : Nat} {C : Nat} {fi : Int32} {di : Int32} {he : Int32} {br : Int32} {pa : Int32} {gu : Int32} {sc : Nat} {cl : Int32} {se : Int32} {lo : Int32} {km : Int32} {K : Nat} {kn : Nat} {hm : Int32} {nh : Nat} {ml : Int32} {n : Nat} {V : Nat → KV} {x1 : Int32} {x2 : Int32} : (F_X7_lay R C fi di he br pa gu sc cl se lo km K kn hm nh ml n V x1 x2).2.2.2.2.2.2.2.2.2.2.2.2.2.2.2.2.2.2.1 = (F_X7_lay R C fi di he br pa gu sc cl se lo km K kn hm nh ml n V x1 x2).2.2.2.2.2.2.2.2.2.2.2.2.2.2.2.2.2.2.2.2.2.2.2 := by
  unfold F_X7_lay
  (repeat' split) <;> rfl

theorem chord_e0 {K : Nat} {hm : Int32} {nh : Nat} {hcp : Nat} {hf : Nat → Nat → Int32} {x1 : Int32} {x2 : Int32} : (F_X7_chord K hm nh hcp hf x1 x2).2.2.2.1 = (F_X7_chord K hm nh hcp hf x1 x2).2.2.2.2.2.1 := by
  unfold F_X7_chord
  (repeat' split) <;> rfl

theorem chord_cap {K : Nat} {hm : Int32} {nh : Nat} {hcp : Nat} {hf : Nat → Nat → Int32} {x1 : Int32} {x2 : Int32} (h1 : nh ≤ hcp) (h2 : hcp ≤ 40) (h3 : nh ≤ 6) (h4 : hcp ≠ 0 → 10 ≤ hcp) : (F_X7_chord K hm nh hcp hf x1 x2).2.2.2.2.1 ≤ 40 := by
  unfold F_X7_chord
  (repeat' split) <;> first | exact h2 | exact (add_cap h1 h2 (by omega) h4).2.1

theorem lgc_self (x : Int64) : lg_cmp x x = 0 := Int32.le_antisymm ((lg_cmp_le x x).mpr (Int64.le_refl x)) ((lg_cmp_ge x x).mpr (Int64.le_refl x))

theorem lay_acc (x1 x2 : Int32) : (E_X4_lay x1 x2 = 0 ∧ ¬ F_X7_isIn x1 2 5 = 0 ∧ ¬ F_X7_isIn x2 2 5 = 0) ∨ (¬ E_X4_lay x1 x2 = 0 ∧ (F_X7_isIn x1 2 5 = 0 ∨ (¬ F_X7_isIn x1 2 5 = 0 ∧ F_X7_isIn x2 2 5 = 0))) := by
  have e : E_X4_lay x1 x2 = if F_X7_isIn x1 2 5 = 0 then 1 else if F_X7_isIn x2 2 5 = 0 then 1 else 0 := rfl
  by_cases h1 : F_X7_isIn x1 2 5 = 0
  · refine Or.inr ⟨?_, Or.inl h1⟩
    rw [e, if_pos h1]
    decide
  · by_cases h2 : F_X7_isIn x2 2 5 = 0
    · refine Or.inr ⟨?_, Or.inr ⟨h1, h2⟩⟩
      rw [e, if_neg h1, if_pos h2]
      decide
    · refine Or.inl ⟨?_, h1, h2⟩
      rw [e, if_neg h1, if_neg h2]

theorem lay4_acc {x1 x2 : Int32} (h : E_X4_lay x1 x2 = 0) : ¬ F_X4_isSize x1 = 0 ∧ ¬ F_X4_isSize x2 = 0 := by
  unfold E_X4_lay at h
  by_cases h1 : F_X4_isSize x1 = 0
  · rw [if_pos h1] at h; exact absurd h (by decide)
  · rw [if_neg h1] at h
    by_cases h2 : F_X4_isSize x2 = 0
    · rw [if_pos h2] at h; exact absurd h (by decide)
    · exact ⟨h1, h2⟩

theorem has_hold (x k : Int32) : F_X4_holds x k = F_X7_has x k := rfl
theorem in_iff (x : Int32) (a b : Int32) : (F_X7_isIn x a b = 0 ∧ (x < a ∨ (¬ x < a ∧ b < x))) ∨ (¬ F_X7_isIn x a b = 0 ∧ ¬ x < a ∧ ¬ b < x) := by
  unfold F_X7_isIn
  by_cases h1 : x < a
  · rw [if_pos h1]; exact Or.inl ⟨rfl, Or.inl h1⟩
  · rw [if_neg h1]
    by_cases h2 : b < x
    · rw [if_pos h2]; exact Or.inl ⟨rfl, Or.inr ⟨h1, h2⟩⟩
    · rw [if_neg h2]; exact Or.inr ⟨by decide, h1, h2⟩
theorem key_iff {K : Nat} {x : Int32} (hK : K ≤ 25) (h0 : 0 < K) : (F_X3_hasKey K x = 0 ∧ ¬ F_X7_isNoKey K x = 0) ∨ (¬ F_X3_hasKey K x = 0 ∧ F_X7_isNoKey K x = 0 ∧ ∃ k, k < K ∧ x = nI k) := by
  unfold F_X3_hasKey F_X7_isNoKey
  rw [show F_Jx4a65c_size_8abf5 K - 1 = nI (K - 1) from nI_m1 h0]
  rcases in_iff x 0 (nI (K - 1)) with ⟨a1, a2 | ⟨a2, a3⟩⟩ | ⟨a1, a2, a3⟩
  · rw [if_pos a2, if_pos a1]; exact Or.inl ⟨rfl, by decide⟩
  · have h1 : nI K ≤ x := by
      rw [Int32.lt_iff_toInt_lt, nI_toInt (by omega)] at a3
      rw [Int32.le_iff_toInt_le, nI_toInt (by omega)]
      omega
    rw [if_neg a2, if_pos h1, if_pos a1]; exact Or.inl ⟨rfl, by decide⟩
  · have h1 : ¬ nI K ≤ x := by
      rw [Int32.lt_iff_toInt_lt, nI_toInt (by omega)] at a3
      rw [Int32.le_iff_toInt_le, nI_toInt (by omega)]
      omega
    obtain ⟨j, hj, rfl⟩ := nI_of a2
    rw [if_neg a2, if_neg h1, if_neg a1]
    refine Or.inr ⟨by decide, rfl, j, ?_, rfl⟩
    rcases Nat.lt_or_ge j K with q | q
    · exact q
    · exact absurd (nI_le q hj) h1
theorem i_nI (x : Int32) : x = nI x.toBitVec.toNat := by
  apply Int32.toBitVec_inj.mp
  apply BitVec.eq_of_toNat_eq
  show x.toBitVec.toNat = (BitVec.ofNat 32 x.toBitVec.toNat).toNat
  rw [BitVec.toNat_ofNat]
  omega
theorem shl25 : ∀ k, k < 26 → (1 : Int32) <<< (nI k &&& 31) = nI (2 ^ k) := by decide +kernel
theorem or_nI (a b : Nat) : nI a ||| nI b = nI (a ||| b) := by
  apply Int32.toBitVec_inj.mp
  apply BitVec.eq_of_toNat_eq
  rw [Int32.toBitVec_or, BitVec.toNat_or]
  show a % 2 ^ 32 ||| b % 2 ^ 32 = (a ||| b) % 2 ^ 32
  rw [Nat.or_mod_two_pow]
theorem with25 {x x2 : Int32} {k : Nat} (hx : ∃ b, b < 2 ^ 25 ∧ x = nI b) (hk : k < 25) : ∃ b, b < 2 ^ 25 ∧ F_X7_with x (nI k) x2 = nI b := by
  obtain ⟨b, hb, rfl⟩ := hx
  unfold F_X7_with
  by_cases h : x2 = 0
  · rw [if_pos h]
    refine ⟨(nI b &&& (((1 : Int32) <<< (nI k &&& 31)) ^^^ (-1))).toBitVec.toNat, ?_, i_nI _⟩
    rw [Int32.toBitVec_and, BitVec.toNat_and]
    refine Nat.lt_of_le_of_lt Nat.and_le_left ?_
    show b % 2 ^ 32 < 2 ^ 25
    rw [Nat.mod_eq_of_lt (by omega)]
    exact hb
  · rw [if_neg h, shl25 k (by omega), or_nI]
    exact ⟨_, Nat.or_lt_two_pow hb (Nat.pow_lt_pow_right (by decide) hk), rfl⟩
theorem hold_01 (x k : Int32) : F_X4_holds x k = 0 ∨ F_X4_holds x k = 1 := has_01 x k
theorem xor_with {he x2 : Int32} {k : Nat} (hk : k < 25) (h2 : x2 = 0 ∨ x2 = 1) (hne : ¬ F_X4_holds he (nI k) = x2) : he ^^^ ((1 : Int32) <<< (nI k &&& 31)) = F_X7_with he (nI k) x2 := by
  unfold F_X7_with
  rcases h2 with rfl | rfl
  · have hb : bt he k = true := by
      cases e : bt he k with
      | true => rfl
      | false => exact absurd ((holds_iff (by omega)).mpr e) hne
    rw [if_pos rfl]
    apply bt_ext
    intro j hj
    rw [bt_xor, bt_and, bt_not _ hj, bt_bit (by omega) hj]
    by_cases e : j = k
    · subst e; simp [hb]
    · simp [e]
  · have hb : bt he k = false := (holds_iff (by omega)).mp ((hold_01 he (nI k)).resolve_right hne)
    rw [if_neg (by decide)]
    apply bt_ext
    intro j hj
    rw [bt_xor, bt_or, bt_bit (by omega) hj]
    by_cases e : j = k
    · subst e; simp [hb]
    · simp [e]
theorem move_w {fB fN fM : Nat → Int32} {he x2 x3 : Int32} {k : Nat} (hk : k < 25) (h2 : x2 = 0 ∨ x2 = 1) : (F_X0_move fB fN fM he k x2 x3).1 = if F_X7_has he (nI k) = x2 then he else F_X7_with he (nI k) x2 := by
  unfold F_X0_move
  by_cases h : F_X4_holds he (nI k) = x2
  · rw [if_pos h, if_pos (show F_X7_has he (nI k) = x2 from h)]
  · rw [if_neg h, if_neg (show ¬ F_X7_has he (nI k) = x2 from h)]
    exact xor_with hk h2 h
theorem fit_w {R C : Nat} {fi di br x1 x2 x3 : Int32} : (F_X3_fit R C fi di br x1 x2 x3).1 = F_X7_with fi x1 x2 := by
  unfold F_X3_fit F_X7_with
  by_cases h : x2 = 0
  · rw [if_pos h, if_pos h]
    by_cases h3 : x3 = 0
    · rw [if_pos h3]; rfl
    · rw [if_neg h3]; rfl
  · rw [if_neg h, if_neg h]
    by_cases h3 : x3 = 0
    · rw [if_pos h3]; rfl
    · rw [if_neg h3]; rfl
theorem key_acc {K : Nat} {x1 x2 x4 x5 : Int32} (hK : K ≤ 25) (h0 : 0 < K) :
    (E_X4_key K x1 x2 x4 x5 = 2 ∧ ¬ F_X7_isNoKey K x1 = 0) ∨ (F_X7_isNoKey K x1 = 0 ∧ ∃ k, k < K ∧ x1 = nI k ∧ ((E_X4_key K x1 x2 x4 x5 = 1 ∧ (F_X7_isIn x4 0 5 = 0 ∨ (¬ F_X7_isIn x4 0 5 = 0 ∧ F_X7_isIn x5 0 2 = 0))) ∨ (E_X4_key K x1 x2 x4 x5 = 0 ∧ ¬ F_X7_isIn x4 0 5 = 0 ∧ ¬ F_X7_isIn x5 0 2 = 0))) := by
  unfold E_X4_key
  rcases key_iff (x := x1) hK h0 with ⟨a1, a2⟩ | ⟨a1, a2, k, a3, a4⟩
  · rw [if_pos a1]; exact Or.inl ⟨rfl, a2⟩
  · rw [if_neg a1]
    refine Or.inr ⟨a2, k, a3, a4, ?_⟩
    rcases in_iff x4 0 5 with ⟨b1, b2 | ⟨b2, b3⟩⟩ | ⟨b1, b2, b3⟩
    · rw [if_pos b2]; exact Or.inl ⟨rfl, Or.inl b1⟩
    · rw [if_neg b2, if_pos b3]; exact Or.inl ⟨rfl, Or.inl b1⟩
    · rw [if_neg b2, if_neg b3]
      rcases in_iff x5 0 2 with ⟨c1, c2 | ⟨c2, c3⟩⟩ | ⟨c1, c2, c3⟩
      · rw [if_pos c2]; exact Or.inl ⟨rfl, Or.inr ⟨b1, c1⟩⟩
      · rw [if_neg c2, if_neg (Int32.not_le.mpr c3)]; exact Or.inl ⟨rfl, Or.inr ⟨b1, c1⟩⟩
      · rw [if_neg c2, if_pos (Int32.not_lt.mp c3)]
        refine Or.inr ⟨?_, b1, c1⟩
        split <;> rfl

theorem key4 {sc : Nat} {R : Nat} {C : Nat} {K : Nat} {fi : Int32} {di : Int32} {br : Int32} {li : Int32} {he : Int32} {fB : Nat → Int32} {fS : Nat → Int32} {fN : Nat → Int32} {fM : Nat → Int32} {x1 : Int32} {x2 : Int32} {x3 : Int32} {x4 : Int32} {x5 : Int32} (h : E_X4_key K x1 x2 x4 x5 = 0) : (F_X4_key sc R C K fi di br li he fB fS fN fM x1 x2 x3 x4 x5).1 = F_J6_bitCount_0f7a4 (F_X7_with fi x1 x2) ∧ (F_X4_key sc R C K fi di br li he fB fS fN fM x1 x2 x3 x4 x5).2.1 = F_X7_with fi x1 x2 ∧ (F_X4_key sc R C K fi di br li he fB fS fN fM x1 x2 x3 x4 x5).2.2.2.2.2.2.1 = if x2 = 0 then (F_X0_move (upd fB x1.toNatClampNeg x4) fN fM he x1.toNatClampNeg 0 (nI sc)).1 else he := by
  unfold E_X4_key at h
  unfold F_X4_key
  by_cases h1 : F_X3_hasKey K x1 = 0
  · rw [if_pos h1] at h; exact absurd h (by decide)
  · rw [if_neg h1] at h ⊢
    by_cases h2 : x4 < 0
    · rw [if_pos h2] at h; exact absurd h (by decide)
    · rw [if_neg h2] at h ⊢
      by_cases h3 : 5 < x4
      · rw [if_pos h3] at h; exact absurd h (by decide)
      · rw [if_neg h3] at h ⊢
        by_cases h4 : x5 < 0
        · rw [if_pos h4] at h; exact absurd h (by decide)
        · rw [if_neg h4] at h ⊢
          by_cases h5 : x5 ≤ 2
          · rw [if_pos h5]
            by_cases h6 : x2 = 0
            · rw [if_pos h6, if_pos h6]
              exact ⟨congrArg F_J6_bitCount_0f7a4 fit_w, fit_w, rfl⟩
            · rw [if_neg h6, if_neg h6]
              exact ⟨congrArg F_J6_bitCount_0f7a4 fit_w, fit_w, rfl⟩
          · rw [if_neg h5] at h; exact absurd h (by decide)
theorem keym_acc {fi : Int32} {di : Int32} {he : Int32} {sc : Nat} {K : Nat} {V : Nat → KV} {x1 : Int32} {x2 : Int32} {x3 : Int32} {x4 : Int32} {x5 : Int32} (h1 : F_X7_isNoKey K x1 = 0) (h2 : ¬ F_X7_isIn x4 0 5 = 0) (h3 : ¬ F_X7_isIn x5 0 2 = 0) : (F_X7_key fi di he sc K V x1 x2 x3 x4 x5).1 = F_X7_many (F_X7_with fi x1 x2) ∧ (F_X7_key fi di he sc K V x1 x2 x3 x4 x5).2.1 = (F_X7_refuse ((F_X7_start (F_X7_isNoKey K x1) 1).2) 0 2).2 ∧ (F_X7_key fi di he sc K V x1 x2 x3 x4 x5).2.2.1 = F_X7_with fi x1 x2 ∧ (F_X7_key fi di he sc K V x1 x2 x3 x4 x5).2.2.2.2.1 = if x2 = 0 then (if F_X7_has he x1 = 0 then he else F_X7_with he (nI x1.toNatClampNeg) 0) else he := by
  have hs : (F_X7_start (F_X7_isNoKey K x1) 1).1 = 0 := by rw [h1]; decide
  unfold F_X7_key
  rw [if_pos hs, if_neg h2, if_neg h3]
  by_cases h6 : x2 = 0
  · rw [if_pos h6, if_pos h6]
    by_cases h7 : F_X7_has he x1 = 0
    · rw [if_pos h7, if_pos h7]; exact ⟨rfl, rfl, rfl, rfl⟩
    · rw [if_neg h7, if_neg h7]; exact ⟨rfl, rfl, rfl, rfl⟩
  · rw [if_neg h6, if_neg h6]; exact ⟨rfl, rfl, rfl, rfl⟩
theorem keym_ref {fi : Int32} {di : Int32} {he : Int32} {sc : Nat} {K : Nat} {V : Nat → KV} {x1 : Int32} {x2 : Int32} {x3 : Int32} {x4 : Int32} {x5 : Int32} (h1 : F_X7_isNoKey K x1 = 0) (h2 : F_X7_isIn x4 0 5 = 0 ∨ (¬ F_X7_isIn x4 0 5 = 0 ∧ F_X7_isIn x5 0 2 = 0)) : (F_X7_key fi di he sc K V x1 x2 x3 x4 x5).2.1 = (F_X7_refuse ((F_X7_start (F_X7_isNoKey K x1) 1).2) 1 2).2 ∧ (F_X7_key fi di he sc K V x1 x2 x3 x4 x5).2.2.1 = fi ∧ (F_X7_key fi di he sc K V x1 x2 x3 x4 x5).2.2.2.2.1 = he := by
  have hs : (F_X7_start (F_X7_isNoKey K x1) 1).1 = 0 := by rw [h1]; decide
  unfold F_X7_key
  rcases h2 with h2 | ⟨h2, h3⟩
  · rw [if_pos hs, if_pos h2]; exact ⟨rfl, rfl, rfl⟩
  · rw [if_pos hs, if_neg h2, if_pos h3]; exact ⟨rfl, rfl, rfl⟩
theorem keym_no {fi : Int32} {di : Int32} {he : Int32} {sc : Nat} {K : Nat} {V : Nat → KV} {x1 : Int32} {x2 : Int32} {x3 : Int32} {x4 : Int32} {x5 : Int32} (h1 : ¬ F_X7_isNoKey K x1 = 0) : (F_X7_key fi di he sc K V x1 x2 x3 x4 x5).2.1 = 1 ∧ (F_X7_key fi di he sc K V x1 x2 x3 x4 x5).2.2.1 = fi ∧ (F_X7_key fi di he sc K V x1 x2 x3 x4 x5).2.2.2.2.1 = he := by
  have h2 : F_X7_isNoKey K x1 = 1 := (nk_01 K x1).resolve_left h1
  have hs : ¬ (F_X7_start (F_X7_isNoKey K x1) 1).1 = 0 := by rw [h2]; decide
  unfold F_X7_key
  rw [if_neg hs]
  refine ⟨?_, rfl, rfl⟩
  show (F_X7_start (F_X7_isNoKey K x1) 1).2 = 1
  rw [h2]
  decide

/-- key leaves what is fitted and what is held alike on both sides -/
theorem key_eq {sc : Nat} {R : Nat} {C : Nat} {K : Nat} {fi : Int32} {di : Int32} {br : Int32} {li : Int32} {he : Int32} {fB : Nat → Int32} {fS : Nat → Int32} {fN : Nat → Int32} {fM : Nat → Int32} {x1 : Int32} {x2 : Int32} {x3 : Int32} {x4 : Int32} {x5 : Int32} {mfi : Int32} {mdi : Int32} {mhe : Int32} {msc : Nat} {mK : Nat} {mV : Nat → KV} (hK : K ≤ 25) (h0 : 0 < mK) (hx2 : x2 = 0 ∨ x2 = 1) (h : he = mhe ∧ fi = mfi ∧ K = mK ∧ (∃ b, b < 2 ^ 25 ∧ he = nI b) ∧ ∃ b, b < 2 ^ 25 ∧ fi = nI b) : (F_L_key sc R C K fi di br li he fB fS fN fM x1 x2 x3 x4 x5).2.2.2.2.2.1 = (F_X7_key mfi mdi mhe msc mK mV x1 x2 x3 x4 x5).2.2.2.2.1 ∧ (F_L_key sc R C K fi di br li he fB fS fN fM x1 x2 x3 x4 x5).1 = (F_X7_key mfi mdi mhe msc mK mV x1 x2 x3 x4 x5).2.2.1 ∧ (∃ b, b < 2 ^ 25 ∧ (F_L_key sc R C K fi di br li he fB fS fN fM x1 x2 x3 x4 x5).2.2.2.2.2.1 = nI b) ∧ ∃ b, b < 2 ^ 25 ∧ (F_L_key sc R C K fi di br li he fB fS fN fM x1 x2 x3 x4 x5).1 = nI b := by
  obtain ⟨e1, e2, e3, hb, hf⟩ := h
  subst e1
  subst e2
  subst e3
  rcases key_acc (x1 := x1) (x2 := x2) (x4 := x4) (x5 := x5) hK h0 with ⟨g0, g1⟩ | ⟨g1, k, g2, g3, ⟨g0, g4⟩ | ⟨g0, g4, g5⟩⟩
  · obtain ⟨-, m2, m3⟩ := keym_no (fi := fi) (di := mdi) (he := he) (sc := msc) (V := mV) (x2 := x2) (x3 := x3) (x4 := x4) (x5 := x5) g1
    have f1 : (F_L_key sc R C K fi di br li he fB fS fN fM x1 x2 x3 x4 x5).2.2.2.2.2.1 = he ∧ (F_L_key sc R C K fi di br li he fB fS fN fM x1 x2 x3 x4 x5).1 = fi := by unfold F_L_key; rw [if_neg (show ¬ E_X4_key K x1 x2 x4 x5 = 0 by rw [g0]; decide)]; exact ⟨rfl, rfl⟩
    rw [f1.1, f1.2, m2, m3]
    exact ⟨rfl, rfl, hb, hf⟩
  · obtain ⟨-, m2, m3⟩ := keym_ref (fi := fi) (di := mdi) (he := he) (sc := msc) (V := mV) (x2 := x2) (x3 := x3) (x4 := x4) (x5 := x5) g1 g4
    have f1 : (F_L_key sc R C K fi di br li he fB fS fN fM x1 x2 x3 x4 x5).2.2.2.2.2.1 = he ∧ (F_L_key sc R C K fi di br li he fB fS fN fM x1 x2 x3 x4 x5).1 = fi := by unfold F_L_key; rw [if_neg (show ¬ E_X4_key K x1 x2 x4 x5 = 0 by rw [g0]; decide)]; exact ⟨rfl, rfl⟩
    rw [f1.1, f1.2, m2, m3]
    exact ⟨rfl, rfl, hb, hf⟩
  · obtain ⟨-, -, m2, m3⟩ := keym_acc (fi := fi) (di := mdi) (he := he) (sc := msc) (V := mV) (x2 := x2) (x3 := x3) (x4 := x4) (x5 := x5) g1 g4 g5
    obtain ⟨-, l1, l2⟩ := key4 (sc := sc) (R := R) (C := C) (fi := fi) (di := di) (br := br) (li := li) (he := he) (fB := fB) (fS := fS) (fN := fN) (fM := fM) (x3 := x3) g0
    have f1 : (F_L_key sc R C K fi di br li he fB fS fN fM x1 x2 x3 x4 x5).2.2.2.2.2.1 = (F_X4_key sc R C K fi di br li he fB fS fN fM x1 x2 x3 x4 x5).2.2.2.2.2.2.1 ∧ (F_L_key sc R C K fi di br li he fB fS fN fM x1 x2 x3 x4 x5).1 = (F_X4_key sc R C K fi di br li he fB fS fN fM x1 x2 x3 x4 x5).2.1 := by unfold F_L_key; rw [if_pos g0]; exact ⟨rfl, rfl⟩
    subst g3
    rw [nI_clamp (by omega)] at l2 m3
    have hw : (if x2 = 0 then (F_X0_move (upd fB k x4) fN fM he k 0 (nI sc)).1 else he) = if x2 = 0 then (if F_X7_has he (nI k) = 0 then he else F_X7_with he (nI k) 0) else he := by
      by_cases h6 : x2 = 0
      · rw [if_pos h6, if_pos h6, move_w (by omega) (Or.inl rfl)]
      · rw [if_neg h6, if_neg h6]
    rw [f1.1, f1.2, l1, l2, m2, m3, hw]
    refine ⟨rfl, rfl, ?_, with25 hf (by omega)⟩
    by_cases h6 : x2 = 0
    · rw [if_pos h6]
      by_cases h7 : F_X7_has he (nI k) = 0
      · rw [if_pos h7]; exact hb
      · rw [if_neg h7]; exact with25 hb (by omega)
    · rw [if_neg h6]; exact hb

/-! what a set of closed keys shows: both sides are the closure of each row -/
theorem mul_nI : ∀ i, i < 6 → ∀ C, C < 6 → nI i * nI C = nI (i * C) := by decide +kernel
theorem mask_b : ∀ C, C < 6 → ∀ j, j < 32 → bt (((1 : Int32) <<< (nI C &&& 31)) - 1) j = decide (j < C) := by decide +kernel
theorem rc_lt {R C r c : Nat} (hR : R ≤ 5) (hC : C ≤ 5) (hr : r < R) (hc : c < C) : r * C + c < 25 := by
  have h1 : r * C ≤ 4 * C := Nat.mul_le_mul_right C (by omega)
  omega
theorem bt_col {C : Nat} (hC : C ≤ 5) (x : Int32) {r : Nat} (hr : r < 5) (c : Nat) : bt (F_X3_columnsOf C x (nI r)) c = (decide (c < C) && bt x (r * C + c)) := by
  unfold F_X3_columnsOf
  by_cases h32 : c < 32
  · rw [bt_and, mask_b C (by omega) c h32, mul_nI r (by omega) C (by omega)]
    by_cases hc : c < C
    · have h1 := rc_lt (R := 5) (by omega) hC hr hc
      rw [bt_shr x (by omega) (by omega), Nat.add_comm c (r * C), Bool.and_comm]
    · rw [decide_eq_false hc, Bool.and_false, Bool.false_and]
  · rw [bt_big _ (by omega), decide_eq_false (by omega), Bool.false_and]
theorem col_ne {C : Nat} (hC : C ≤ 5) {x a : Int32} {r : Nat} (hr : r < 5) : ¬ (F_X3_columnsOf C x (nI r)) &&& a = 0 ↔ ∃ c, c < C ∧ bt x (r * C + c) = true ∧ bt a c = true := by
  constructor
  · intro h
    refine Classical.byContradiction fun hn => h (bt_zero.mpr fun j hj => ?_)
    rw [bt_and, bt_col hC x hr]
    cases e : (decide (j < C) && bt x (r * C + j)) && bt a j with
    | false => rfl
    | true =>
      simp only [Bool.and_eq_true, decide_eq_true_eq] at e
      exact absurd ⟨j, e.1.1, e.1.2, e.2⟩ hn
  · rintro ⟨c, h1, h2, h3⟩ h
    have h4 := bt_zero.mp h c (by omega)
    rw [bt_and, bt_col hC x hr, h2, h3, decide_eq_true h1] at h4
    exact absurd h4 (by decide)
/-- the columns that a row comes to -/
def rch (R C : Nat) (fo ba : Int32) (r c : Nat) : Prop := ∀ P : Nat → Prop, (∀ c, c < C → bt fo (r * C + c) = true → P c) → (∀ i c d, i < R → P d → bt ba (i * C + d) = true → c < C → bt fo (i * C + c) = true → P c) → P c
theorem rch.base {R C : Nat} {fo ba : Int32} {r c : Nat} (h1 : c < C) (h2 : bt fo (r * C + c) = true) : rch R C fo ba r c := fun _ hb _ => hb c h1 h2
theorem rch.step {R C : Nat} {fo ba : Int32} {r i c d : Nat} (h1 : i < R) (h2 : rch R C fo ba r d) (h3 : bt ba (i * C + d) = true) (h4 : c < C) (h5 : bt fo (i * C + c) = true) : rch R C fo ba r c := fun P hb hs => hs i c d h1 (h2 P hb hs) h3 h4 h5
theorem rch.ind {R C : Nat} {fo ba : Int32} {r : Nat} {P : Nat → Prop} (hb : ∀ c, c < C → bt fo (r * C + c) = true → P c) (hs : ∀ i c d, i < R → rch R C fo ba r d → bt ba (i * C + d) = true → c < C → bt fo (i * C + c) = true → P d → P c) {c : Nat} (h : rch R C fo ba r c) : P c :=
  (h (fun c => rch R C fo ba r c ∧ P c) (fun c h1 h2 => ⟨.base h1 h2, hb c h1 h2⟩) (fun i c d h1 h2 h3 h4 h5 => ⟨.step h1 h2.1 h3 h4 h5, hs i c d h1 h2.1 h3 h4 h5 h2.2⟩)).2
theorem rch_lt {R C : Nat} {fo ba : Int32} {r c : Nat} (h : rch R C fo ba r c) : c < C := h (fun c => c < C) (fun _ h _ => h) (fun _ _ _ _ _ _ h _ => h)
theorem rch_first {R C : Nat} {fo ba : Int32} {r c : Nat} (h : rch R C fo ba r c) : ∃ d, d < C ∧ bt fo (r * C + d) = true := h (fun _ => ∃ d, d < C ∧ bt fo (r * C + d) = true) (fun c h1 h2 => ⟨c, h1, h2⟩) (fun _ _ _ _ h _ _ _ => h)
/-- sets taken in where a test says so -/
theorem itr_or {p : Nat → Prop} [∀ i, Decidable (p i)] {v : Nat → Int32} : ∀ (n i : Nat) (a : Int32) (j : Nat), bt (itr (fun i a => if p i then a else a ||| v i) n i a) j = true ↔ bt a j = true ∨ ∃ k, i ≤ k ∧ k < i + n ∧ ¬ p k ∧ bt (v k) j = true := by
  intro n
  induction n with
  | zero =>
    intro i a j
    constructor
    · exact fun h => Or.inl h
    · rintro (h | ⟨k, h1, h2, -⟩)
      · exact h
      · omega
  | succ n ih =>
    intro i a j
    refine (ih (i + 1) (if p i then a else a ||| v i) j).trans ?_
    by_cases hp : p i
    · rw [if_pos hp]
      constructor
      · rintro (h | ⟨k, h1, h2, h3, h4⟩)
        · exact Or.inl h
        · exact Or.inr ⟨k, by omega, by omega, h3, h4⟩
      · rintro (h | ⟨k, h1, h2, h3, h4⟩)
        · exact Or.inl h
        · by_cases e : k = i
          · subst e; exact absurd hp h3
          · exact Or.inr ⟨k, by omega, by omega, h3, h4⟩
    · rw [if_neg hp, bt_or]
      constructor
      · rintro (h | ⟨k, h1, h2, h3, h4⟩)
        · rcases (Bool.or_eq_true _ _).mp h with h | h
          · exact Or.inl h
          · exact Or.inr ⟨i, by omega, by omega, hp, h⟩
        · exact Or.inr ⟨k, by omega, by omega, h3, h4⟩
      · rintro (h | ⟨k, h1, h2, h3, h4⟩)
        · exact Or.inl (by rw [h, Bool.true_or])
        · by_cases e : k = i
          · subst e; exact Or.inl (by rw [h4, Bool.or_true])
          · exact Or.inr ⟨k, by omega, by omega, h3, h4⟩
/-- how many of the first n hold -/
def ct (p : Nat → Bool) : Nat → Nat
  | 0 => 0
  | n + 1 => ct p n + (if p n = true then 1 else 0)
theorem ct_le (p : Nat → Bool) : ∀ n, ct p n ≤ n
  | 0 => Nat.le_refl _
  | n + 1 => by
    have := ct_le p n
    rw [ct]
    split <;> omega
theorem ct_all {p : Nat → Bool} : ∀ {n : Nat}, ct p n = n → ∀ i, i < n → p i = true
  | 0, _, i, hi => absurd hi (Nat.not_lt_zero _)
  | n + 1, h, i, hi => by
    have h1 := ct_le p n
    rw [ct] at h
    by_cases hp : p n = true
    · rw [if_pos hp] at h
      by_cases e : i = n
      · rw [e]; exact hp
      · exact ct_all (n := n) (by omega) i (by omega)
    · rw [if_neg hp] at h; omega
theorem ct_mono {p q : Nat → Bool} (h : ∀ i, p i = true → q i = true) : ∀ n, ct p n ≤ ct q n
  | 0 => Nat.le_refl _
  | n + 1 => by
    have := ct_mono h n
    rw [ct, ct]
    by_cases hp : p n = true
    · rw [if_pos hp, if_pos (h n hp)]; omega
    · rw [if_neg hp]; omega
theorem ct_lt {p q : Nat → Bool} (h : ∀ i, p i = true → q i = true) {k : Nat} (hp : ¬ p k = true) (hq : q k = true) : ∀ n, k < n → ct p n < ct q n
  | 0, hk => absurd hk (Nat.not_lt_zero _)
  | n + 1, hk => by
    rw [ct, ct]
    by_cases e : k = n
    · subst e
      have := ct_mono h k
      rw [if_neg hp, if_pos hq]; omega
    · have := ct_lt h hp hq n (by omega)
      by_cases h2 : p n = true
      · rw [if_pos h2, if_pos (h n h2)]; omega
      · rw [if_neg h2]; omega
section
variable {R C : Nat} {fo ba : Int32}
/-- one step of the spread -/
theorem spr_1 (hR : R ≤ 5) (hC : C ≤ 5) (a : Int32) (c : Nat) : bt (itr (fun i b => S_X3_spread_20 C fo ba a i b) R 0 a) c = true ↔ bt a c = true ∨ ∃ i, i < R ∧ (∃ d, d < C ∧ bt ba (i * C + d) = true ∧ bt a d = true) ∧ c < C ∧ bt fo (i * C + c) = true := by
  refine (itr_or (p := fun i => (F_X3_columnsOf C ba (nI i)) &&& a = 0) (v := fun i => F_X3_columnsOf C fo (nI i)) R 0 a c).trans ?_
  constructor
  · rintro (h | ⟨k, -, h2, h3, h4⟩)
    · exact Or.inl h
    · rw [bt_col hC fo (by omega), Bool.and_eq_true, decide_eq_true_eq] at h4
      exact Or.inr ⟨k, by omega, (col_ne hC (by omega)).mp h3, h4.1, h4.2⟩
  · rintro (h | ⟨k, h2, h3, h4, h5⟩)
    · exact Or.inl h
    · refine Or.inr ⟨k, Nat.zero_le _, by omega, (col_ne hC (by omega)).mpr h3, ?_⟩
      rw [bt_col hC fo (by omega), h5, decide_eq_true h4]; rfl
/-- rows that have given all they have -/
def dnR (C : Nat) (fo ba a : Int32) (i : Nat) : Bool := decide (¬ (F_X3_columnsOf C ba (nI i)) &&& a = 0 ∧ ∀ c, c < C → bt fo (i * C + c) = true → bt a c = true)
theorem dnR_iff (hC : C ≤ 5) {a : Int32} {i : Nat} (hi : i < 5) : dnR C fo ba a i = true ↔ (∃ d, d < C ∧ bt ba (i * C + d) = true ∧ bt a d = true) ∧ ∀ c, c < C → bt fo (i * C + c) = true → bt a c = true := by
  unfold dnR
  rw [decide_eq_true_eq, col_ne hC hi]
def clR (R C : Nat) (fo ba a : Int32) : Prop := ∀ i, i < R → (∃ d, d < C ∧ bt ba (i * C + d) = true ∧ bt a d = true) → ∀ c, c < C → bt fo (i * C + c) = true → bt a c = true
theorem spr_cl (hR : R ≤ 5) (hC : C ≤ 5) : ∀ (n k : Nat) (a : Int32), R ≤ ct (fun i => decide (i < R) && dnR C fo ba a i) R + n → clR R C fo ba (L_X3_spread_6 R C fo ba n k a) ∧ (∀ c, bt a c = true → bt (L_X3_spread_6 R C fo ba n k a) c = true) := by
  intro n
  induction n with
  | zero =>
    intro k a h
    have h1 := ct_le (fun i => decide (i < R) && dnR C fo ba a i) R
    refine ⟨fun i hi _ c hc hf => ?_, fun c h => h⟩
    have h2 := ct_all (p := fun i => decide (i < R) && dnR C fo ba a i) (n := R) (by omega) i hi
    have h3 : dnR C fo ba a i = true := by
      have h4 : (decide (i < R) && dnR C fo ba a i) = true := h2
      rw [Bool.and_eq_true] at h4
      exact h4.2
    exact ((dnR_iff hC (by omega)).mp h3).2 c hc hf
  | succ n ih =>
    intro k a h
    have hs := spr_1 (fo := fo) (ba := ba) hR hC a
    have hu : ∀ c, bt a c = true → bt (itr (fun i b => S_X3_spread_20 C fo ba a i b) R 0 a) c = true := fun c hc => (hs c).mpr (Or.inl hc)
    show clR R C fo ba (if (itr (fun i b => S_X3_spread_20 C fo ba a i b) R 0 a) = a then a else L_X3_spread_6 R C fo ba n (k + 1) (itr (fun i b => S_X3_spread_20 C fo ba a i b) R 0 a)) ∧ ∀ c, bt a c = true → bt (if (itr (fun i b => S_X3_spread_20 C fo ba a i b) R 0 a) = a then a else L_X3_spread_6 R C fo ba n (k + 1) (itr (fun i b => S_X3_spread_20 C fo ba a i b) R 0 a)) c = true
    generalize (itr (fun i b => S_X3_spread_20 C fo ba a i b) R 0 a) = a' at hs hu ⊢
    by_cases he : a' = a
    · rw [if_pos he]
      refine ⟨fun i hi hd c hc hf => ?_, fun c h => h⟩
      have h1 := (hs c).mpr (Or.inr ⟨i, hi, hd, hc, hf⟩)
      rw [he] at h1
      exact h1
    · rw [if_neg he]
      have hne : ∃ c, bt a' c = true ∧ ¬ bt a c = true := by
        refine Classical.byContradiction fun hn => he (bt_ext fun j _ => ?_)
        cases e : bt a' j with
        | true =>
          cases e2 : bt a j with
          | true => rfl
          | false => exact absurd ⟨j, e, by rw [e2]; decide⟩ hn
        | false =>
          cases e2 : bt a j with
          | false => rfl
          | true => rw [hu j e2] at e; exact absurd e (by decide)
      obtain ⟨c, c1, c2⟩ := hne
      obtain ⟨i, i1, i2, i3, i4⟩ := ((hs c).mp c1).resolve_left c2
      have hall : ∀ c, c < C → bt fo (i * C + c) = true → bt a' c = true := fun c hc hf => (hs c).mpr (Or.inr ⟨i, i1, i2, hc, hf⟩)
      have h5 : ct (fun i => decide (i < R) && dnR C fo ba a i) R < ct (fun i => decide (i < R) && dnR C fo ba a' i) R := by
        refine ct_lt (fun q hq => ?_) (k := i) ?_ ?_ R i1
        · have hq : (decide (q < R) && dnR C fo ba a q) = true := hq
          rw [Bool.and_eq_true, decide_eq_true_eq] at hq
          obtain ⟨q1, q2⟩ := hq
          obtain ⟨⟨d, d1, d2, d3⟩, q3⟩ := (dnR_iff hC (by omega)).mp q2
          show (decide (q < R) && dnR C fo ba a' q) = true
          rw [decide_eq_true q1, (dnR_iff hC (by omega)).mpr ⟨⟨d, d1, d2, hu d d3⟩, fun c hc hf => hu c (q3 c hc hf)⟩]
          rfl
        · intro hq
          have hq : (decide (i < R) && dnR C fo ba a i) = true := hq
          rw [Bool.and_eq_true] at hq
          exact c2 (((dnR_iff hC (by omega)).mp hq.2).2 c i3 i4)
        · obtain ⟨d, d1, d2, d3⟩ := i2
          show (decide (i < R) && dnR C fo ba a' i) = true
          rw [decide_eq_true i1, (dnR_iff hC (by omega)).mpr ⟨⟨d, d1, d2, hu d d3⟩, hall⟩]
          rfl
      obtain ⟨r1, r2⟩ := ih (k + 1) a' (by omega)
      exact ⟨r1, fun c hc => r2 c (hu c hc)⟩
theorem spr_sd (hR : R ≤ 5) (hC : C ≤ 5) {P : Nat → Prop} (hP : ∀ i d c, i < R → P d → bt ba (i * C + d) = true → c < C → bt fo (i * C + c) = true → P c) : ∀ (n k : Nat) (a : Int32), (∀ c, bt a c = true → P c) → ∀ c, bt (L_X3_spread_6 R C fo ba n k a) c = true → P c := by
  intro n
  induction n with
  | zero => exact fun k a h => h
  | succ n ih =>
    intro k a h
    show ∀ c, bt (if (itr (fun i b => S_X3_spread_20 C fo ba a i b) R 0 a) = a then a else L_X3_spread_6 R C fo ba n (k + 1) (itr (fun i b => S_X3_spread_20 C fo ba a i b) R 0 a)) c = true → P c
    by_cases he : (itr (fun i b => S_X3_spread_20 C fo ba a i b) R 0 a) = a
    · rw [if_pos he]; exact h
    · rw [if_neg he]
      refine ih (k + 1) _ (fun c hc => ?_)
      rcases (spr_1 hR hC a c).mp hc with h1 | ⟨i, i1, ⟨d, d1, d2, d3⟩, i3, i4⟩
      · exact h c h1
      · exact hP i d c i1 (h d d3) d2 i3 i4
theorem spread_iff (hR : R ≤ 5) (hC : C ≤ 5) {r : Nat} (hr : r < R) (c : Nat) : bt (F_X3_spread R C (F_X3_columnsOf C fo (nI r)) fo ba R) c = true ↔ rch R C fo ba r c := by
  unfold F_X3_spread
  have hf : ∀ c, bt (F_X3_columnsOf C fo (nI r)) c = true ↔ c < C ∧ bt fo (r * C + c) = true := fun c => by
    rw [bt_col hC fo (by omega), Bool.and_eq_true, decide_eq_true_eq]
  obtain ⟨h1, h2⟩ := spr_cl (fo := fo) (ba := ba) hR hC R 0 (F_X3_columnsOf C fo (nI r)) (by omega)
  constructor
  · exact spr_sd hR hC (P := rch R C fo ba r) (fun i d c hi hd hb hc hf => .step hi hd hb hc hf) R 0 _ (fun c hc => .base ((hf c).mp hc).1 ((hf c).mp hc).2) c
  · intro h
    exact rch.ind (P := fun c => bt (L_X3_spread_6 R C fo ba R 0 (F_X3_columnsOf C fo (nI r))) c = true) (fun c q1 q2 => h2 _ ((hf _).mpr ⟨q1, q2⟩)) (fun i c d q1 q2 q3 q4 q5 ih => h1 _ q1 ⟨_, rch_lt q2, q3, ih⟩ _ q4 q5) h
end
theorem shl_or {C : Nat} (hC : C ≤ 5) {i : Nat} (hi : i < 5) (x : Int32) (j : Nat) : bt (x <<< (((nI i) * (nI C)) &&& 31)) j = (decide (j < 32) && (decide (i * C ≤ j) && bt x (j - i * C))) := by
  have h1 : i * C ≤ 4 * C := Nat.mul_le_mul_right C (by omega)
  rw [mul_nI i (by omega) C (by omega), bt_shl x (by omega) j]
section
variable {R C : Nat} {fo ba : Int32}
/-- the class's board seen -/
theorem seenI_iff (hR : R ≤ 5) (hC : C ≤ 5) (j : Nat) : bt (itr (fun i a => if F_X3_columnsOf C fo (nI i) = 0 then a else a ||| ((F_X3_spread R C (F_X3_columnsOf C fo (nI i)) fo ba R) <<< (((nI i) * (nI C)) &&& 31))) R 0 0) j = true ↔ ∃ r c, r < R ∧ j = r * C + c ∧ rch R C fo ba r c := by
  refine (itr_or (p := fun i => F_X3_columnsOf C fo (nI i) = 0) (v := fun i => (F_X3_spread R C (F_X3_columnsOf C fo (nI i)) fo ba R) <<< (((nI i) * (nI C)) &&& 31)) R 0 0 j).trans ?_
  constructor
  · rintro (h | ⟨i, -, h2, h3, h4⟩)
    · rw [bt_0] at h; exact absurd h (by decide)
    · rw [shl_or hC (by omega), Bool.and_eq_true, Bool.and_eq_true, decide_eq_true_eq, decide_eq_true_eq] at h4
      exact ⟨i, j - i * C, by omega, by omega, (spread_iff hR hC (by omega) _).mp h4.2.2⟩
  · rintro ⟨r, c, h1, rfl, h3⟩
    have hc := rch_lt h3
    have h4 := rc_lt hR hC h1 hc
    refine Or.inr ⟨r, Nat.zero_le _, by omega, fun e => ?_, ?_⟩
    · obtain ⟨d, d1, d2⟩ := rch_first h3
      have h5 := bt_col hC fo (r := r) (by omega) d
      rw [e, bt_0, decide_eq_true d1, d2] at h5
      exact absurd h5 (by decide)
    · rw [shl_or hC (by omega), decide_eq_true (by omega), decide_eq_true (Nat.le_add_right _ _), Nat.add_sub_cancel_left, (spread_iff hR hC h1 c).mpr h3]
      rfl
end
theorem itr_fix {f : Nat → Int32 → Int32} (h : ∀ i a j, bt a j = true → bt (f i a) j = true) : ∀ (n i : Nat) (a : Int32), itr f n i a = a → ∀ k, i ≤ k → k < i + n → f k a = a := by
  intro n
  induction n with
  | zero => intro i a _ k h1 h2; omega
  | succ n ih =>
    intro i a he k h1 h2
    have he : itr f n (i + 1) (f i a) = a := he
    have h3 : f i a = a := by
      refine bt_ext fun j _ => ?_
      cases e : bt (f i a) j with
      | true =>
        have h4 := itr_up h n (i + 1) (f i a) j e
        rw [he] at h4
        exact h4.symm
      | false =>
        cases e2 : bt a j with
        | false => rfl
        | true => rw [h i a j e2] at e; exact absurd e (by decide)
    by_cases e : k = i
    · rw [e]; exact h3
    · rw [h3] at he
      exact ih (i + 1) a he k (by omega) (by omega)
theorem s46_up {R C : Nat} {fi br : Int32} {K : Nat} {x1 x2 : Int32} {i1 : Nat} : ∀ i2 a j, bt a j = true → bt (S_X7_seenOf_46 R C fi br K x1 x2 i1 i2 a) j = true := fun i2 a j hj => by
  unfold S_X7_seenOf_46
  split
  · exact hj
  · rw [bt_or, hj, Bool.true_or]
/-- the reference's board seen stands still at the end -/
theorem seenL_fix {R C : Nat} {fi br : Int32} {K : Nat} {x1 x2 : Int32} : ∀ (n i : Nat) (a b : Int32), i + n = 33 → (b = a ∨ i ≤ cn a 32) → (∀ P : Int32 → Prop, P a → (∀ c, P c → P (itr (fun i a => S_X7_seenOf_34 R C fi br K x1 x2 i a) R 0 c)) → (b = a → itr (fun i a => S_X7_seenOf_34 R C fi br K x1 x2 i a) R 0 a = a) → ∃ m, L_X7_seenOf_20 R C fi br K x1 x2 n i (a, b) = m &&& fi ∧ P m ∧ itr (fun i a => S_X7_seenOf_34 R C fi br K x1 x2 i a) R 0 m = m) := by
  intro n
  induction n with
  | zero =>
    intro i a b hi hb P hPa _ hfx
    have e : b = a := grow_z (by omega) hb
    exact ⟨a, rfl, hPa, hfx e⟩
  | succ n ih =>
    intro i a b hi hb P hPa hPs hfx
    show ∃ m, (if b = a then a &&& fi else L_X7_seenOf_20 R C fi br K x1 x2 n (i + 1) ((itr (fun i a => S_X7_seenOf_34 R C fi br K x1 x2 i a) R 0 a), a)) = m &&& fi ∧ _
    by_cases e : b = a
    · rw [if_pos e]; exact ⟨a, rfl, hPa, hfx e⟩
    · rw [if_neg e]
      refine ih (i + 1) _ a (by omega) (grow_s hb e (sn_up a)) P (hPs a hPa) hPs (fun e2 => ?_)
      rw [← e2]
      exact e2.symm
theorem itr_keepB {α : Type} {f : Nat → α → α} (P : α → Prop) : ∀ (n i : Nat) (a : α), (∀ k a, i ≤ k → k < i + n → P a → P (f k a)) → P a → P (itr f n i a) := by
  intro n
  induction n with
  | zero => intro i a _ h; exact h
  | succ n ih =>
    intro i a hs h
    exact ih (i + 1) (f i a) (fun k a h1 h2 => hs k a (by omega) (by omega)) (hs i a (by omega) (by omega) h)
theorem rc_inj {C r c r' c' : Nat} (h : r * C + c = r' * C + c') (hc : c < C) (hc' : c' < C) : r = r' ∧ c = c' := by
  have h1 : (r * C + c) / C = r := by rw [Nat.mul_comm, Nat.mul_add_div (by omega), Nat.div_eq_of_lt hc]; rfl
  have h2 : (r' * C + c') / C = r' := by rw [Nat.mul_comm, Nat.mul_add_div (by omega), Nat.div_eq_of_lt hc']; rfl
  have h3 : r = r' := by rw [← h1, ← h2, h]
  subst h3
  exact ⟨rfl, by omega⟩
section
variable {R C : Nat} {fi br : Int32} {K : Nat} {x1 x2 : Int32}
theorem s46_sd (hR : R ≤ 5) (hC : C ≤ 5) {fo ba : Int32} (hfo : fo = T_X7_seenOf_6 R C fi br K x1) (hba : ba = T_X7_seenOf_12 R C fi br K x1 x2) {i1 i2 : Nat} (h1 : i1 < R) (h2 : i2 < R) {a : Int32} (ha : ∀ j, bt a j = true → ∃ r c, r < R ∧ j = r * C + c ∧ rch R C fo ba r c) (j : Nat) (hj : bt (S_X7_seenOf_46 R C fi br K x1 x2 i1 i2 a) j = true) : ∃ r c, r < R ∧ j = r * C + c ∧ rch R C fo ba r c := by
  unfold S_X7_seenOf_46 at hj
  rw [← hfo, ← hba] at hj
  by_cases hp : (F_X7_rowOf C a (nI i1)) &&& (F_X7_rowOf C ba (nI i2)) = 0
  · rw [if_pos hp] at hj; exact ha j hj
  · rw [if_neg hp, bt_or, Bool.or_eq_true] at hj
    rcases hj with hj | hj
    · exact ha j hj
    · rw [shl_or hC (by omega), Bool.and_eq_true, Bool.and_eq_true, decide_eq_true_eq, decide_eq_true_eq] at hj
      obtain ⟨-, q1, q2⟩ := hj
      have q3 : bt (F_X3_columnsOf C fo (nI i2)) (j - i1 * C) = true := q2
      rw [bt_col hC fo (by omega), Bool.and_eq_true, decide_eq_true_eq] at q3
      obtain ⟨d, d1, d2, d3⟩ := (col_ne hC (x := a) (a := F_X3_columnsOf C ba (nI i2)) (by omega)).mp hp
      rw [bt_col hC ba (by omega), Bool.and_eq_true] at d3
      obtain ⟨r, c, r1, r2, r3⟩ := ha _ d2
      obtain ⟨e1, e2⟩ := rc_inj r2 d1 (rch_lt r3)
      subst e1
      subst e2
      exact ⟨i1, j - i1 * C, h1, by omega, .step h2 r3 d3.2 q3.1 q3.2⟩
theorem seenO_iff (hR : R ≤ 5) (hC : C ≤ 5) {fo ba : Int32} (hfo : fo = T_X7_seenOf_6 R C fi br K x1) (hba : ba = T_X7_seenOf_12 R C fi br K x1 x2) (hb : ∀ j, bt fo j = true → ∃ r c, r < R ∧ c < C ∧ j = r * C + c) : ∃ m, F_X7_seenOf R C fi br K x1 x2 = m &&& fi ∧ ∀ j, bt m j = true ↔ ∃ r c, r < R ∧ j = r * C + c ∧ rch R C fo ba r c := by
  obtain ⟨m, h1, ⟨h2, h2b⟩, h3⟩ := seenL_fix (R := R) (C := C) (fi := fi) (br := br) (K := K) (x1 := x1) (x2 := x2) 33 0 fo (-1) rfl (Or.inr (Nat.zero_le _)) (fun m => (∀ j, bt m j = true → ∃ r c, r < R ∧ j = r * C + c ∧ rch R C fo ba r c) ∧ ∀ j, bt fo j = true → bt m j = true)
    ⟨fun j hj => by
      obtain ⟨r, c, r1, c1, rfl⟩ := hb j hj
      exact ⟨r, c, r1, rfl, .base c1 hj⟩, fun j h => h⟩
    (fun m hm => ⟨itr_keepB (f := fun i a => S_X7_seenOf_34 R C fi br K x1 x2 i a) (fun m => ∀ j, bt m j = true → ∃ r c, r < R ∧ j = r * C + c ∧ rch R C fo ba r c) R 0 m (fun i a _ hi ha =>
        itr_keepB (f := fun i2 a => S_X7_seenOf_46 R C fi br K x1 x2 i i2 a) (fun m => ∀ j, bt m j = true → ∃ r c, r < R ∧ j = r * C + c ∧ rch R C fo ba r c) R 0 a (fun i2 a _ hi2 ha => s46_sd hR hC hfo hba (by omega) (by omega) ha) ha) hm.1, fun j hj => sn_up m j (hm.2 j hj)⟩)
    (fun e => by
      have h9 := hb 31 (by rw [← e]; exact bt_m1 (by omega))
      obtain ⟨r, c, r1, c1, e9⟩ := h9
      have := rc_lt hR hC r1 c1
      omega)
  refine ⟨m, ?_, fun j => ⟨h2 j, ?_⟩⟩
  · unfold F_X7_seenOf
    rw [← hfo]
    exact h1
  · rintro ⟨r, c, r1, rfl, hr⟩
    have f1 : ∀ i2, i2 < R → S_X7_seenOf_46 R C fi br K x1 x2 r i2 m = m := fun i2 hi2 => by
      have g1 := itr_fix (f := fun i a => S_X7_seenOf_34 R C fi br K x1 x2 i a) (fun i1 a1 j hj => itr_up (fun i2 a2 j hj => s46_up i2 a2 j hj) R 0 a1 j hj) R 0 m h3 r (Nat.zero_le _) (by omega)
      exact itr_fix (f := fun i a => S_X7_seenOf_46 R C fi br K x1 x2 r i a) s46_up R 0 m g1 i2 (Nat.zero_le _) (by omega)
    refine rch.ind (P := fun c => bt m (r * C + c) = true) (fun c q1 q2 => h2b _ q2) (fun i c d q1 q2 q3 q4 q5 ih => ?_) hr
    · show bt m (r * C + c) = true
      rw [← f1 i q1]
      unfold S_X7_seenOf_46
      rw [← hfo, ← hba]
      have hp : ¬ (F_X7_rowOf C m (nI r)) &&& (F_X7_rowOf C ba (nI i)) = 0 := (col_ne hC (x := m) (a := F_X3_columnsOf C ba (nI i)) (by omega)).mpr ⟨d, rch_lt q2, ih, by rw [bt_col hC ba (by omega), decide_eq_true (rch_lt q2), q3]; rfl⟩
      rw [if_neg hp, bt_or]
      have h4 := rc_lt hR hC r1 q4
      have h5 : bt ((F_X7_rowOf C fo (nI i)) <<< (((nI r) * (nI C)) &&& 31)) (r * C + c) = true := by
        rw [shl_or hC (by omega), decide_eq_true (by omega), decide_eq_true (Nat.le_add_right _ _), Nat.add_sub_cancel_left]
        show (true && (true && bt (F_X3_columnsOf C fo (nI i)) c)) = true
        rw [bt_col hC fo (by omega), decide_eq_true q4, q5]
        rfl
      rw [h5, Bool.or_true]
end
theorem itr_orB {f : Nat → Int32 → Int32} {Q : Nat → Nat → Prop} : ∀ (n i : Nat) (a : Int32), (∀ k a j, i ≤ k → k < i + n → j < 32 → (bt (f k a) j = true ↔ bt a j = true ∨ Q k j)) → ∀ j, j < 32 → (bt (itr f n i a) j = true ↔ bt a j = true ∨ ∃ k, i ≤ k ∧ k < i + n ∧ Q k j) := by
  intro n
  induction n with
  | zero =>
    intro i a _ j _
    constructor
    · exact fun h => Or.inl h
    · rintro (h | ⟨k, h1, h2, -⟩)
      · exact h
      · omega
  | succ n ih =>
    intro i a h j hj
    refine (ih (i + 1) (f i a) (fun k a j h1 h2 h3 => h k a j (by omega) (by omega) h3) j hj).trans ?_
    rw [h i a j (Nat.le_refl _) (by omega) hj]
    constructor
    · rintro ((h1 | h1) | ⟨k, h1, h2, h3⟩)
      · exact Or.inl h1
      · exact Or.inr ⟨i, by omega, by omega, h1⟩
      · exact Or.inr ⟨k, by omega, by omega, h3⟩
    · rintro (h1 | ⟨k, h1, h2, h3⟩)
      · exact Or.inl (Or.inl h1)
      · by_cases e : k = i
        · subst e; exact Or.inl (Or.inr h3)
        · exact Or.inr ⟨k, by omega, by omega, h3⟩
theorem itr_andB {f : Nat → Int32 → Int32} {Q : Nat → Prop} : ∀ (n i : Nat) (a : Int32), (∀ k a j, i ≤ k → k < i + n → j < 32 → (bt (f k a) j = true ↔ bt a j = true ∧ (j = k → Q k))) → ∀ j, j < 32 → (bt (itr f n i a) j = true ↔ bt a j = true ∧ (i ≤ j → j < i + n → Q j)) := by
  intro n
  induction n with
  | zero =>
    intro i a _ j _
    exact ⟨fun h => ⟨h, fun h1 h2 => by omega⟩, fun h => h.1⟩
  | succ n ih =>
    intro i a h j hj
    refine (ih (i + 1) (f i a) (fun k a j h1 h2 h3 => h k a j (by omega) (by omega) h3) j hj).trans ?_
    rw [h i a j (Nat.le_refl _) (by omega) hj]
    constructor
    · rintro ⟨⟨h1, h2⟩, h3⟩
      refine ⟨h1, fun q1 q2 => ?_⟩
      by_cases e : j = i
      · have := h2 e; rw [e]; exact this
      · exact h3 (by omega) (by omega)
    · rintro ⟨h1, h2⟩
      exact ⟨⟨h1, fun e => by rw [← e]; exact h2 (by omega) (by omega)⟩, fun q1 q2 => h2 (by omega) (by omega)⟩
theorem has_iff {x : Int32} {k : Nat} (hk : k < 32) : F_X7_has x (nI k) = 0 ↔ bt x k = false := holds_iff hk
theorem with0_b {a : Int32} {i j : Nat} (hi : i < 32) (hj : j < 32) : bt (F_X7_with a (nI i) 0) j = true ↔ bt a j = true ∧ ¬ j = i := by
  unfold F_X7_with
  rw [if_pos rfl, bt_and, bt_not _ hj, bt_bit hi hj, Bool.and_eq_true, Bool.not_eq_true', decide_eq_false_iff_not]
theorem rc_div {R C j : Nat} (h : j < R * C) : j / C < R ∧ j % C < C ∧ j = j / C * C + j % C := by
  have hC : 0 < C := Nat.pos_of_ne_zero fun e => by rw [e, Nat.mul_zero] at h; exact absurd h (Nat.not_lt_zero _)
  refine ⟨(Nat.div_lt_iff_lt_mul hC).mpr h, Nat.mod_lt _ hC, ?_⟩
  have := Nat.div_add_mod j C
  rw [Nat.mul_comm] at this
  exact this.symm
theorem rc_mod {C r c : Nat} (hc : c < C) : (r * C + c) / C = r ∧ (r * C + c) % C = c := by
  refine ⟨?_, ?_⟩
  · rw [Nat.mul_comm, Nat.mul_add_div (by omega), Nat.div_eq_of_lt hc]; rfl
  · rw [Nat.mul_comm, Nat.mul_add_mod, Nat.mod_eq_of_lt hc]
section
variable {R C K : Nat} {fi br : Int32}
theorem able_iff (hR : R ≤ 5) (hC : C ≤ 5) (h0 : 0 < C) (hK : K = R * C) (hf : ∀ j, bt fi j = true → j < K) {j : Nat} (hj : j < 32) : bt (F_X7_able R C fi br K) j = true ↔ ∃ r c, r < R ∧ c < C ∧ j = r * C + c ∧ bt br r = false ∧ bt br (R + c) = false ∧ bt fi j = true := by
  have hk : K ≤ 25 := by rw [hK]; exact Nat.mul_le_mul hR hC
  refine (itr_andB (f := fun i a => S_X7_able_7 R C br i a) (Q := fun i => bt br (i / C) = false ∧ bt br (R + i % C) = false) K 0 fi (fun i a j _ h2 hj => ?_) j hj).trans ?_
  · obtain ⟨d1, d2, -⟩ := rc_div (R := R) (C := C) (j := i) (by omega)
    have e1 : (nI i) / (nI C) = nI (i / C) := pk_div (by omega) (by omega) (by omega)
    have e2 : (nI i) - (nI i) / (nI C) * (nI C) = nI (i % C) := pk_rem (by omega) (by omega) (by omega)
    show bt (S_X7_able_7 R C br i a) j = true ↔ _
    unfold S_X7_able_7
    rw [e2, e1, show nI R + nI (i % C) = nI (R + i % C) from nI_add R (i % C)]
    by_cases h3 : F_X7_has br (nI (i / C)) = 0
    · rw [if_pos h3]
      have h4 := (has_iff (by omega)).mp h3
      by_cases h5 : F_X7_has br (nI (R + i % C)) = 0
      · rw [if_pos h5]
        have h6 := (has_iff (by omega)).mp h5
        exact ⟨fun h => ⟨h, fun _ => ⟨h4, h6⟩⟩, fun h => h.1⟩
      · rw [if_neg h5, with0_b (by omega) hj]
        have h6 : ¬ bt br (R + i % C) = false := fun h => h5 ((has_iff (by omega)).mpr h)
        exact ⟨fun h => ⟨h.1, fun e => absurd e h.2⟩, fun h => ⟨h.1, fun e => h6 (h.2 e).2⟩⟩
    · rw [if_neg h3, with0_b (by omega) hj]
      have h4 : ¬ bt br (i / C) = false := fun h => h3 ((has_iff (by omega)).mpr h)
      exact ⟨fun h => ⟨h.1, fun e => absurd e h.2⟩, fun h => ⟨h.1, fun e => h4 (h.2 e).1⟩⟩
  · constructor
    · rintro ⟨h1, h2⟩
      have h3 := hf j h1
      obtain ⟨d1, d2, d3⟩ := rc_div (R := R) (C := C) (j := j) (by omega)
      obtain ⟨b1, b2⟩ := h2 (Nat.zero_le _) (by omega)
      exact ⟨j / C, j % C, d1, d2, d3, b1, b2, h1⟩
    · rintro ⟨r, c, r1, c1, rfl, b1, b2, b3⟩
      obtain ⟨e1, e2⟩ := rc_mod (r := r) c1
      exact ⟨b3, fun _ _ => by show bt br ((r * C + c) / C) = false ∧ bt br (R + (r * C + c) % C) = false; rw [e1, e2]; exact ⟨b1, b2⟩⟩
theorem live_iff (hR : R ≤ 5) (hC : C ≤ 5) {j : Nat} (hj : j < 32) : bt (F_X3_findLive R C fi br) j = true ↔ ∃ r c, r < R ∧ c < C ∧ j = r * C + c ∧ bt br r = false ∧ bt br (R + c) = false ∧ bt fi j = true := by
  refine (itr_orB (f := fun i a => S_X3_findLive_7 R C fi br i a) (Q := fun r j => ∃ c, c < C ∧ j = r * C + c ∧ bt br r = false ∧ bt br (R + c) = false ∧ bt fi j = true) R 0 0 (fun r a j _ h2 hj => ?_) j hj).trans ?_
  · refine (itr_orB (f := fun i a => S_X3_findLive_17 R C fi br r i a) (Q := fun c j => j = r * C + c ∧ bt br r = false ∧ bt br (R + c) = false ∧ bt fi j = true) C 0 a (fun c a j _ h3 hj => ?_) j hj).trans ?_
    · have hr : r < R := by omega
      have hc : c < C := by omega
      have h25 := rc_lt hR hC hr hc
      show bt (S_X3_findLive_17 R C fi br r c a) j = true ↔ _
      unfold S_X3_findLive_17
      rw [mul_nI r (by omega) C (by omega), show nI (r * C) + nI c = nI (r * C + c) from nI_add _ _, show nI R + nI c = nI (R + c) from nI_add _ _]
      by_cases h4 : F_X4_holds br (nI r) = 0
      · have b4 := (holds_iff (by omega)).mp h4
        rw [if_pos h4]
        by_cases h5 : F_X4_holds br (nI (R + c)) = 0
        · have b5 := (holds_iff (by omega)).mp h5
          rw [if_pos h5]
          by_cases h6 : F_X4_holds fi (nI (r * C + c)) = 0
          · have b6 := (holds_iff (by omega)).mp h6
            rw [if_pos h6]
            exact ⟨fun h => Or.inl h, fun h => h.resolve_right (fun ⟨e, _, _, b⟩ => by rw [e, b6] at b; exact absurd b (by decide))⟩
          · have b6 : bt fi (r * C + c) = true := by
              cases e : bt fi (r * C + c) with
              | true => rfl
              | false => exact absurd ((holds_iff (by omega)).mpr e) h6
            rw [if_neg h6, bt_or, bt_bit (by omega) hj, Bool.or_eq_true, decide_eq_true_eq]
            exact ⟨fun h => h.imp id (fun e => ⟨e, b4, b5, by rw [e]; exact b6⟩), fun h => h.imp id (fun e => e.1)⟩
        · have b5 : ¬ bt br (R + c) = false := fun h => h5 ((holds_iff (by omega)).mpr h)
          rw [if_neg h5]
          have : (if F_X4_holds fi (nI (r * C + c)) = 0 then a else a) = a := by split <;> rfl
          rw [this]
          exact ⟨fun h => Or.inl h, fun h => h.resolve_right (fun ⟨_, _, b, _⟩ => b5 b)⟩
      · have b4 : ¬ bt br r = false := fun h => h4 ((holds_iff (by omega)).mpr h)
        rw [if_neg h4]
        have : (if F_X4_holds fi (nI (r * C + c)) = 0 then a else a) = a := by split <;> rfl
        rw [this]
        exact ⟨fun h => Or.inl h, fun h => h.resolve_right (fun ⟨_, b, _, _⟩ => b4 b)⟩
    · constructor
      · rintro (h | ⟨c, -, h1, h2⟩)
        · exact Or.inl h
        · exact Or.inr ⟨c, by omega, h2⟩
      · rintro (h | ⟨c, h1, h2⟩)
        · exact Or.inl h
        · exact Or.inr ⟨c, Nat.zero_le _, by omega, h2⟩
  · constructor
    · rintro (h | ⟨r, -, h1, c, h2, h3⟩)
      · rw [bt_0] at h; exact absurd h (by decide)
      · exact ⟨r, c, by omega, h2, h3⟩
    · rintro ⟨r, c, h1, h2, h3⟩
      exact Or.inr ⟨r, Nat.zero_le _, by omega, c, h2, h3⟩
/-- the class's live keys are the reference's able ones -/
theorem live_able (hR : R ≤ 5) (hC : C ≤ 5) (h0 : 0 < C) (hK : K = R * C) (hf : ∀ j, bt fi j = true → j < K) : F_X3_findLive R C fi br = F_X7_able R C fi br K := bt_ext fun j hj => by
  have h1 := live_iff (fi := fi) (br := br) hR hC hj
  have h2 := able_iff (fi := fi) (br := br) hR hC h0 hK hf hj
  have h3 := h1.trans h2.symm
  cases e : bt (F_X3_findLive R C fi br) j with
  | true => exact (h3.mp e).symm
  | false =>
    cases e2 : bt (F_X7_able R C fi br K) j with
    | false => rfl
    | true => rw [h3.mpr e2] at e; exact absurd e (by decide)
/-- what is seen, both sides -/
theorem seen_eq (hR : R ≤ 5) (hC : C ≤ 5) (h0 : 0 < C) (hK : K = R * C) (hf : ∀ j, bt fi j = true → j < K) {di li x1 : Int32} (hli : li = F_X3_findLive R C fi br) : F_X3_seenIf R C fi di li x1 = F_X7_seenOf R C fi br K x1 di := by
  subst hli
  have hla := live_able (br := br) hR hC h0 hK hf
  have e6 : T_X3_seenIf_6 (F_X3_findLive R C fi br) x1 = T_X7_seenOf_6 R C fi br K x1 := by
    show x1 &&& (F_X3_findLive R C fi br) = x1 &&& (F_X7_able R C fi br K)
    rw [hla]
  have e15 : T_X3_seenIf_15 di (F_X3_findLive R C fi br) x1 = T_X7_seenOf_12 R C fi br K x1 di := by
    show (T_X3_seenIf_6 (F_X3_findLive R C fi br) x1) &&& (di ^^^ (-1)) = (T_X7_seenOf_6 R C fi br K x1) &&& (di ^^^ (-1))
    rw [e6]
  obtain ⟨m, m1, m2⟩ := seenO_iff (R := R) (C := C) (fi := fi) (br := br) (K := K) (x1 := x1) (x2 := di) hR hC rfl rfl (fun j hj => by
    have hj32 : j < 32 := Nat.lt_of_not_le fun h => by rw [bt_big _ h] at hj; exact absurd hj (by decide)
    have hj : bt (x1 &&& (F_X7_able R C fi br K)) j = true := hj
    rw [bt_and, Bool.and_eq_true] at hj
    obtain ⟨r, c, h1, h2, h3, -⟩ := (able_iff hR hC h0 hK hf hj32).mp hj.2
    exact ⟨r, c, h1, h2, h3⟩)
  have hS : (fun i a => S_X3_seenIf_22 R C di (F_X3_findLive R C fi br) x1 i a) = fun i a => if F_X3_columnsOf C (T_X7_seenOf_6 R C fi br K x1) (nI i) = 0 then a else a ||| ((F_X3_spread R C (F_X3_columnsOf C (T_X7_seenOf_6 R C fi br K x1) (nI i)) (T_X7_seenOf_6 R C fi br K x1) (T_X7_seenOf_12 R C fi br K x1 di) R) <<< (((nI i) * (nI C)) &&& 31)) := by
    funext i a
    unfold S_X3_seenIf_22
    rw [e6, e15]
  rw [m1]
  unfold F_X3_seenIf
  refine congrArg (fun y => y &&& fi) (bt_ext fun j hj => ?_)
  rw [hS]
  have h3 := (seenI_iff (fo := T_X7_seenOf_6 R C fi br K x1) (ba := T_X7_seenOf_12 R C fi br K x1 di) hR hC j).trans (m2 j).symm
  cases e : bt m j with
  | true => exact h3.mpr e
  | false =>
    cases e2 : bt (itr (fun i a => if F_X3_columnsOf C (T_X7_seenOf_6 R C fi br K x1) (nI i) = 0 then a else a ||| ((F_X3_spread R C (F_X3_columnsOf C (T_X7_seenOf_6 R C fi br K x1) (nI i)) (T_X7_seenOf_6 R C fi br K x1) (T_X7_seenOf_12 R C fi br K x1 di) R) <<< (((nI i) * (nI C)) &&& 31))) R 0 0) j with
    | false => rfl
    | true => rw [h3.mp e2] at e; exact absurd e (by decide)
end

theorem smod25 : ∀ k, k < 26 → ((nI k &&& 31).toBitVec.smod 32).toNat = k := by decide +kernel

theorem set_iff {K : Nat} {x : Int32} (hK : K ≤ 25) : (F_X3_isSet K x = 0 ∧ ¬ F_X7_isNoSet K x = 0) ∨ (¬ F_X3_isSet K x = 0 ∧ F_X7_isNoSet K x = 0 ∧ 0 ≤ x) := by
  unfold F_X3_isSet F_X7_isNoSet
  by_cases h1 : x < 0
  · rw [if_pos h1, if_pos h1]
    exact Or.inl ⟨rfl, by decide⟩
  · obtain ⟨j, hj, rfl⟩ := nI_of h1
    have h2 : 2 ^ K ≤ 2 ^ 25 := Nat.pow_le_pow_right (by decide) hK
    have h3 : nI j >>> (F_Jx4a65c_size_8abf5 K &&& 31) = nI (j / 2 ^ K) := pk_shrN hj _ K (smod25 K (by omega))
    rw [if_neg h1, if_neg h1, shl25 K (by omega), h3]
    by_cases h4 : j < 2 ^ K
    · rw [if_neg (nI_ge h4 (by omega)), Nat.div_eq_of_lt h4, if_pos (show nI 0 = 0 from rfl)]
      exact Or.inr ⟨by decide, rfl, Int32.not_lt.mp h1⟩
    · have h5 : ¬ nI (j / 2 ^ K) = 0 := fun e => by
        have h6 := congrArg Int32.toInt e
        have h7 : j / 2 ^ K ≤ j := Nat.div_le_self _ _
        rw [nI_toInt (by omega), show (0 : Int32).toInt = 0 from by decide] at h6
        have h8 : 0 < j / 2 ^ K := Nat.div_pos (by omega) (Nat.two_pow_pos K)
        omega
      rw [if_pos (nI_le (by omega) hj), if_neg h5]
      exact Or.inl ⟨rfl, by decide⟩
/-- the wiring alike on both sides -/
def WQ (R C K mR mC mK : Nat) (fi di br li mfi mdi mbr : Int32) : Prop := R = mR ∧ C = mC ∧ K = mK ∧ fi = mfi ∧ di = mdi ∧ br = mbr ∧ li = F_X3_findLive R C fi br ∧ ∀ j, bt fi j = true → j < K
theorem lay_live : ∀ a, a < 6 → ∀ b, b < 6 → fitI (a * b) = F_X3_findLive a b (fitI (a * b)) 0 := by decide +kernel
theorem fit_b : ∀ k, k < 26 → ∀ j, j < 32 → bt (fitI k) j = decide (j < k) := by decide +kernel
theorem lay_w {sc : Nat} {pa : Int32} {gu : Int32} {cl : Int32} {se : Int32} {R : Nat} {C : Nat} {K : Nat} {fi : Int32} {di : Int32} {br : Int32} {li : Int32} {he : Int32} {dn : Int32} {ea : Int32} {lo : Int32} {Ch : Nat} {ct : Int32} {ml : Int32} {n : Nat} {fB : Nat → Int32} {fS : Nat → Int32} {fN : Nat → Int32} {fM : Nat → Int32} {fCn : Nat → Int32} {fE : Nat → Int32} {fLE : Nat → Int32} {fC : Nat → Int32} {fG : Nat → Int32} {fI : Nat → Int32} {x1 : Int32} {x2 : Int32} {mR : Nat} {mC : Nat} {mfi : Int32} {mdi : Int32} {mhe : Int32} {mbr : Int32} {mpa : Int32} {mgu : Int32} {msc : Nat} {mcl : Int32} {mse : Int32} {mlo : Int32} {mkm : Int32} {mK : Nat} {mkn : Nat} {mhm : Int32} {mnh : Nat} {mml : Int32} {mn : Nat} {mV : Nat → KV} (h : WQ R C K mR mC mK fi di br li mfi mdi mbr) : WQ ((F_L_lay sc pa gu cl se R C K fi di br li he dn ea lo Ch ct ml n fB fS fN fM fCn fE fLE fC fG fI x1 x2).2.2.2.2.2.2.2.2.2.2.2.2.2.2.2.2.2.2.1) ((F_L_lay sc pa gu cl se R C K fi di br li he dn ea lo Ch ct ml n fB fS fN fM fCn fE fLE fC fG fI x1 x2).2.2.2.2.2.2.2.2.2.2.2.2.2.2.2.2.2.2.2.1) ((F_L_lay sc pa gu cl se R C K fi di br li he dn ea lo Ch ct ml n fB fS fN fM fCn fE fLE fC fG fI x1 x2).2.2.2.2.2.2.2.2.2.2.2.2.2.2.2.2.2.2.2.2.1) ((F_X7_lay mR mC mfi mdi mhe mbr mpa mgu msc mcl mse mlo mkm mK mkn mhm mnh mml mn mV x1 x2).2.2.1) ((F_X7_lay mR mC mfi mdi mhe mbr mpa mgu msc mcl mse mlo mkm mK mkn mhm mnh mml mn mV x1 x2).2.2.2.1) ((F_X7_lay mR mC mfi mdi mhe mbr mpa mgu msc mcl mse mlo mkm mK mkn mhm mnh mml mn mV x1 x2).2.2.2.2.2.2.2.2.2.2.2.2.2.2.2.2.2.2.2.2.2.1) ((F_L_lay sc pa gu cl se R C K fi di br li he dn ea lo Ch ct ml n fB fS fN fM fCn fE fLE fC fG fI x1 x2).2.2.2.2.2.2.2.2.2.2.2.2.2.2.2.2.2.2.2.2.2.1) ((F_L_lay sc pa gu cl se R C K fi di br li he dn ea lo Ch ct ml n fB fS fN fM fCn fE fLE fC fG fI x1 x2).2.2.2.2.2.2.2.2.2.2.2.2.2.2.2.2.2.2.2.2.2.2.1) ((F_L_lay sc pa gu cl se R C K fi di br li he dn ea lo Ch ct ml n fB fS fN fM fCn fE fLE fC fG fI x1 x2).2.2.2.2.2.2.2.2.2.2.2.2.2.2.2.2.2.2.2.2.2.2.2.1) ((F_L_lay sc pa gu cl se R C K fi di br li he dn ea lo Ch ct ml n fB fS fN fM fCn fE fLE fC fG fI x1 x2).2.2.2.2.2.2.2.2.2.2.2.2.2.2.2.2.2.2.2.2.2.2.2.2.1) ((F_X7_lay mR mC mfi mdi mhe mbr mpa mgu msc mcl mse mlo mkm mK mkn mhm mnh mml mn mV x1 x2).2.2.2.2.1) ((F_X7_lay mR mC mfi mdi mhe mbr mpa mgu msc mcl mse mlo mkm mK mkn mhm mnh mml mn mV x1 x2).2.2.2.2.2.1) ((F_X7_lay mR mC mfi mdi mhe mbr mpa mgu msc mcl mse mlo mkm mK mkn mhm mnh mml mn mV x1 x2).2.2.2.2.2.2.2.1) := by
  rcases lay_acc x1 x2 with ⟨h0, h1, h2⟩ | ⟨h0, h12⟩
  · obtain ⟨a1, a2, -⟩ := in_2 h1
    obtain ⟨b1, b2, -⟩ := in_2 h2
    have hk : x1.toNatClampNeg * x2.toNatClampNeg ≤ 25 := Nat.mul_le_mul a2 b2
    unfold F_L_lay F_X7_lay
    rw [if_pos h0, if_neg h1, if_neg h2]
    refine ⟨rfl, rfl, rfl, rfl, rfl, rfl, lay_live _ (by omega) _ (by omega), fun j hj => ?_⟩
    have hj : bt (fitI (x1.toNatClampNeg * x2.toNatClampNeg)) j = true := hj
    have h32 : j < 32 := Nat.lt_of_not_le fun q => by rw [bt_big _ q] at hj; exact absurd hj (by decide)
    rw [fit_b _ (by omega) j h32, decide_eq_true_eq] at hj
    exact hj
  · unfold F_L_lay F_X7_lay
    rw [if_neg h0]
    rcases h12 with h1 | ⟨h1, h2⟩
    · rw [if_pos h1]; exact h
    · rw [if_neg h1, if_pos h2]; exact h
theorem fit_d {R C : Nat} {fi di br x1 x2 x3 : Int32} : (F_X3_fit R C fi di br x1 x2 x3).2.1 = F_X7_with di x1 x3 ∧ (F_X3_fit R C fi di br x1 x2 x3).2.2 = F_X3_findLive R C (F_X7_with fi x1 x2) br := by
  unfold F_X3_fit F_X7_with
  by_cases h : x2 = 0
  · rw [if_pos h, if_pos h]
    by_cases h3 : x3 = 0
    · rw [if_pos h3, if_pos h3]; exact ⟨rfl, rfl⟩
    · rw [if_neg h3, if_neg h3]; exact ⟨rfl, rfl⟩
  · rw [if_neg h, if_neg h]
    by_cases h3 : x3 = 0
    · rw [if_pos h3, if_pos h3]; exact ⟨rfl, rfl⟩
    · rw [if_neg h3, if_neg h3]; exact ⟨rfl, rfl⟩
theorem with_K {fi x2 : Int32} {k K : Nat} (hk : k < K) (hK : K ≤ 25) (h : ∀ j, bt fi j = true → j < K) : ∀ j, bt (F_X7_with fi (nI k) x2) j = true → j < K := fun j hj => by
  have h32 : j < 32 := Nat.lt_of_not_le fun q => by rw [bt_big _ q] at hj; exact absurd hj (by decide)
  unfold F_X7_with at hj
  by_cases e : x2 = 0
  · rw [if_pos e, bt_and, Bool.and_eq_true] at hj
    exact h j hj.1
  · rw [if_neg e, bt_or, bt_bit (by omega) h32, Bool.or_eq_true, decide_eq_true_eq] at hj
    rcases hj with hj | hj
    · exact h j hj
    · rw [hj]; exact hk
theorem key_w {sc : Nat} {R : Nat} {C : Nat} {K : Nat} {fi : Int32} {di : Int32} {br : Int32} {li : Int32} {he : Int32} {fB : Nat → Int32} {fS : Nat → Int32} {fN : Nat → Int32} {fM : Nat → Int32} {x1 : Int32} {x2 : Int32} {x3 : Int32} {x4 : Int32} {x5 : Int32} {mfi : Int32} {mdi : Int32} {mhe : Int32} {msc : Nat} {mK : Nat} {mV : Nat → KV} {mR : Nat} {mC : Nat} {mbr : Int32} (hK : K ≤ 25) (h0 : 0 < mK) (h : WQ R C K mR mC mK fi di br li mfi mdi mbr) : WQ R C K mR mC mK ((F_L_key sc R C K fi di br li he fB fS fN fM x1 x2 x3 x4 x5).1) ((F_L_key sc R C K fi di br li he fB fS fN fM x1 x2 x3 x4 x5).2.1) br ((F_L_key sc R C K fi di br li he fB fS fN fM x1 x2 x3 x4 x5).2.2.1) ((F_X7_key mfi mdi mhe msc mK mV x1 x2 x3 x4 x5).2.2.1) ((F_X7_key mfi mdi mhe msc mK mV x1 x2 x3 x4 x5).2.2.2.1) mbr := by
  obtain ⟨e1, e2, e3, e4, e5, e6, e7, e8⟩ := h
  subst e1
  subst e2
  subst e3
  subst e4
  subst e5
  subst e6
  rcases key_acc (x1 := x1) (x2 := x2) (x4 := x4) (x5 := x5) hK h0 with ⟨g0, g1⟩ | ⟨g1, k, g2, g3, ⟨g0, g4⟩ | ⟨g0, g4, g5⟩⟩
  · have n1 : F_X7_isNoKey K x1 = 1 := (nk_01 K x1).resolve_left g1
    have hs : ¬ (F_X7_start (F_X7_isNoKey K x1) 1).1 = 0 := by rw [n1]; decide
    unfold F_L_key F_X7_key
    rw [if_neg hs, if_neg (show ¬ E_X4_key K x1 x2 x4 x5 = 0 by rw [g0]; decide)]
    exact ⟨rfl, rfl, rfl, rfl, rfl, rfl, e7, e8⟩
  · have hs : (F_X7_start (F_X7_isNoKey K x1) 1).1 = 0 := by rw [g1]; decide
    unfold F_L_key F_X7_key
    rw [if_pos hs, if_neg (show ¬ E_X4_key K x1 x2 x4 x5 = 0 by rw [g0]; decide)]
    rcases g4 with g4 | ⟨g4, g5⟩
    · rw [if_pos g4]; exact ⟨rfl, rfl, rfl, rfl, rfl, rfl, e7, e8⟩
    · rw [if_neg g4, if_pos g5]; exact ⟨rfl, rfl, rfl, rfl, rfl, rfl, e7, e8⟩
  · have hs : (F_X7_start (F_X7_isNoKey K x1) 1).1 = 0 := by rw [g1]; decide
    obtain ⟨-, l1, -⟩ := key4 (sc := sc) (R := R) (C := C) (fi := fi) (di := di) (br := br) (li := li) (he := he) (fB := fB) (fS := fS) (fN := fN) (fM := fM) (x3 := x3) g0
    have l2 : (F_X4_key sc R C K fi di br li he fB fS fN fM x1 x2 x3 x4 x5).2.2.1 = F_X7_with di x1 x3 ∧ (F_X4_key sc R C K fi di br li he fB fS fN fM x1 x2 x3 x4 x5).2.2.2.1 = F_X3_findLive R C (F_X7_with fi x1 x2) br := by
      have h := g0
      unfold E_X4_key at h
      unfold F_X4_key
      by_cases h1 : F_X3_hasKey K x1 = 0
      · rw [if_pos h1] at h; exact absurd h (by decide)
      · rw [if_neg h1] at h ⊢
        by_cases h2 : x4 < 0
        · rw [if_pos h2] at h; exact absurd h (by decide)
        · rw [if_neg h2] at h ⊢
          by_cases h3 : 5 < x4
          · rw [if_pos h3] at h; exact absurd h (by decide)
          · rw [if_neg h3] at h ⊢
            by_cases h4 : x5 < 0
            · rw [if_pos h4] at h; exact absurd h (by decide)
            · rw [if_neg h4] at h ⊢
              by_cases h5 : x5 ≤ 2
              · rw [if_pos h5]
                by_cases h6 : x2 = 0
                · rw [if_pos h6]; exact fit_d
                · rw [if_neg h6]; exact fit_d
              · rw [if_neg h5] at h; exact absurd h (by decide)
    have f1 : (F_L_key sc R C K fi di br li he fB fS fN fM x1 x2 x3 x4 x5).1 = (F_X4_key sc R C K fi di br li he fB fS fN fM x1 x2 x3 x4 x5).2.1 ∧ (F_L_key sc R C K fi di br li he fB fS fN fM x1 x2 x3 x4 x5).2.1 = (F_X4_key sc R C K fi di br li he fB fS fN fM x1 x2 x3 x4 x5).2.2.1 ∧ (F_L_key sc R C K fi di br li he fB fS fN fM x1 x2 x3 x4 x5).2.2.1 = (F_X4_key sc R C K fi di br li he fB fS fN fM x1 x2 x3 x4 x5).2.2.2.1 := by unfold F_L_key; rw [if_pos g0]; exact ⟨rfl, rfl, rfl⟩
    have f2 : (F_X7_key fi di mhe msc K mV x1 x2 x3 x4 x5).2.2.1 = F_X7_with fi x1 x2 ∧ (F_X7_key fi di mhe msc K mV x1 x2 x3 x4 x5).2.2.2.1 = F_X7_with di x1 x3 := by
      unfold F_X7_key
      rw [if_pos hs, if_neg g4, if_neg g5]
      by_cases h6 : x2 = 0
      · rw [if_pos h6]
        by_cases h7 : F_X7_has mhe x1 = 0
        · rw [if_pos h7]; exact ⟨rfl, rfl⟩
        · rw [if_neg h7]; exact ⟨rfl, rfl⟩
      · rw [if_neg h6]; exact ⟨rfl, rfl⟩
    show WQ R C K R C K ((F_L_key sc R C K fi di br li he fB fS fN fM x1 x2 x3 x4 x5).1) ((F_L_key sc R C K fi di br li he fB fS fN fM x1 x2 x3 x4 x5).2.1) br ((F_L_key sc R C K fi di br li he fB fS fN fM x1 x2 x3 x4 x5).2.2.1) ((F_X7_key fi di mhe msc K mV x1 x2 x3 x4 x5).2.2.1) ((F_X7_key fi di mhe msc K mV x1 x2 x3 x4 x5).2.2.2.1) br
    rw [f1.1, f1.2.1, f1.2.2, f2.1, f2.2, l1, l2.1, l2.2]
    subst g3
    exact ⟨rfl, rfl, rfl, rfl, rfl, rfl, rfl, with_K g2 hK e8⟩
theorem brk_w {R C : Nat} {fi br x1 x2 : Int32} : (F_X3_breakLine R C fi br x1 x2).1 = F_X7_with br x1 x2 ∧ (F_X3_breakLine R C fi br x1 x2).2 = F_X3_findLive R C fi (F_X7_with br x1 x2) := by
  unfold F_X3_breakLine F_X7_with
  by_cases h : x2 = 0
  · rw [if_pos h, if_pos h]; exact ⟨rfl, rfl⟩
  · rw [if_neg h, if_neg h]; exact ⟨rfl, rfl⟩
theorem line_acc {R C : Nat} (x1 : Int32) (hR : R ≤ 5) (hC : C ≤ 5) (h0 : 0 < R) : (E_X4_line R C x1 = 0 ∧ ¬ F_X7_isIn x1 0 ((nI R + nI C) - 1) = 0) ∨ (¬ E_X4_line R C x1 = 0 ∧ F_X7_isIn x1 0 ((nI R + nI C) - 1) = 0) := by
  rw [show nI R + nI C = nI (R + C) from nI_add R C, nI_m1 (by omega)]
  unfold E_X4_line F_X7_isIn
  rw [show nI R + nI C = nI (R + C) from nI_add R C]
  by_cases h1 : x1 < 0
  · rw [if_pos h1, if_pos h1]
    exact Or.inr ⟨by decide, rfl⟩
  · rw [if_neg h1, if_neg h1]
    by_cases h2 : x1 < nI (R + C)
    · have h3 : ¬ nI (R + C - 1) < x1 := by
        rw [Int32.lt_iff_toInt_lt, nI_toInt (by omega)] at h2 ⊢
        omega
      rw [if_pos h2, if_neg h3]
      exact Or.inl ⟨rfl, by decide⟩
    · have h3 : nI (R + C - 1) < x1 := by
        rw [Int32.lt_iff_toInt_lt, nI_toInt (by omega)] at h2 ⊢
        omega
      rw [if_neg h2, if_pos h3]
      exact Or.inr ⟨by decide, rfl⟩
theorem line_w {R : Nat} {C : Nat} {fi : Int32} {br : Int32} {li : Int32} {x1 : Int32} {x2 : Int32} {mR : Nat} {mC : Nat} {mbr : Int32} {K : Nat} {mK : Nat} {di : Int32} {mfi : Int32} {mdi : Int32} (hR : R ≤ 5) (hC : C ≤ 5) (h0 : 0 < mR) (h : WQ R C K mR mC mK fi di br li mfi mdi mbr) : WQ R C K mR mC mK fi di ((F_L_line R C fi br li x1 x2).1) ((F_L_line R C fi br li x1 x2).2) mfi mdi ((F_X7_line mR mC mbr x1 x2).2.2) := by
  obtain ⟨e1, e2, e3, e4, e5, e6, e7, e8⟩ := h
  subst e1
  subst e2
  subst e3
  subst e4
  subst e5
  subst e6
  rcases line_acc x1 hR hC h0 with ⟨g0, g1⟩ | ⟨g0, g1⟩
  · have l4 : (F_X4_line R C fi br li x1 x2).2.1 = F_X7_with br x1 x2 ∧ (F_X4_line R C fi br li x1 x2).2.2 = F_X3_findLive R C fi (F_X7_with br x1 x2) := by
      have h := g0
      unfold E_X4_line at h
      unfold F_X4_line
      by_cases h1 : x1 < 0
      · rw [if_pos h1] at h; exact absurd h (by decide)
      · rw [if_neg h1] at h ⊢
        by_cases h2 : x1 < nI R + nI C
        · rw [if_pos h2]; exact brk_w
        · rw [if_neg h2] at h; exact absurd h (by decide)
    have f1 : (F_L_line R C fi br li x1 x2).1 = (F_X4_line R C fi br li x1 x2).2.1 ∧ (F_L_line R C fi br li x1 x2).2 = (F_X4_line R C fi br li x1 x2).2.2 := by unfold F_L_line; rw [if_pos g0]; exact ⟨rfl, rfl⟩
    have f2 : (F_X7_line R C br x1 x2).2.2 = F_X7_with br x1 x2 := by unfold F_X7_line; rw [if_neg g1, if_pos s0_eq]
    show WQ R C K R C K fi di ((F_L_line R C fi br li x1 x2).1) ((F_L_line R C fi br li x1 x2).2) fi di ((F_X7_line R C br x1 x2).2.2)
    rw [f1.1, f1.2, f2, l4.1, l4.2]
    exact ⟨rfl, rfl, rfl, rfl, rfl, rfl, rfl, e8⟩
  · have f1 : (F_L_line R C fi br li x1 x2).1 = br ∧ (F_L_line R C fi br li x1 x2).2 = li := by unfold F_L_line; rw [if_neg g0]; exact ⟨rfl, rfl⟩
    have f2 : (F_X7_line R C br x1 x2).2.2 = br := by unfold F_X7_line; rw [if_pos g1, if_neg s1_ne]
    show WQ R C K R C K fi di ((F_L_line R C fi br li x1 x2).1) ((F_L_line R C fi br li x1 x2).2) fi di ((F_X7_line R C br x1 x2).2.2)
    rw [f1.1, f1.2, f2]
    exact ⟨rfl, rfl, rfl, rfl, rfl, rfl, e7, e8⟩
theorem wq_0 : WQ 3 3 (3 * 3) 3 3 9 (fitI (3 * 3)) 0 0 (fitI (3 * 3)) (((1 : Int32) <<< ((nI 9) &&& 31)) - 1) 0 0 := ⟨rfl, rfl, rfl, rfl, rfl, rfl, lay_live 3 (by omega) 3 (by omega), fun j hj => by
  have h32 : j < 32 := Nat.lt_of_not_le fun q => by rw [bt_big _ q] at hj; exact absurd hj (by decide)
  rw [fit_b (3 * 3) (by omega) j h32, decide_eq_true_eq] at hj
  exact hj⟩
/-- what is seen, by what stands alike -/
theorem seen_w {R C K mR mC mK : Nat} {fi di br li mfi mdi mbr x1 : Int32} (hR : R ≤ 5) (hC : C ≤ 5) (h0 : 0 < mC) (hRC : mR * mC = mK) (h : WQ R C K mR mC mK fi di br li mfi mdi mbr) : F_X3_seenIf R C fi di li x1 = F_X7_seenOf mR mC mfi mbr mK x1 mdi := by
  obtain ⟨e1, e2, e3, e4, e5, e6, e7, e8⟩ := h
  subst e1
  subst e2
  subst e3
  subst e4
  subst e5
  subst e6
  exact seen_eq hR hC h0 hRC.symm e8 e7

/-! the least keys round a key: the class's bounded search and the reference's -/
def Nx (R C : Nat) (fo ba a : Int32) : Int32 := itr (fun i b => S_X3_spread_20 C fo ba a i b) R 0 a
theorem spr_one {R C : Nat} {fo ba a : Int32} : F_X3_spread R C a fo ba 1 = Nx R C fo ba a := by
  show (if Nx R C fo ba a = a then a else Nx R C fo ba a) = Nx R C fo ba a
  by_cases h : Nx R C fo ba a = a
  · rw [if_pos h, h]
  · rw [if_neg h]
def wayA (R C : Nat) (fo ba : Int32) (q : Int32) : Nat → Nat → Int32 → Int32
  | 0, _, _ => -1
  | n + 1, i, a => if F_X4_holds (Nx R C fo ba a) q = 0 then wayA R C fo ba q n (i + 1) (Nx R C fo ba a) else nI (2 * i + 3)
def wayB (R C : Nat) (fo ba : Int32) (q : Int32) : Nat → Int32 → Int32 → Int32
  | 0, _, s => s
  | n + 1, a, s => if F_X4_holds a q = 0 then (if Nx R C fo ba a = a then -1 else wayB R C fo ba q n (Nx R C fo ba a) (s + 2)) else s
theorem wayA_no {R C : Nat} {fo ba q a : Int32} (h : Nx R C fo ba a = a) (h0 : F_X4_holds a q = 0) : ∀ n i, wayA R C fo ba q n i a = -1
  | 0, _ => rfl
  | n + 1, i => by
    show (if F_X4_holds (Nx R C fo ba a) q = 0 then wayA R C fo ba q n (i + 1) (Nx R C fo ba a) else nI (2 * i + 3)) = -1
    rw [h, if_pos h0]
    exact wayA_no h h0 n (i + 1)
section
variable {R C : Nat} {fo ba : Int32}
/-- rows that have no more to give: done ones, and one that gave all at the start -/
def gvn (R C : Nat) (fo ba a : Int32) (r i : Nat) : Bool := decide (i < R) && (decide (i = r) || dnR C fo ba a i)
theorem way_grow (hR : R ≤ 5) (hC : C ≤ 5) {a : Int32} {r : Nat} (hr : r < R) (h0 : ∀ c, c < C → bt fo (r * C + c) = true → bt a c = true) (hne : ¬ Nx R C fo ba a = a) : ct (gvn R C fo ba a r) R < ct (gvn R C fo ba (Nx R C fo ba a) r) R := by
  have hs := spr_1 (fo := fo) (ba := ba) hR hC a
  have hs : ∀ c, bt (Nx R C fo ba a) c = true ↔ _ := hs
  generalize Nx R C fo ba a = a' at hs hne ⊢
  have hu : ∀ c, bt a c = true → bt a' c = true := fun c hc => (hs c).mpr (Or.inl hc)
  have hx : ∃ c, bt a' c = true ∧ ¬ bt a c = true := by
    refine Classical.byContradiction fun hn => hne (bt_ext fun j _ => ?_)
    cases e : bt a' j with
    | true =>
      cases e2 : bt a j with
      | true => rfl
      | false => exact absurd ⟨j, e, by rw [e2]; decide⟩ hn
    | false =>
      cases e2 : bt a j with
      | false => rfl
      | true => rw [hu j e2] at e; exact absurd e (by decide)
  obtain ⟨c, c1, c2⟩ := hx
  obtain ⟨i, i1, i2, i3, i4⟩ := ((hs c).mp c1).resolve_left c2
  have hall : ∀ c, c < C → bt fo (i * C + c) = true → bt a' c = true := fun c hc hf => (hs c).mpr (Or.inr ⟨i, i1, i2, hc, hf⟩)
  have hir : ¬ i = r := fun e => c2 (h0 c i3 (by rw [← e]; exact i4))
  refine ct_lt (fun q hq => ?_) (k := i) ?_ ?_ R i1
  · unfold gvn at hq ⊢
    rw [Bool.and_eq_true, Bool.or_eq_true, decide_eq_true_eq, decide_eq_true_eq] at hq ⊢
    refine ⟨hq.1, hq.2.imp id fun q2 => ?_⟩
    obtain ⟨⟨d, d1, d2, d3⟩, q3⟩ := (dnR_iff hC (by omega)).mp q2
    exact (dnR_iff hC (by omega)).mpr ⟨⟨d, d1, d2, hu d d3⟩, fun c hc hf => hu c (q3 c hc hf)⟩
  · unfold gvn
    rw [Bool.and_eq_true, Bool.or_eq_true, decide_eq_true_eq, decide_eq_true_eq]
    rintro ⟨-, e | e⟩
    · exact hir e
    · exact c2 (((dnR_iff hC (by omega)).mp e).2 c i3 i4)
  · obtain ⟨d, d1, d2, d3⟩ := i2
    unfold gvn
    rw [Bool.and_eq_true, Bool.or_eq_true, decide_eq_true_eq, decide_eq_true_eq]
    exact ⟨i1, Or.inr ((dnR_iff hC (by omega)).mpr ⟨⟨d, d1, d2, hu d d3⟩, hall⟩)⟩
theorem way_eq (hR : R ≤ 5) (hC : C ≤ 5) {q : Int32} {r : Nat} (hr : r < R) : ∀ (n m i : Nat) (a : Int32), n < m → F_X4_holds a q = 0 → (∀ c, c < C → bt fo (r * C + c) = true → bt a c = true) → R ≤ ct (gvn R C fo ba a r) R + n → wayA R C fo ba q n i a = wayB R C fo ba q m a (nI (2 * i + 1)) := by
  intro n
  induction n with
  | zero =>
    intro m i a hm hq h0 hc
    obtain ⟨m, rfl⟩ : ∃ m', m = m' + 1 := ⟨m - 1, by omega⟩
    have h1 : Nx R C fo ba a = a := Classical.byContradiction fun hne => by
      have h2 := way_grow hR hC hr h0 hne
      have h3 := ct_le (gvn R C fo ba (Nx R C fo ba a) r) R
      omega
    show -1 = if F_X4_holds a q = 0 then (if Nx R C fo ba a = a then -1 else wayB R C fo ba q m (Nx R C fo ba a) (nI (2 * i + 1) + 2)) else nI (2 * i + 1)
    rw [if_pos hq, if_pos h1]
  | succ n ih =>
    intro m i a hm hq h0 hc
    obtain ⟨m, rfl⟩ : ∃ m', m = m' + 1 := ⟨m - 1, by omega⟩
    show wayA R C fo ba q (n + 1) i a = if F_X4_holds a q = 0 then (if Nx R C fo ba a = a then -1 else wayB R C fo ba q m (Nx R C fo ba a) (nI (2 * i + 1) + 2)) else nI (2 * i + 1)
    rw [if_pos hq]
    by_cases h1 : Nx R C fo ba a = a
    · rw [if_pos h1]
      exact wayA_no h1 hq (n + 1) i
    · rw [if_neg h1]
      have e2 : nI (2 * i + 1) + 2 = nI (2 * (i + 1) + 1) := nI_add (2 * i + 1) 2
      rw [e2]
      show (if F_X4_holds (Nx R C fo ba a) q = 0 then wayA R C fo ba q n (i + 1) (Nx R C fo ba a) else nI (2 * i + 3)) = _
      by_cases h2 : F_X4_holds (Nx R C fo ba a) q = 0
      · rw [if_pos h2]
        refine ih m (i + 1) _ (by omega) h2 (fun c hc hf => ?_) ?_
        · exact (spr_1 (fo := fo) (ba := ba) hR hC a c).mpr (Or.inl (h0 c hc hf))
        · have := way_grow hR hC hr h0 h1
          omega
      · rw [if_neg h2]
        obtain ⟨m, rfl⟩ : ∃ m', m = m' + 1 := ⟨m - 1, by omega⟩
        show nI (2 * i + 3) = if F_X4_holds (Nx R C fo ba a) q = 0 then _ else nI (2 * (i + 1) + 1)
        rw [if_neg h2]
        rfl
end
theorem wayR_A {R C : Nat} {li x1 x2 : Int32} : ∀ (n i : Nat) (a : Int32), L_X3_wayRound_48 R C li x1 x2 n i a = wayA R C (T_X3_wayRound_26 li x1) (T_X3_wayRound_34 li x1 x2) (T_X3_wayRound_14 C x1) n i a
  | 0, _, _ => rfl
  | n + 1, i, a => by
    show (if (F_X4_holds (F_X3_spread R C a (T_X3_wayRound_26 li x1) (T_X3_wayRound_34 li x1 x2) 1) (T_X3_wayRound_14 C x1)) = 0 then L_X3_wayRound_48 R C li x1 x2 n (i + 1) (F_X3_spread R C a (T_X3_wayRound_26 li x1) (T_X3_wayRound_34 li x1 x2) 1) else nI (2 * i + 3)) = (if F_X4_holds (Nx R C (T_X3_wayRound_26 li x1) (T_X3_wayRound_34 li x1 x2) a) (T_X3_wayRound_14 C x1) = 0 then wayA R C (T_X3_wayRound_26 li x1) (T_X3_wayRound_34 li x1 x2) (T_X3_wayRound_14 C x1) n (i + 1) (Nx R C (T_X3_wayRound_26 li x1) (T_X3_wayRound_34 li x1 x2) a) else nI (2 * i + 3))
    rw [spr_one, wayR_A n (i + 1)]
theorem stp_N {R C : Nat} {fi br : Int32} {K kk : Nat} {x2 : Int32} (a : Int32 × Int32) : itr (fun i b => S_X7_stepsTo_50 R C fi br K kk x2 a i b) R 0 a.1 = Nx R C (T_X7_stepsTo_9 R C fi br K kk) ((T_X7_stepsTo_9 R C fi br K kk) &&& (x2 ^^^ (-1))) a.1 := rfl
theorem stp_B {R C : Nat} {fi br : Int32} {K kk : Nat} {x2 : Int32} : ∀ (n i : Nat) (a : Int32 × Int32), L_X7_stepsTo_26 R C fi br K kk x2 n i a = wayB R C (T_X7_stepsTo_9 R C fi br K kk) ((T_X7_stepsTo_9 R C fi br K kk) &&& (x2 ^^^ (-1))) ((nI kk) - (nI kk) / (nI C) * (nI C)) n a.1 a.2
  | 0, _, _ => rfl
  | n + 1, i, a => by
    show (if (F_X7_has a.1 ((nI kk) - (nI kk) / (nI C) * (nI C))) = 0 then (if (itr (fun i b => S_X7_stepsTo_50 R C fi br K kk x2 a i b) R 0 a.1) = a.1 then (-1) else L_X7_stepsTo_26 R C fi br K kk x2 n (i + 1) ((itr (fun i b => S_X7_stepsTo_50 R C fi br K kk x2 a i b) R 0 a.1), a.2 + 2)) else a.2) = _
    rw [stp_N, stp_B n (i + 1)]
    rfl
/-- the way round a key, both sides -/
theorem way_key {R C K : Nat} {fi br x2 : Int32} {k : Nat} (hR : R ≤ 5) (hC : C ≤ 5) (h0 : 0 < C) (hK : K = R * C) (hk : k < K) : F_X3_wayRound R C (F_X7_able R C fi br K) (nI k) x2 = F_X7_stepsTo R C fi br K k x2 := by
  have hk25 : K ≤ 25 := by rw [hK]; exact Nat.mul_le_mul hR hC
  obtain ⟨d1, d2, d3⟩ := rc_div (R := R) (C := C) (j := k) (by omega)
  have e1 : (nI k) / (nI C) = nI (k / C) := pk_div (by omega) (by omega) (by omega)
  have e2 : (nI k) - (nI k) / (nI C) * (nI C) = nI (k % C) := pk_rem (by omega) (by omega) (by omega)
  have f1 : F_X3_rowOf C (nI k) = nI (k / C) := by
    unfold F_X3_rowOf
    rw [if_neg (fun h => by
      rw [Int32.le_iff_toInt_le, nI_toInt (by omega), show (0 : Int32).toInt = 0 from by decide] at h
      omega), e1]
  have f2 : T_X3_wayRound_14 C (nI k) = nI (k % C) := by
    show nI k - (F_X3_rowOf C (nI k)) * (nI C) = nI (k % C)
    rw [f1, ← e1, e2]
  have f3 : T_X3_wayRound_26 (F_X7_able R C fi br K) (nI k) = T_X7_stepsTo_9 R C fi br K k := rfl
  have f4 : T_X3_wayRound_34 (F_X7_able R C fi br K) (nI k) x2 = (T_X7_stepsTo_9 R C fi br K k) &&& (x2 ^^^ (-1)) := rfl
  have f5 : T_X3_wayRound_43 C (F_X7_able R C fi br K) (nI k) = F_X3_columnsOf C (T_X7_stepsTo_9 R C fi br K k) (nI (k / C)) := by
    show F_X3_columnsOf C _ (F_X3_rowOf C (nI k)) = _
    rw [f1]; rfl
  unfold F_X3_wayRound F_X7_stepsTo
  rw [wayR_A, stp_B, f2, f3, f4, f5, e2, e1]
  have hb : ∀ c, bt (F_X3_columnsOf C (T_X7_stepsTo_9 R C fi br K k) (nI (k / C))) c = (decide (c < C) && bt (T_X7_stepsTo_9 R C fi br K k) (k / C * C + c)) := bt_col hC _ (by omega)
  refine way_eq hR hC (r := k / C) d1 (R - 1) 33 0 _ (by omega) ?_ (fun c hc hf => ?_) ?_
  · refine (holds_iff (by omega)).mpr ?_
    rw [hb, ← d3]
    cases e : bt (T_X7_stepsTo_9 R C fi br K k) k with
    | false => exact Bool.and_false _
    | true => exact absurd rfl ((with0_b (by omega) (by omega)).mp e).2
  · rw [hb, decide_eq_true hc, hf]; rfl
  · have h9 : 0 < ct (gvn R C (T_X7_stepsTo_9 R C fi br K k) ((T_X7_stepsTo_9 R C fi br K k) &&& (x2 ^^^ (-1))) (F_X3_columnsOf C (T_X7_stepsTo_9 R C fi br K k) (nI (k / C))) (k / C)) R := by
      refine Nat.lt_of_le_of_lt (Nat.zero_le _) (ct_lt (p := fun _ => false) (fun i h => absurd h (by decide)) (k := k / C) (by decide) ?_ R d1)
      unfold gvn
      rw [decide_eq_true d1, decide_eq_true rfl]
      rfl
    omega
theorem wayA_never {R C : Nat} {fo ba q : Int32} (P : Int32 → Prop) (h1 : ∀ a, P a → P (Nx R C fo ba a)) (h2 : ∀ a, P a → F_X4_holds a q = 0) : ∀ (n i : Nat) (a : Int32), P a → wayA R C fo ba q n i a = -1
  | 0, _, _, _ => rfl
  | n + 1, i, a, h => by
    show (if F_X4_holds (Nx R C fo ba a) q = 0 then wayA R C fo ba q n (i + 1) (Nx R C fo ba a) else nI (2 * i + 3)) = -1
    rw [if_pos (h2 _ (h1 a h))]
    exact wayA_never P h1 h2 n (i + 1) _ (h1 a h)
theorem way_dead {R C K : Nat} {fi br x2 : Int32} {k : Nat} (hR : R ≤ 5) (hC : C ≤ 5) (h0 : 0 < C) (hK : K = R * C) (hf : ∀ j, bt fi j = true → j < K) (hk : k < K) (hfi : bt fi k = true) (hn : bt (F_X7_able R C fi br K) k = false) : F_X7_stepsTo R C fi br K k x2 = -1 := by
  have hk25 : K ≤ 25 := by rw [hK]; exact Nat.mul_le_mul hR hC
  obtain ⟨d1, d2, d3⟩ := rc_div (R := R) (C := C) (j := k) (by omega)
  have e1 : (nI k) / (nI C) = nI (k / C) := pk_div (by omega) (by omega) (by omega)
  have e2 : (nI k) - (nI k) / (nI C) * (nI C) = nI (k % C) := pk_rem (by omega) (by omega) (by omega)
  have f1 : F_X3_rowOf C (nI k) = nI (k / C) := by
    unfold F_X3_rowOf
    rw [if_neg (fun h => by
      rw [Int32.le_iff_toInt_le, nI_toInt (by omega), show (0 : Int32).toInt = 0 from by decide] at h
      omega), e1]
  have f2 : T_X3_wayRound_14 C (nI k) = nI (k % C) := by
    show nI k - (F_X3_rowOf C (nI k)) * (nI C) = nI (k % C)
    rw [f1, ← e1, e2]
  rw [← way_key hR hC h0 hK hk]
  unfold F_X3_wayRound
  rw [wayR_A, f2, show T_X3_wayRound_43 C (F_X7_able R C fi br K) (nI k) = F_X3_columnsOf C (T_X3_wayRound_26 (F_X7_able R C fi br K) (nI k)) (nI (k / C)) by show F_X3_columnsOf C _ (F_X3_rowOf C (nI k)) = _; rw [f1]]
  generalize hba : T_X3_wayRound_34 (F_X7_able R C fi br K) (nI k) x2 = ba
  have hfo : ∀ j, bt (T_X3_wayRound_26 (F_X7_able R C fi br K) (nI k)) j = true → bt (F_X7_able R C fi br K) j = true := fun j hj => by
    have hj : bt ((F_X7_able R C fi br K) &&& (((1 : Int32) <<< ((nI k) &&& 31)) ^^^ (-1))) j = true := hj
    rw [bt_and, Bool.and_eq_true] at hj
    exact hj.1
  generalize T_X3_wayRound_26 (F_X7_able R C fi br K) (nI k) = fo at hfo ⊢
  have hcol : ∀ c, bt (F_X3_columnsOf C fo (nI (k / C))) c = (decide (c < C) && bt fo (k / C * C + c)) := bt_col hC _ (by omega)
  by_cases hb : bt br (k / C) = false
  · have hb2 : ¬ bt br (R + k % C) = false := fun h => by
      have h9 := (able_iff (fi := fi) (br := br) hR hC h0 hK hf (j := k) (by omega)).mpr ⟨k / C, k % C, d1, d2, d3, hb, h, hfi⟩
      rw [hn] at h9
      exact absurd h9 (by decide)
    have hno : ∀ i, i < R → bt fo (i * C + k % C) = false := fun i hi => by
      cases e : bt fo (i * C + k % C) with
      | false => rfl
      | true =>
        have h25 := rc_lt hR hC hi d2
        obtain ⟨r, c, r1, c1, r2, -, b2, -⟩ := (able_iff (fi := fi) (br := br) hR hC h0 hK hf (by omega)).mp (hfo _ e)
        obtain ⟨-, q2⟩ := rc_inj r2 d2 c1
        rw [← q2] at b2
        exact absurd b2 hb2
    refine wayA_never (fun a => bt a (k % C) = false) (fun a ha => ?_) (fun a ha => (holds_iff (by omega)).mpr ha) (R - 1) 0 _ ?_
    · cases e : bt (Nx R C fo ba a) (k % C) with
      | false => rfl
      | true =>
        rcases (spr_1 (fo := fo) (ba := ba) hR hC a (k % C)).mp e with h | ⟨i, i1, -, -, i4⟩
        · rw [ha] at h; exact absurd h (by decide)
        · rw [hno i i1] at i4; exact absurd i4 (by decide)
    · rw [hcol, hno _ d1, Bool.and_false]
  · refine wayA_never (fun a => ∀ c, bt a c = false) (fun a ha c => ?_) (fun a ha => (holds_iff (by omega)).mpr (ha _)) (R - 1) 0 _ (fun c => ?_)
    · cases e : bt (Nx R C fo ba a) c with
      | false => rfl
      | true =>
        rcases (spr_1 (fo := fo) (ba := ba) hR hC a c).mp e with h | ⟨i, i1, ⟨d, -, -, h⟩, -⟩
        · rw [ha] at h; exact absurd h (by decide)
        · rw [ha] at h; exact absurd h (by decide)
    · rw [hcol]
      by_cases hc : c < C
      · cases e : bt fo (k / C * C + c) with
        | false => exact Bool.and_false _
        | true =>
          have h25 := rc_lt hR hC d1 hc
          obtain ⟨r, c', r1, c1, r2, b1, -, -⟩ := (able_iff (fi := fi) (br := br) hR hC h0 hK hf (by omega)).mp (hfo _ e)
          obtain ⟨q1, -⟩ := rc_inj r2 hc c1
          rw [← q1] at b1
          exact absurd b1 hb
      · rw [decide_eq_false hc, Bool.false_and]
theorem itr_cgB {α : Type} {f g : Nat → α → α} : ∀ (n i : Nat) (a : α), (∀ k a, i ≤ k → k < i + n → f k a = g k a) → itr f n i a = itr g n i a
  | 0, _, _, _ => rfl
  | n + 1, i, a, h => by
    show itr f n (i + 1) (f i a) = itr g n (i + 1) (g i a)
    rw [h i a (Nat.le_refl _) (by omega)]
    exact itr_cgB n (i + 1) _ (fun k a h1 h2 => h k a (by omega) (by omega))
/-- the least keys, both sides -/
theorem least_eq {R C K : Nat} {fi br x1 : Int32} (hR : R ≤ 5) (hC : C ≤ 5) (h0 : 0 < C) (hK : K = R * C) (hf : ∀ j, bt fi j = true → j < K) : F_X3_leastKeys R C K (F_X7_able R C fi br K) x1 = F_X7_leastOf R C fi br K x1 := by
  have hk25 : K ≤ 25 := by rw [hK]; exact Nat.mul_le_mul hR hC
  refine itr_cgB K 0 (-1) (fun k a _ hk => ?_)
  have hk : k < K := by omega
  show S_X3_leastKeys_4 R C (F_X7_able R C fi br K) x1 k a = S_X7_leastOf_4 R C fi br K x1 k a
  unfold S_X3_leastKeys_4 S_X7_leastOf_4
  rw [way_key hR hC h0 hK hk]
  by_cases h1 : F_X7_has fi (nI k) = 0
  · have h2 : F_X4_holds (F_X7_able R C fi br K) (nI k) = 0 := (holds_iff (by omega)).mpr (by
      cases e : bt (F_X7_able R C fi br K) k with
      | false => rfl
      | true =>
        obtain ⟨_, _, _, _, _, _, _, b⟩ := (able_iff (fi := fi) (br := br) hR hC h0 hK hf (by omega)).mp e
        rw [(has_iff (by omega)).mp h1] at b
        exact absurd b (by decide))
    rw [if_pos h1, if_pos h2]
  · rw [if_neg h1]
    by_cases h2 : F_X4_holds (F_X7_able R C fi br K) (nI k) = 0
    · have h3 : bt fi k = true := by
        cases e : bt fi k with
        | true => rfl
        | false => exact absurd ((has_iff (by omega)).mpr e) h1
      rw [if_pos h2, if_pos (way_dead hR hC h0 hK hf hk h3 ((holds_iff (by omega)).mp h2))]
    · rw [if_neg h2]

/-- all sets of m numbers from a on, n numbers to choose from, over x: summed from the top -/
def tsm (f : Nat → Int32) (a : Nat) : Nat → Nat → Nat → Int32
  | 0, m, x => if m = 0 then f x else 0
  | n + 1, m, x => match m with
    | 0 => f x
    | m' + 1 => tsm f a n (m' + 1) x + tsm f a n m' (x + 2 ^ (a + n))
theorem tsm_0 {f : Nat → Int32} {a n x : Nat} : tsm f a n 0 x = f x := by cases n <;> rfl
theorem tsm_z {f : Nat → Int32} {a m x : Nat} : tsm f a 0 (m + 1) x = 0 := rfl
theorem tsm_s {f : Nat → Int32} {a n m x : Nat} : tsm f a (n + 1) (m + 1) x = tsm f a n (m + 1) x + tsm f a n m (x + 2 ^ (a + n)) := rfl
theorem tsm_lo {f : Nat → Int32} : ∀ (n m a x : Nat), tsm f a (n + 1) (m + 1) x = tsm f (a + 1) n (m + 1) x + tsm f (a + 1) n m (x + 2 ^ a) := by
  intro n
  induction n with
  | zero => intro m a x; cases m <;> rfl
  | succ n ih =>
    intro m a x
    rw [tsm_s (n := n + 1), ih m a x, show a + (n + 1) = a + 1 + n by omega]
    cases m with
    | zero =>
      rw [tsm_0, tsm_0, tsm_0, tsm_s, tsm_0]
      ac_rfl
    | succ m =>
      rw [ih m a (x + 2 ^ (a + 1 + n)), tsm_s (m := m + 1), tsm_s (m := m), Nat.add_right_comm x (2 ^ (a + 1 + n)) (2 ^ a)]
      ac_rfl
theorem tsm_itr {f : Nat → Int32} {m a x N : Nat} : ∀ (n i : Nat) (acc : Int32), i + n = N → itr (fun i c => c + tsm f (a + i + 1) (N - i - 1) m (x + 2 ^ (a + i))) n i acc = acc + tsm f (a + i) n (m + 1) x
  | 0, i, acc, _ => by
    rw [tsm_z, Int32.add_zero]
    rfl
  | n + 1, i, acc, h => by
    show itr (fun i c => c + tsm f (a + i + 1) (N - i - 1) m (x + 2 ^ (a + i))) n (i + 1) (acc + tsm f (a + i + 1) (N - i - 1) m (x + 2 ^ (a + i))) = _
    rw [tsm_itr n (i + 1) _ (by omega), tsm_lo, show N - i - 1 = n by omega, show a + (i + 1) = a + i + 1 from rfl]
    ac_rfl
theorem tsm_bad {f : Nat → Int32} {k : Nat} (hf : ∀ s, s.testBit k = true → f s = 0) {a : Nat} (hk : k < a) : ∀ (n m x : Nat), x.testBit k = true → tsm f a n m x = 0
  | n, 0, x, h => by rw [tsm_0]; exact hf x h
  | 0, m + 1, x, h => tsm_z
  | n + 1, m + 1, x, h => by
    rw [tsm_s, tsm_bad hf hk n (m + 1) x h, tsm_bad hf hk n m (x + 2 ^ (a + n)) (by rw [Nat.add_comm, Nat.testBit_two_pow_add_gt (by omega)]; exact h)]
    rfl
theorem xor_nI (a b : Nat) : nI a ^^^ nI b = nI (a ^^^ b) := by
  apply Int32.toBitVec_inj.mp
  apply BitVec.eq_of_toNat_eq
  rw [Int32.toBitVec_xor, BitVec.toNat_xor]
  show a % 2 ^ 32 ^^^ b % 2 ^ 32 = (a ^^^ b) % 2 ^ 32
  rw [Nat.xor_mod_two_pow]
theorem gos_a : ∀ t, t < 26 → ∀ r, r < 26 → t + (r + 1) < 27 → (2 ^ (t + (r + 1)) - 2 ^ t) &&& (2 ^ 32 - ((2 ^ (t + (r + 1)) - 2 ^ t - 1) + 1)) = 2 ^ t := by decide +kernel
theorem gos_b : ∀ t, t < 26 → F_J6_bitCount_0f7a4 (nI (2 ^ t) - 1) = nI t := by decide +kernel
theorem gos_c : ∀ t, t < 26 → ∀ r, r < 26 → t + (r + 1) < 27 → nI ((2 ^ (t + (r + 1)) - 2 ^ t) ^^^ 2 ^ (t + (r + 1))) >>> ((2 + nI t) &&& 31) = nI (2 ^ r - 1) := by decide +kernel
theorem gos_low {t r h : Nat} (ht : t + (r + 1) < 27) (hs : 2 ^ (t + (r + 1) + 1) * h + 2 ^ (t + (r + 1)) < 2 ^ 31) : (2 ^ (t + (r + 1) + 1) * h + (2 ^ (t + (r + 1)) - 2 ^ t)) &&& (2 ^ 32 - (2 ^ (t + (r + 1) + 1) * h + (2 ^ (t + (r + 1)) - 2 ^ t))) = 2 ^ t := by
  have h1 : 2 ^ t < 2 ^ (t + (r + 1)) := Nat.pow_lt_pow_right (by decide) (by omega)
  have h0 : 0 < 2 ^ t := Nat.two_pow_pos t
  have h2 : 2 ^ (t + (r + 1)) < 2 ^ (t + (r + 1) + 1) := Nat.pow_lt_pow_right (by decide) (by omega)
  have ea := gos_a t (by omega) r (by omega) ht
  generalize hA : 2 ^ (t + (r + 1)) - 2 ^ t = A at *
  generalize hp : t + (r + 1) + 1 = p at *
  have hb : ∀ i, (A.testBit i && (decide (i < 32) && !(A - 1).testBit i)) = (2 ^ t).testBit i := fun i => by
    rw [← ea, Nat.testBit_and, Nat.testBit_two_pow_sub_succ (by omega)]
  have e1 : 2 ^ 32 - (2 ^ p * h + A) = 2 ^ 32 - ((2 ^ p * h + (A - 1)) + 1) := by omega
  apply Nat.eq_of_testBit_eq
  intro i
  rw [e1, Nat.testBit_and, Nat.testBit_two_pow_sub_succ (by omega), Nat.testBit_two_pow_mul_add h (show A < 2 ^ p by omega), Nat.testBit_two_pow_mul_add h (show A - 1 < 2 ^ p by omega)]
  by_cases hi : i < p
  · rw [if_pos hi, if_pos hi]
    exact hb i
  · rw [if_neg hi, if_neg hi, Nat.testBit_two_pow, decide_eq_false (show ¬ t = i by omega)]
    cases h.testBit (i - p) <;> simp
/-- the next set of the same size, behind a run of r + 1 keys from t on -/
theorem gos_next {t r h : Nat} (ht : t + (r + 1) < 27) (hs : 2 ^ (t + (r + 1) + 1) * h + 2 ^ (t + (r + 1)) < 2 ^ 31) : F_X3_nextOfSameSize (nI (2 ^ (t + (r + 1) + 1) * h + (2 ^ (t + (r + 1)) - 2 ^ t))) = nI (2 ^ (t + (r + 1) + 1) * h + 2 ^ (t + (r + 1)) + (2 ^ r - 1)) := by
  have h1 : 2 ^ t < 2 ^ (t + (r + 1)) := Nat.pow_lt_pow_right (by decide) (by omega)
  have h0 : 0 < 2 ^ t := Nat.two_pow_pos t
  have h2 : 2 ^ (t + (r + 1)) < 2 ^ (t + (r + 1) + 1) := Nat.pow_lt_pow_right (by decide) (by omega)
  have h3 : 2 ^ r ≤ 2 ^ (t + (r + 1)) := Nat.pow_le_pow_right (by decide) (by omega)
  have h4 : 0 < 2 ^ r := Nat.two_pow_pos r
  have el := gos_low ht hs
  have e4 : T_X3_nextOfSameSize_4 (nI (2 ^ (t + (r + 1) + 1) * h + (2 ^ (t + (r + 1)) - 2 ^ t))) = nI (2 ^ t) := by
    unfold T_X3_nextOfSameSize_4
    apply Int32.toBitVec_inj.mp
    apply BitVec.eq_of_toNat_eq
    rw [Int32.toBitVec_and, Int32.toBitVec_neg, BitVec.toNat_and, BitVec.toNat_neg, pk_tn (by omega), pk_tn (by omega), Nat.mod_eq_of_lt (by omega)]
    exact el
  have e8 : T_X3_nextOfSameSize_8 (nI (2 ^ (t + (r + 1) + 1) * h + (2 ^ (t + (r + 1)) - 2 ^ t))) = nI (2 ^ (t + (r + 1) + 1) * h + 2 ^ (t + (r + 1))) := by
    unfold T_X3_nextOfSameSize_8
    rw [e4, nI_add]
    exact congrArg nI (by omega)
  have ex : (2 ^ (t + (r + 1) + 1) * h + (2 ^ (t + (r + 1)) - 2 ^ t)) ^^^ (2 ^ (t + (r + 1) + 1) * h + 2 ^ (t + (r + 1))) = (2 ^ (t + (r + 1)) - 2 ^ t) ^^^ 2 ^ (t + (r + 1)) := by
    apply Nat.eq_of_testBit_eq
    intro i
    rw [Nat.testBit_xor, Nat.testBit_xor, Nat.testBit_two_pow_mul_add h (show 2 ^ (t + (r + 1)) - 2 ^ t < 2 ^ (t + (r + 1) + 1) by omega), Nat.testBit_two_pow_mul_add h h2]
    by_cases hi : i < t + (r + 1) + 1
    · rw [if_pos hi, if_pos hi]
    · rw [if_neg hi, if_neg hi, Bool.xor_self]
      have q : ∀ y, y < 2 ^ (t + (r + 1) + 1) → y.testBit i = false := fun y hy => Nat.testBit_lt_two_pow (Nat.lt_of_lt_of_le hy (Nat.pow_le_pow_right (by decide) (by omega)))
      rw [q _ (by omega), q _ h2]
      rfl
  have eo : 2 ^ (t + (r + 1) + 1) * h + 2 ^ (t + (r + 1)) + (2 ^ r - 1) = (2 ^ (t + (r + 1) + 1) * h + 2 ^ (t + (r + 1))) ||| (2 ^ r - 1) := by
    have q : 2 ^ (t + (r + 1) + 1) * h + 2 ^ (t + (r + 1)) = 2 ^ (t + (r + 1)) * (2 * h + 1) := by rw [Nat.pow_succ, Nat.mul_add, Nat.mul_one, ← Nat.mul_assoc]
    rw [q]
    exact Nat.two_pow_add_eq_or_of_lt (by omega) _
  unfold F_X3_nextOfSameSize
  rw [e8, e4, gos_b t (by omega), xor_nI, ex, gos_c t (by omega) r (by omega) ht, or_nI, ← eo]
/-- how many sets of m there are of n -/
def cnk : Nat → Nat → Nat
  | 0, m => if m = 0 then 1 else 0
  | n + 1, m => match m with
    | 0 => 1
    | m' + 1 => cnk n (m' + 1) + cnk n m'
theorem cnk_0 {n : Nat} : cnk n 0 = 1 := by cases n <;> rfl
theorem cnk_s {n m : Nat} : cnk (n + 1) (m + 1) = cnk n (m + 1) + cnk n m := rfl
theorem cnk_no : ∀ n m, n < m → cnk n m = 0
  | 0, m + 1, _ => rfl
  | n + 1, m + 1, h => by rw [cnk_s, cnk_no n (m + 1) (by omega), cnk_no n m (by omega)]
theorem tsm_no {f : Nat → Int32} {a : Nat} : ∀ n m x, n < m → tsm f a n m x = 0
  | 0, m + 1, x, _ => rfl
  | n + 1, m + 1, x, h => by rw [tsm_s, tsm_no n (m + 1) x (by omega), tsm_no n m _ (by omega)]; rfl
theorem cnk_max : ∀ k, k < 26 → ∀ m, m < 5 → cnk k m ≤ 12650 := by decide +kernel
section
variable {R C K : Nat} {fi di li : Int32}
/-- one for a set of fitted keys that isn't exact -/
def gex (R C : Nat) (fi di li : Int32) (s : Nat) : Int32 := if (nI s &&& (fi ^^^ (-1))) = 0 then (if F_X3_isExact R C fi di li (nI s) = 0 then 1 else 0) else 0
theorem gos_one {n i s : Nat} {acc : Int32} (hK : K ≤ 25) (hs : s < 2 ^ K) : L_X3_unclearSets_11 R C K fi di li (n + 1) i (acc, nI s) = L_X3_unclearSets_11 R C K fi di li n (i + 1) (acc + gex R C fi di li s, F_X3_nextOfSameSize (nI s)) := by
  have h2 : 2 ^ K ≤ 2 ^ 25 := Nat.pow_le_pow_right (by decide) hK
  have h1 : ¬ F_X3_isSet K (nI s) = 0 := by
    unfold F_X3_isSet
    rw [if_neg (nI_pos (by omega)), shl25 K (by omega), if_neg (nI_ge hs (by omega))]
    decide
  show (if (F_X3_isSet K (nI s)) = 0 then acc else (if (nI s &&& (fi ^^^ (-1))) = 0 then (if (F_X3_isExact R C fi di li (nI s)) = 0 then L_X3_unclearSets_11 R C K fi di li n (i + 1) (acc + 1, F_X3_nextOfSameSize (nI s)) else L_X3_unclearSets_11 R C K fi di li n (i + 1) (acc, F_X3_nextOfSameSize (nI s))) else L_X3_unclearSets_11 R C K fi di li n (i + 1) (acc, F_X3_nextOfSameSize (nI s)))) = _
  unfold gex
  rw [if_neg h1]
  by_cases h3 : (nI s &&& (fi ^^^ (-1))) = 0
  · rw [if_pos h3, if_pos h3]
    by_cases h4 : F_X3_isExact R C fi di li (nI s) = 0
    · rw [if_pos h4, if_pos h4]
    · rw [if_neg h4, if_neg h4, Int32.add_zero]
  · rw [if_neg h3, if_neg h3, Int32.add_zero]
theorem gos_run (hK : K ≤ 25) : ∀ (k m h n i : Nat) (acc : Int32), m ≤ k → 2 ^ k * h + 2 ^ k ≤ 2 ^ K → L_X3_unclearSets_11 R C K fi di li (cnk k m + n) i (acc, nI (2 ^ k * h + (2 ^ m - 1))) = L_X3_unclearSets_11 R C K fi di li n (i + cnk k m) (acc + tsm (gex R C fi di li) 0 k m (2 ^ k * h), F_X3_nextOfSameSize (nI (2 ^ k * h + (2 ^ k - 2 ^ (k - m))))) := by
  have h25 : 2 ^ K ≤ 2 ^ 25 := Nat.pow_le_pow_right (by decide) hK
  intro k
  induction k with
  | zero =>
    intro m h n i acc hm hb
    obtain rfl : m = 0 := by omega
    rw [cnk_0, tsm_0, Nat.add_comm 1 n, gos_one hK (by rw [Nat.pow_zero] at *; omega)]
    rfl
  | succ k ih =>
    intro m h n i acc hm hb
    cases m with
    | zero =>
      have h0 : 0 < 2 ^ (k + 1) := Nat.two_pow_pos _
      rw [cnk_0, tsm_0, Nat.add_comm 1 n, gos_one hK (by rw [Nat.pow_zero]; omega), show 2 ^ 0 - 1 = 0 from rfl, Nat.sub_zero, Nat.sub_self]
      rfl
    | succ m =>
      have e1 : 2 ^ (k + 1) * h = 2 ^ k * (2 * h) := by rw [Nat.pow_succ, Nat.mul_assoc]
      have e2 : 2 ^ (k + 1) * h + 2 ^ k = 2 ^ k * (2 * h + 1) := by rw [e1, Nat.mul_add, Nat.mul_one]
      have e3 : 2 ^ (k + 1) = 2 ^ k + 2 ^ k := by rw [Nat.pow_succ]; omega
      have hmk : 2 ^ m ≤ 2 ^ k := Nat.pow_le_pow_right (by decide) (by omega)
      have hm0 : 0 < 2 ^ m := Nat.two_pow_pos m
      have hd : 2 ^ (k - m) ≤ 2 ^ k := Nat.pow_le_pow_right (by decide) (by omega)
      have tail : ∀ (n i : Nat) (acc : Int32), L_X3_unclearSets_11 R C K fi di li (cnk k m + n) i (acc, nI (2 ^ (k + 1) * h + 2 ^ k + (2 ^ m - 1))) = L_X3_unclearSets_11 R C K fi di li n (i + cnk k m) (acc + tsm (gex R C fi di li) 0 k m (2 ^ (k + 1) * h + 2 ^ k), F_X3_nextOfSameSize (nI (2 ^ (k + 1) * h + (2 ^ (k + 1) - 2 ^ (k + 1 - (m + 1)))))) := fun n i acc => by
        have q := ih m (2 * h + 1) n i acc (by omega) (by rw [← e2]; omega)
        rw [← e2] at q
        rw [q, show k + 1 - (m + 1) = k - m by omega, show 2 ^ (k + 1) * h + 2 ^ k + (2 ^ k - 2 ^ (k - m)) = 2 ^ (k + 1) * h + (2 ^ (k + 1) - 2 ^ (k - m)) by omega]
      by_cases hk : m + 1 ≤ k
      · have q := ih (m + 1) (2 * h) (cnk k m + n) i acc hk (by rw [← e1]; omega)
        have nx := gos_next (t := k - (m + 1)) (r := m) (h := h) (by
          have : k < 26 := Nat.lt_of_not_le fun q9 => by
            have : 2 ^ 26 ≤ 2 ^ k := Nat.pow_le_pow_right (by decide) q9
            omega
          omega) (by rw [show k - (m + 1) + (m + 1) = k by omega]; omega)
        rw [show k - (m + 1) + (m + 1) = k by omega] at nx
        rw [← e1] at q
        rw [cnk_s, Nat.add_assoc, q, nx, tail, tsm_s, Nat.zero_add, Nat.add_assoc, Int32.add_assoc]
      · obtain rfl : m = k := by omega
        rw [cnk_s, cnk_no m (m + 1) (by omega), Nat.zero_add, tsm_s, tsm_no m (m + 1) _ (by omega), Int32.zero_add, Nat.zero_add]
        have q := tail n i acc
        rw [show 2 ^ (m + 1) * h + 2 ^ m + (2 ^ m - 1) = 2 ^ (m + 1) * h + (2 ^ (m + 1) - 1) by omega] at q
        exact q
/-- the class's count: the sum over all sets of m -/
theorem gos_all (hK : K ≤ 25) {m : Nat} (h4 : m + 1 < 5) : F_X3_unclearSets R C K fi di li (nI (m + 1)) = tsm (gex R C fi di li) 0 K (m + 1) 0 := by
  have h25 : 2 ^ K ≤ 2 ^ 25 := Nat.pow_le_pow_right (by decide) hK
  have e0 : ((1 : Int32) <<< (nI (m + 1) &&& 31)) - 1 = nI (2 ^ (m + 1) - 1) := by
    rw [shl25 (m + 1) (by omega), nI_m1 (Nat.two_pow_pos _)]
  by_cases hm : m + 1 ≤ K
  case neg =>
    have h8 : 2 ^ K < 2 ^ (m + 1) := Nat.pow_lt_pow_right (by decide) (by omega)
    have h7 : 2 ^ (m + 1) ≤ 2 ^ 25 := Nat.pow_le_pow_right (by decide) (by omega)
    have h9 : F_X3_isSet K (nI (2 ^ (m + 1) - 1)) = 0 := by
      unfold F_X3_isSet
      rw [if_neg (nI_pos (by omega)), shl25 K (by omega), if_pos (nI_le (by omega) (by omega))]
    unfold F_X3_unclearSets
    rw [e0, tsm_no K (m + 1) 0 (by omega)]
    show (if (F_X3_isSet K (nI (2 ^ (m + 1) - 1))) = 0 then (0 : Int32) else _) = 0
    rw [if_pos h9]
  obtain ⟨n, hn⟩ : ∃ n, 12650 = cnk K (m + 1) + n := ⟨12650 - cnk K (m + 1), by have := cnk_max K (by omega) (m + 1) h4; omega⟩
  unfold F_X3_unclearSets
  have q := gos_run (R := R) (C := C) (fi := fi) (di := di) (li := li) hK K (m + 1) 0 n 0 0 hm (by omega)
  rw [Nat.mul_zero, Nat.zero_add, Nat.zero_add, Nat.zero_add] at q
  rw [e0, hn, q, Int32.zero_add]
  have hd : 2 ^ (K - (m + 1)) < 2 ^ K := Nat.pow_lt_pow_right (by decide) (by omega)
  have nx := gos_next (t := K - (m + 1)) (r := m) (h := 0) (by omega) (by rw [show K - (m + 1) + (m + 1) = K by omega]; omega)
  rw [show K - (m + 1) + (m + 1) = K by omega, Nat.mul_zero, Nat.zero_add, Nat.zero_add] at nx
  cases n with
  | zero => rfl
  | succ n =>
    have h9 : F_X3_isSet K (nI (2 ^ K + (2 ^ m - 1))) = 0 := by
      have hm9 : 2 ^ m ≤ 2 ^ K := Nat.pow_le_pow_right (by decide) (by omega)
      unfold F_X3_isSet
      rw [if_neg (nI_pos (by omega)), shl25 K (by omega), if_pos (nI_le (by omega) (by omega))]
    rw [nx]
    show (if (F_X3_isSet K (nI (2 ^ K + (2 ^ m - 1)))) = 0 then _ else _) = _
    rw [if_pos h9]
end
section
variable {R C K : Nat} {fi br di : Int32}
def gexM (R C : Nat) (fi br : Int32) (K : Nat) (di : Int32) (s : Nat) : Int32 := if (nI s &&& (fi ^^^ (-1))) = 0 then (if F_X7_isExact R C fi br K (nI s) di = 0 then 1 else 0) else 0
theorem bt_nI {x j : Nat} (hj : j < 32) : bt (nI x) j = x.testBit j := by
  show (BitVec.ofNat 32 x).getLsbD j = _
  rw [BitVec.getLsbD_ofNat, decide_eq_true hj, Bool.true_and]
theorem sub_fi {x : Nat} (h : ∀ j, x.testBit j = true → bt fi j = true) : nI x &&& (fi ^^^ (-1)) = 0 := by
  refine bt_zero.mpr (fun j hj => ?_)
  rw [bt_and, bt_not _ hj, bt_nI hj]
  cases e : x.testBit j with
  | false => rfl
  | true => rw [h j e]; rfl
theorem gexM_bad {k : Nat} (hk : k < 32) (h : bt fi k = false) : ∀ s, s.testBit k = true → gexM R C fi br K di s = 0 := fun s hs => by
  unfold gexM
  rw [if_neg]
  intro e
  have q := bt_zero.mp e k hk
  rw [bt_and, bt_not _ hk, bt_nI hk, hs, h] at q
  exact absurd q (by decide)
theorem with1_nI {x k : Nat} (hx : x < 2 ^ k) (hk : k < 25) : F_X7_with (nI x) (nI k) 1 = nI (x + 2 ^ k) := by
  unfold F_X7_with
  rw [if_neg (by decide), shl25 k (by omega), or_nI]
  refine congrArg nI ?_
  have := Nat.two_pow_add_eq_or_of_lt hx 1
  rw [Nat.mul_one] at this
  rw [Nat.or_comm, ← this, Nat.add_comm]
theorem unc_step (hK : K ≤ 25) {U : Nat → Int32 → Int32} {m : Nat} (hU : ∀ j y, j ≤ K → y < 2 ^ j → (∀ i, y.testBit i = true → bt fi i = true) → U j (nI y) = tsm (gexM R C fi br K di) j (K - j) m y) {j x : Nat} (hj : j ≤ K) (hx : x < 2 ^ j) (hs : ∀ i, x.testBit i = true → bt fi i = true) : itr (fun i a => if F_X7_has fi (nI (j + i)) = 0 then a else a + U ((j + i) + 1) (F_X7_with (nI x) (nI (j + i)) 1)) (K - j) 0 0 = tsm (gexM R C fi br K di) j (K - j) (m + 1) x := by
  have q := tsm_itr (f := gexM R C fi br K di) (m := m) (a := j) (x := x) (N := K - j) (K - j) 0 0 (Nat.zero_add _)
  rw [Int32.zero_add, Nat.add_zero] at q
  rw [← q]
  refine itr_cgB (K - j) 0 0 (fun i a _ h2 => ?_)
  have hx9 : x < 2 ^ (j + i) := Nat.lt_of_lt_of_le hx (Nat.pow_le_pow_right (by decide) (by omega))
  by_cases h3 : F_X7_has fi (nI (j + i)) = 0
  · have h4 := (has_iff (by omega)).mp h3
    rw [if_pos h3, tsm_bad (gexM_bad (by omega) h4) (Nat.lt_succ_self _) _ _ _ (by rw [Nat.add_comm, Nat.testBit_two_pow_add_eq, Nat.testBit_lt_two_pow hx9]; rfl), Int32.add_zero]
  · have h4 : bt fi (j + i) = true := by
      cases e : bt fi (j + i) with
      | true => rfl
      | false => exact absurd ((has_iff (by omega)).mpr e) h3
    have h5 : x + 2 ^ (j + i) < 2 ^ (j + i + 1) := by rw [Nat.pow_succ]; omega
    rw [if_neg h3, with1_nI hx9 (by omega), hU (j + i + 1) (x + 2 ^ (j + i)) (by omega) h5 (fun b hb => ?_), show K - j - i - 1 = K - (j + i + 1) by omega]
    by_cases e : b = j + i
    · rw [e]; exact h4
    · refine hs b ?_
      by_cases e2 : b < j + i
      · rw [Nat.add_comm, Nat.testBit_two_pow_add_gt e2] at hb; exact hb
      · rw [Nat.testBit_lt_two_pow (Nat.lt_of_lt_of_le h5 (Nat.pow_le_pow_right (by decide) (by omega)))] at hb
        exact absurd hb (by decide)
theorem unc_0 {x : Nat} (hs : ∀ i, x.testBit i = true → bt fi i = true) : F_X7_unclearOf0 R C fi br K (nI x) di = gexM R C fi br K di x := by
  unfold F_X7_unclearOf0 gexM
  rw [if_pos (sub_fi hs)]
  by_cases h : F_X7_isExact R C fi br K (nI x) di = 0
  · rw [if_pos h, if_pos h]; rfl
  · rw [if_neg h, if_neg h]; rfl
theorem unc_1 (hK : K ≤ 25) {j x : Nat} (hj : j ≤ K) (hx : x < 2 ^ j) (hs : ∀ i, x.testBit i = true → bt fi i = true) : F_X7_unclearOf1 R C fi br K j (nI x) di = tsm (gexM R C fi br K di) j (K - j) 1 x :=
  unc_step (U := fun _ y => F_X7_unclearOf0 R C fi br K y di) hK (fun j y _ _ h => by rw [tsm_0]; exact unc_0 h) hj hx hs
theorem unc_2 (hK : K ≤ 25) {j x : Nat} (hj : j ≤ K) (hx : x < 2 ^ j) (hs : ∀ i, x.testBit i = true → bt fi i = true) : F_X7_unclearOf2 R C fi br K j (nI x) di = tsm (gexM R C fi br K di) j (K - j) 2 x :=
  unc_step (U := fun j y => F_X7_unclearOf1 R C fi br K j y di) hK (fun j y h1 h2 h3 => unc_1 hK h1 h2 h3) hj hx hs
theorem unc_3 (hK : K ≤ 25) {j x : Nat} (hj : j ≤ K) (hx : x < 2 ^ j) (hs : ∀ i, x.testBit i = true → bt fi i = true) : F_X7_unclearOf3 R C fi br K j (nI x) di = tsm (gexM R C fi br K di) j (K - j) 3 x :=
  unc_step (U := fun j y => F_X7_unclearOf2 R C fi br K j y di) hK (fun j y h1 h2 h3 => unc_2 hK h1 h2 h3) hj hx hs
theorem unc_4 (hK : K ≤ 25) {j x : Nat} (hj : j ≤ K) (hx : x < 2 ^ j) (hs : ∀ i, x.testBit i = true → bt fi i = true) : F_X7_unclearOf4 R C fi br K j (nI x) di = tsm (gexM R C fi br K di) j (K - j) 4 x :=
  unc_step (U := fun j y => F_X7_unclearOf3 R C fi br K j y di) hK (fun j y h1 h2 h3 => unc_3 hK h1 h2 h3) hj hx hs
end
theorem no_bit (fi : Int32) : ∀ i, (0 : Nat).testBit i = true → bt fi i = true := fun i h => by
  rw [Nat.zero_testBit] at h
  exact absurd h (by decide)
/-- both sides' counts, where what is exact is alike -/
theorem gex_eq {R C K : Nat} {fi di li br : Int32} (h : ∀ x, F_X3_isExact R C fi di li x = F_X7_isExact R C fi br K x di) : gex R C fi di li = gexM R C fi br K di := funext fun s => by
  unfold gex gexM
  rw [h]

theorem unc_acc (x : Int32) : (E_X4_unclear x = 1 ∧ F_X7_isIn x 1 4 = 0) ∨ (E_X4_unclear x = 0 ∧ ¬ F_X7_isIn x 1 4 = 0 ∧ ¬ x < 1 ∧ x ≤ 4 ∧ (x = nI 1 ∨ x = nI 2 ∨ x = nI 3 ∨ x = nI 4)) := by
  unfold E_X4_unclear
  rcases in_iff x 1 4 with ⟨b1, b2 | ⟨b2, b3⟩⟩ | ⟨b1, b2, b3⟩
  · rw [if_pos b2]; exact Or.inl ⟨rfl, b1⟩
  · rw [if_neg b2, if_neg (Int32.not_le.mpr b3)]; exact Or.inl ⟨rfl, b1⟩
  · have h4 : x ≤ 4 := Int32.not_lt.mp b3
    have h0 : ¬ x < 0 := fun h => b2 (by
      rw [Int32.lt_iff_toInt_lt] at h ⊢
      rw [show (0 : Int32).toInt = 0 from by decide] at h
      rw [show (1 : Int32).toInt = 1 from by decide]
      omega)
    obtain ⟨j, hj, rfl⟩ := nI_of h0
    rw [if_neg b2, if_pos h4]
    refine Or.inr ⟨rfl, b1, b2, h4, ?_⟩
    rw [Int32.lt_iff_toInt_lt, nI_toInt hj, show (1 : Int32).toInt = 1 from by decide] at b2
    rw [Int32.le_iff_toInt_le, nI_toInt hj, show (4 : Int32).toInt = 4 from by decide] at h4
    have h5 : j = 1 ∨ j = 2 ∨ j = 3 ∨ j = 4 := by omega
    rcases h5 with rfl | rfl | rfl | rfl
    · exact Or.inl rfl
    · exact Or.inr (Or.inl rfl)
    · exact Or.inr (Or.inr (Or.inl rfl))
    · exact Or.inr (Or.inr (Or.inr rfl))
theorem unc_cmp {R : Nat} {C : Nat} {K : Nat} {fi : Int32} {di : Int32} {li : Int32} {x1 : Int32} {on : Int64} {mR : Nat} {mC : Nat} {mfi : Int32} {mdi : Int32} {mbr : Int32} {mK : Nat} {br : Int32} (hK : K ≤ 25) (hR : R ≤ 5) (hC : C ≤ 5) (h0 : 0 < mC) (hRC : mR * mC = mK) (h : WQ R C K mR mC mK fi di br li mfi mdi mbr) : (F_X7_unclear mR mC mfi mdi mbr mK x1).2 = (F_L_unclear R C K fi di li x1 on).1 ∧ ((F_L_unclear R C K fi di li x1 on).1 = 0 → lg_cmp (F_L_unclear R C K fi di li x1 on).2 ((F_X7_unclear mR mC mfi mdi mbr mK x1).1).toInt64 = 0) := by
  have hx : ∀ x, F_X3_isExact R C fi di li x = F_X7_isExact mR mC mfi mbr mK x mdi := fun x => by
    have hs := seen_w (x1 := x) hR hC h0 hRC h
    unfold F_X3_isExact F_X7_isExact
    rw [hs]
  obtain ⟨e1, e2, e3, e4, e5, e6, e7, e8⟩ := h
  subst e1
  subst e2
  subst e3
  subst e4
  subst e5
  subst e6
  have hg := gex_eq (R := R) (C := C) (K := K) (fi := fi) (di := di) (li := li) (br := br) hx
  have h9 : (0 : Nat) < 2 ^ 0 := by decide
  have u1 : F_X7_unclearOf1 R C fi br K 0 (nI 0) di = F_X3_unclearSets R C K fi di li (nI 1) := by rw [gos_all hK (m := 0) (by omega), hg]; exact unc_1 hK (Nat.zero_le _) h9 (no_bit fi)
  have u2 : F_X7_unclearOf2 R C fi br K 0 (nI 0) di = F_X3_unclearSets R C K fi di li (nI 2) := by rw [gos_all hK (m := 1) (by omega), hg]; exact unc_2 hK (Nat.zero_le _) h9 (no_bit fi)
  have u3 : F_X7_unclearOf3 R C fi br K 0 (nI 0) di = F_X3_unclearSets R C K fi di li (nI 3) := by rw [gos_all hK (m := 2) (by omega), hg]; exact unc_3 hK (Nat.zero_le _) h9 (no_bit fi)
  have u4 : F_X7_unclearOf4 R C fi br K 0 (nI 0) di = F_X3_unclearSets R C K fi di li (nI 4) := by rw [gos_all hK (m := 3) (by omega), hg]; exact unc_4 hK (Nat.zero_le _) h9 (no_bit fi)
  rcases unc_acc x1 with ⟨g0, g1⟩ | ⟨g0, g1, g2, g3, g4⟩
  · have f1 : (F_L_unclear R C K fi di li x1 on).1 = 1 := by unfold F_L_unclear; rw [if_neg (show ¬ E_X4_unclear x1 = 0 by rw [g0]; decide)]
    have f2 : (F_X7_unclear R C fi di br K x1).2 = 1 := by unfold F_X7_unclear; rw [if_pos g1]; exact show (F_X7_start 1 1).2 = 1 by decide
    rw [f1, f2]
    exact ⟨rfl, fun h9 => absurd h9 (by decide)⟩
  · have f1 : (F_L_unclear R C K fi di li x1 on).1 = 0 ∧ (F_L_unclear R C K fi di li x1 on).2 = (F_X3_unclearSets R C K fi di li x1).toInt64 := by unfold F_L_unclear F_X4_unclear; rw [if_pos g0, if_neg g2, if_pos g3]; exact ⟨rfl, rfl⟩
    have f2 : (F_X7_unclear R C fi di br K x1).2 = 0 ∧ (F_X7_unclear R C fi di br K x1).1 = F_X3_unclearSets R C K fi di li x1 := by
      have hs : (F_X7_start 0 1).2 = 0 := by decide
      unfold F_X7_unclear
      rw [if_neg g1]
      rcases g4 with rfl | rfl | rfl | rfl
      · rw [if_pos (show nI 1 = 1 from rfl)]; exact ⟨hs, u1⟩
      · rw [if_neg (show ¬ nI 2 = 1 by decide), if_pos (show nI 2 = 2 from rfl)]; exact ⟨hs, u2⟩
      · rw [if_neg (show ¬ nI 3 = 1 by decide), if_neg (show ¬ nI 3 = 2 by decide), if_pos (show nI 3 = 3 from rfl)]; exact ⟨hs, u3⟩
      · rw [if_neg (show ¬ nI 4 = 1 by decide), if_neg (show ¬ nI 4 = 2 by decide), if_neg (show ¬ nI 4 = 3 by decide)]; exact ⟨hs, u4⟩
    rw [f1.1, f1.2, f2.1, f2.2]
    exact ⟨rfl, fun _ => lgc_self _⟩
