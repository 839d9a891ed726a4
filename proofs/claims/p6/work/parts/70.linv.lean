theorem gi_SX {own : String} {idx : Nat} {y : MethodName} {b : Cond} (h1 : Cond.methodLink own idx y ∈ lwAll) (h2 : Cond.static y ∈ lwAll) (h4 : Cond.initialized y.cls ∈ lwAll) (h5 : b ∈ lwAll) : GoodIn lwAll (va_wsS own idx y (b :: lwAll)) :=
  gi_cons h1 (gi_cons h2 (gi_cons h4 (gi_sub h5)))
theorem sPre_mk {D : va_G} {wc : va_W} {s : State} {H : Heap} {A : Nat → Prop} {av : List Value} (hstr : ∃ sa, vk_R "RowscanModel" 271 "" sa s) (hI : lwI D (va_A wc H.size) s H) (hP : va_P D vwCl wc H) (hK : va_K D vwCl (lwTY2 D) s) (hD : va_D A wc) (hN : (∀ w ∈ lwNest, va_Nw w s) ∧ lwTx s) (hZ : lwZ (va_A wc H.size) s H) : ∀ U : State, U.heap = H → s.WarmedH U.vm → va_Pc av (sPre D (lwTY2 D) wc H.size) av.toArray U :=
  fun U hU hW => by
    obtain ⟨h0, h1⟩ := rPre_mk (av := av) hI hP hK hD hN hZ U hU hW
    obtain ⟨sa, h2⟩ := hstr
    exact ⟨h0, h1, sa, vk_R.warm hW h2⟩
theorem and31 (x : Int32) : ∃ w, w < 32 ∧ x &&& 31 = nI w := by
  have h1 : (x &&& 31).toBitVec.toNat < 32 := by
    rw [show (x &&& 31).toBitVec = x.toBitVec &&& 31#32 from rfl, BitVec.toNat_and]
    exact Nat.lt_of_le_of_lt Nat.and_le_right (by decide)
  refine ⟨(x &&& 31).toBitVec.toNat, h1, ?_⟩
  apply Int32.toBitVec_inj.mp
  apply BitVec.eq_of_toNat_eq
  show (x &&& 31).toBitVec.toNat = (BitVec.ofNat 32 (x &&& 31).toBitVec.toNat).toNat
  rw [BitVec.toNat_ofNat]
  omega

theorem lay_e0 {R : Nat} {C : Nat} {fi : Int32} {di : Int32} {he : Int32} {br : Int32} {pa : Int32} {gu : Int32} {sc : Nat} {cl : Int32} {se : Int32} {lo : Int32} {km : Int32} {K : Nat} {kn : Nat} {hm : Int32} {nh : Nat} {ml : Int32} {n : Nat} {V : Nat → KV} {x1 : Int32} {x2 : Int32} : (F_X7_lay R C fi di he br pa gu sc cl se lo km K kn hm nh ml n V x1 x2).2.2.2.2.2.2.2.2.2.2.2.2.2.2.2.1 = (F_X7_lay R C fi di he br pa gu sc cl se lo km K kn hm nh ml n V x1 x2).2.2.2.2.2.2.2.2.2.2.2.2.2.2.2.2.2.2.2.2.2.1 := by
  unfold F_X7_lay
  (repeat' split) <;> rfl

theorem lay_e1 {R : Nat} {C : Nat} {fi : Int32} {di : Int32} {he : Int32} {br : Int32} {pa : Int32} {gu : Int32} {sc : Nat} {cl : Int32} {se : Int32} {lo : Int32} {km : Int32} {K : Nat} {kn : Nat} {hm : Int32} {nh : Nat} {ml : Int32} {n : Nat} {V : Nat → KV} {x1 : Int32} {x2 : Int32} : (F_X7_lay R C fi di he br pa gu sc cl se lo km K kn hm nh ml n V x1 x2).2.2.2.2.2.2.2.2.2.2.2.2.2.2.2.2.2.2.1 = (F_X7_lay R C fi di he br pa gu sc cl se lo km K kn hm nh ml n V x1 x2).2.2.2.2.2.2.2.2.2.2.2.2.2.2.2.2.2.2.2.2.2.2.2 := by
  unfold F_X7_lay
  (repeat' split) <;> rfl

theorem chord_e0 {K : Nat} {hm : Int32} {nh : Nat} {hcp : Nat} {hf : Nat → Nat → Int32} {x1 : Int32} {x2 : Int32} : (F_X7_chord K hm nh hcp hf x1 x2).2.2.2.1 = (F_X7_chord K hm nh hcp hf x1 x2).2.2.2.2.2.1 := by
  unfold F_X7_chord
  (repeat' split) <;> rfl

theorem chord_cap {K : Nat} {hm : Int32} {nh : Nat} {hcp : Nat} {hf : Nat → Nat → Int32} {x1 : Int32} {x2 : Int32} (h1 : nh ≤ hcp) (h2 : hcp ≤ 40) (h3 : nh ≤ 6) (h4 : hcp ≠ 0 → 10 ≤ hcp) : (F_X7_chord K hm nh hcp hf x1 x2).2.2.2.2.1 ≤ 40 := by
  unfold F_X7_chord
  (repeat' split) <;> first | exact h2 | exact (add_cap h1 h2 (by omega) h4).2.1

theorem lgc_self (x : Int64) : lg_cmp x x = 0 := Int32.le_antisymm ((lg_cmp_le x x).mpr (Int64.le_refl x)) ((lg_cmp_ge x x).mpr (Int64.le_refl x))

theorem lay_acc (x1 x2 : Int32) : (E_X4_lay x1 x2 = 0 ∧ ¬ F_X7_isIn x1 2 5 = 0 ∧ ¬ F_X7_isIn x2 2 5 = 0) ∨ (¬ E_X4_lay x1 x2 = 0 ∧ (F_X7_isIn x1 2 5 = 0 ∨ (¬ F_X7_isIn x1 2 5 = 0 ∧ F_X7_isIn x2 2 5 = 0))) := by
  have e : E_X4_lay x1 x2 = if F_X7_isIn x1 2 5 = 0 then 1 else if F_X7_isIn x2 2 5 = 0 then 1 else 0 := rfl
  by_cases h1 : F_X7_isIn x1 2 5 = 0
  · refine Or.inr ⟨?_, Or.inl h1⟩
    rw [e, if_pos h1]
    decide
  · by_cases h2 : F_X7_isIn x2 2 5 = 0
    · refine Or.inr ⟨?_, Or.inr ⟨h1, h2⟩⟩
      rw [e, if_neg h1, if_pos h2]
      decide
    · refine Or.inl ⟨?_, h1, h2⟩
      rw [e, if_neg h1, if_neg h2]

theorem lay4_acc {x1 x2 : Int32} (h : E_X4_lay x1 x2 = 0) : ¬ F_X4_isSize x1 = 0 ∧ ¬ F_X4_isSize x2 = 0 := by
  unfold E_X4_lay at h
  by_cases h1 : F_X4_isSize x1 = 0
  · rw [if_pos h1] at h; exact absurd h (by decide)
  · rw [if_neg h1] at h
    by_cases h2 : F_X4_isSize x2 = 0
    · rw [if_pos h2] at h; exact absurd h (by decide)
    · exact ⟨h1, h2⟩

theorem has_hold (x k : Int32) : F_X4_holds x k = F_X7_has x k := rfl
theorem in_iff (x : Int32) (a b : Int32) : (F_X7_isIn x a b = 0 ∧ (x < a ∨ (¬ x < a ∧ b < x))) ∨ (¬ F_X7_isIn x a b = 0 ∧ ¬ x < a ∧ ¬ b < x) := by
  unfold F_X7_isIn
  by_cases h1 : x < a
  · rw [if_pos h1]; exact Or.inl ⟨rfl, Or.inl h1⟩
  · rw [if_neg h1]
    by_cases h2 : b < x
    · rw [if_pos h2]; exact Or.inl ⟨rfl, Or.inr ⟨h1, h2⟩⟩
    · rw [if_neg h2]; exact Or.inr ⟨by decide, h1, h2⟩
theorem key_iff {K : Nat} {x : Int32} (hK : K ≤ 25) (h0 : 0 < K) : (F_X3_hasKey K x = 0 ∧ ¬ F_X7_isNoKey K x = 0) ∨ (¬ F_X3_hasKey K x = 0 ∧ F_X7_isNoKey K x = 0 ∧ ∃ k, k < K ∧ x = nI k) := by
  unfold F_X3_hasKey F_X7_isNoKey
  rw [show F_Jx4a65c_size_8abf5 K - 1 = nI (K - 1) from nI_m1 h0]
  rcases in_iff x 0 (nI (K - 1)) with ⟨a1, a2 | ⟨a2, a3⟩⟩ | ⟨a1, a2, a3⟩
  · rw [if_pos a2, if_pos a1]; exact Or.inl ⟨rfl, by decide⟩
  · have h1 : nI K ≤ x := by
      rw [Int32.lt_iff_toInt_lt, nI_toInt (by omega)] at a3
      rw [Int32.le_iff_toInt_le, nI_toInt (by omega)]
      omega
    rw [if_neg a2, if_pos h1, if_pos a1]; exact Or.inl ⟨rfl, by decide⟩
  · have h1 : ¬ nI K ≤ x := by
      rw [Int32.lt_iff_toInt_lt, nI_toInt (by omega)] at a3
      rw [Int32.le_iff_toInt_le, nI_toInt (by omega)]
      omega
    obtain ⟨j, hj, rfl⟩ := nI_of a2
    rw [if_neg a2, if_neg h1, if_neg a1]
    refine Or.inr ⟨by decide, rfl, j, ?_, rfl⟩
    rcases Nat.lt_or_ge j K with q | q
    · exact q
    · exact absurd (nI_le q hj) h1
theorem i_nI (x : Int32) : x = nI x.toBitVec.toNat := by
  apply Int32.toBitVec_inj.mp
  apply BitVec.eq_of_toNat_eq
  show x.toBitVec.toNat = (BitVec.ofNat 32 x.toBitVec.toNat).toNat
  rw [BitVec.toNat_ofNat]
  omega
theorem shl25 : ∀ k, k < 26 → (1 : Int32) <<< (nI k &&& 31) = nI (2 ^ k) := by decide +kernel
theorem or_nI (a b : Nat) : nI a ||| nI b = nI (a ||| b) := by
  apply Int32.toBitVec_inj.mp
  apply BitVec.eq_of_toNat_eq
  rw [Int32.toBitVec_or, BitVec.toNat_or]
  show a % 2 ^ 32 ||| b % 2 ^ 32 = (a ||| b) % 2 ^ 32
  rw [Nat.or_mod_two_pow]
theorem with25 {x x2 : Int32} {k : Nat} (hx : ∃ b, b < 2 ^ 25 ∧ x = nI b) (hk : k < 25) : ∃ b, b < 2 ^ 25 ∧ F_X7_with x (nI k) x2 = nI b := by
  obtain ⟨b, hb, rfl⟩ := hx
  unfold F_X7_with
  by_cases h : x2 = 0
  · rw [if_pos h]
    refine ⟨(nI b &&& (((1 : Int32) <<< (nI k &&& 31)) ^^^ (-1))).toBitVec.toNat, ?_, i_nI _⟩
    rw [Int32.toBitVec_and, BitVec.toNat_and]
    refine Nat.lt_of_le_of_lt Nat.and_le_left ?_
    show b % 2 ^ 32 < 2 ^ 25
    rw [Nat.mod_eq_of_lt (by omega)]
    exact hb
  · rw [if_neg h, shl25 k (by omega), or_nI]
    exact ⟨_, Nat.or_lt_two_pow hb (Nat.pow_lt_pow_right (by decide) hk), rfl⟩
theorem hold_01 (x k : Int32) : F_X4_holds x k = 0 ∨ F_X4_holds x k = 1 := has_01 x k
theorem xor_with {he x2 : Int32} {k : Nat} (hk : k < 25) (h2 : x2 = 0 ∨ x2 = 1) (hne : ¬ F_X4_holds he (nI k) = x2) : he ^^^ ((1 : Int32) <<< (nI k &&& 31)) = F_X7_with he (nI k) x2 := by
  unfold F_X7_with
  rcases h2 with rfl | rfl
  · have hb : bt he k = true := by
      cases e : bt he k with
      | true => rfl
      | false => exact absurd ((holds_iff (by omega)).mpr e) hne
    rw [if_pos rfl]
    apply bt_ext
    intro j hj
    rw [bt_xor, bt_and, bt_not _ hj, bt_bit (by omega) hj]
    by_cases e : j = k
    · subst e; simp [hb]
    · simp [e]
  · have hb : bt he k = false := (holds_iff (by omega)).mp ((hold_01 he (nI k)).resolve_right hne)
    rw [if_neg (by decide)]
    apply bt_ext
    intro j hj
    rw [bt_xor, bt_or, bt_bit (by omega) hj]
    by_cases e : j = k
    · subst e; simp [hb]
    · simp [e]
theorem move_w {fB fN fM : Nat → Int32} {he x2 x3 : Int32} {k : Nat} (hk : k < 25) (h2 : x2 = 0 ∨ x2 = 1) : (F_X0_move fB fN fM he k x2 x3).1 = if F_X7_has he (nI k) = x2 then he else F_X7_with he (nI k) x2 := by
  unfold F_X0_move
  by_cases h : F_X4_holds he (nI k) = x2
  · rw [if_pos h, if_pos (show F_X7_has he (nI k) = x2 from h)]
  · rw [if_neg h, if_neg (show ¬ F_X7_has he (nI k) = x2 from h)]
    exact xor_with hk h2 h
theorem fit_w {R C : Nat} {fi di br x1 x2 x3 : Int32} : (F_X3_fit R C fi di br x1 x2 x3).1 = F_X7_with fi x1 x2 := by
  unfold F_X3_fit F_X7_with
  by_cases h : x2 = 0
  · rw [if_pos h, if_pos h]
    by_cases h3 : x3 = 0
    · rw [if_pos h3]; rfl
    · rw [if_neg h3]; rfl
  · rw [if_neg h, if_neg h]
    by_cases h3 : x3 = 0
    · rw [if_pos h3]; rfl
    · rw [if_neg h3]; rfl
theorem key_acc {K : Nat} {x1 x2 x4 x5 : Int32} (hK : K ≤ 25) (h0 : 0 < K) :
    (E_X4_key K x1 x2 x4 x5 = 2 ∧ ¬ F_X7_isNoKey K x1 = 0) ∨ (F_X7_isNoKey K x1 = 0 ∧ ∃ k, k < K ∧ x1 = nI k ∧ ((E_X4_key K x1 x2 x4 x5 = 1 ∧ (F_X7_isIn x4 0 5 = 0 ∨ (¬ F_X7_isIn x4 0 5 = 0 ∧ F_X7_isIn x5 0 2 = 0))) ∨ (E_X4_key K x1 x2 x4 x5 = 0 ∧ ¬ F_X7_isIn x4 0 5 = 0 ∧ ¬ F_X7_isIn x5 0 2 = 0))) := by
  unfold E_X4_key
  rcases key_iff (x := x1) hK h0 with ⟨a1, a2⟩ | ⟨a1, a2, k, a3, a4⟩
  · rw [if_pos a1]; exact Or.inl ⟨rfl, a2⟩
  · rw [if_neg a1]
    refine Or.inr ⟨a2, k, a3, a4, ?_⟩
    rcases in_iff x4 0 5 with ⟨b1, b2 | ⟨b2, b3⟩⟩ | ⟨b1, b2, b3⟩
    · rw [if_pos b2]; exact Or.inl ⟨rfl, Or.inl b1⟩
    · rw [if_neg b2, if_pos b3]; exact Or.inl ⟨rfl, Or.inl b1⟩
    · rw [if_neg b2, if_neg b3]
      rcases in_iff x5 0 2 with ⟨c1, c2 | ⟨c2, c3⟩⟩ | ⟨c1, c2, c3⟩
      · rw [if_pos c2]; exact Or.inl ⟨rfl, Or.inr ⟨b1, c1⟩⟩
      · rw [if_neg c2, if_neg (Int32.not_le.mpr c3)]; exact Or.inl ⟨rfl, Or.inr ⟨b1, c1⟩⟩
      · rw [if_neg c2, if_pos (Int32.not_lt.mp c3)]
        refine Or.inr ⟨?_, b1, c1⟩
        split <;> rfl

theorem key4 {sc : Nat} {R : Nat} {C : Nat} {K : Nat} {fi : Int32} {di : Int32} {br : Int32} {li : Int32} {he : Int32} {fB : Nat → Int32} {fS : Nat → Int32} {fN : Nat → Int32} {fM : Nat → Int32} {x1 : Int32} {x2 : Int32} {x3 : Int32} {x4 : Int32} {x5 : Int32} (h : E_X4_key K x1 x2 x4 x5 = 0) : (F_X4_key sc R C K fi di br li he fB fS fN fM x1 x2 x3 x4 x5).1 = F_J6_bitCount_0f7a4 (F_X7_with fi x1 x2) ∧ (F_X4_key sc R C K fi di br li he fB fS fN fM x1 x2 x3 x4 x5).2.1 = F_X7_with fi x1 x2 ∧ (F_X4_key sc R C K fi di br li he fB fS fN fM x1 x2 x3 x4 x5).2.2.2.2.2.2.1 = if x2 = 0 then (F_X0_move (upd fB x1.toNatClampNeg x4) fN fM he x1.toNatClampNeg 0 (nI sc)).1 else he := by
  unfold E_X4_key at h
  unfold F_X4_key
  by_cases h1 : F_X3_hasKey K x1 = 0
  · rw [if_pos h1] at h; exact absurd h (by decide)
  · rw [if_neg h1] at h ⊢
    by_cases h2 : x4 < 0
    · rw [if_pos h2] at h; exact absurd h (by decide)
    · rw [if_neg h2] at h ⊢
      by_cases h3 : 5 < x4
      · rw [if_pos h3] at h; exact absurd h (by decide)
      · rw [if_neg h3] at h ⊢
        by_cases h4 : x5 < 0
        · rw [if_pos h4] at h; exact absurd h (by decide)
        · rw [if_neg h4] at h ⊢
          by_cases h5 : x5 ≤ 2
          · rw [if_pos h5]
            by_cases h6 : x2 = 0
            · rw [if_pos h6, if_pos h6]
              exact ⟨congrArg F_J6_bitCount_0f7a4 fit_w, fit_w, rfl⟩
            · rw [if_neg h6, if_neg h6]
              exact ⟨congrArg F_J6_bitCount_0f7a4 fit_w, fit_w, rfl⟩
          · rw [if_neg h5] at h; exact absurd h (by decide)
theorem keym_acc {fi : Int32} {di : Int32} {he : Int32} {sc : Nat} {K : Nat} {V : Nat → KV} {x1 : Int32} {x2 : Int32} {x3 : Int32} {x4 : Int32} {x5 : Int32} (h1 : F_X7_isNoKey K x1 = 0) (h2 : ¬ F_X7_isIn x4 0 5 = 0) (h3 : ¬ F_X7_isIn x5 0 2 = 0) : (F_X7_key fi di he sc K V x1 x2 x3 x4 x5).1 = F_X7_many (F_X7_with fi x1 x2) ∧ (F_X7_key fi di he sc K V x1 x2 x3 x4 x5).2.1 = (F_X7_refuse ((F_X7_start (F_X7_isNoKey K x1) 1).2) 0 2).2 ∧ (F_X7_key fi di he sc K V x1 x2 x3 x4 x5).2.2.1 = F_X7_with fi x1 x2 ∧ (F_X7_key fi di he sc K V x1 x2 x3 x4 x5).2.2.2.2.1 = if x2 = 0 then (if F_X7_has he x1 = 0 then he else F_X7_with he (nI x1.toNatClampNeg) 0) else he := by
  have hs : (F_X7_start (F_X7_isNoKey K x1) 1).1 = 0 := by rw [h1]; decide
  unfold F_X7_key
  rw [if_pos hs, if_neg h2, if_neg h3]
  by_cases h6 : x2 = 0
  · rw [if_pos h6, if_pos h6]
    by_cases h7 : F_X7_has he x1 = 0
    · rw [if_pos h7, if_pos h7]; exact ⟨rfl, rfl, rfl, rfl⟩
    · rw [if_neg h7, if_neg h7]; exact ⟨rfl, rfl, rfl, rfl⟩
  · rw [if_neg h6, if_neg h6]; exact ⟨rfl, rfl, rfl, rfl⟩
theorem keym_ref {fi : Int32} {di : Int32} {he : Int32} {sc : Nat} {K : Nat} {V : Nat → KV} {x1 : Int32} {x2 : Int32} {x3 : Int32} {x4 : Int32} {x5 : Int32} (h1 : F_X7_isNoKey K x1 = 0) (h2 : F_X7_isIn x4 0 5 = 0 ∨ (¬ F_X7_isIn x4 0 5 = 0 ∧ F_X7_isIn x5 0 2 = 0)) : (F_X7_key fi di he sc K V x1 x2 x3 x4 x5).2.1 = (F_X7_refuse ((F_X7_start (F_X7_isNoKey K x1) 1).2) 1 2).2 ∧ (F_X7_key fi di he sc K V x1 x2 x3 x4 x5).2.2.1 = fi ∧ (F_X7_key fi di he sc K V x1 x2 x3 x4 x5).2.2.2.2.1 = he := by
  have hs : (F_X7_start (F_X7_isNoKey K x1) 1).1 = 0 := by rw [h1]; decide
  unfold F_X7_key
  rcases h2 with h2 | ⟨h2, h3⟩
  · rw [if_pos hs, if_pos h2]; exact ⟨rfl, rfl, rfl⟩
  · rw [if_pos hs, if_neg h2, if_pos h3]; exact ⟨rfl, rfl, rfl⟩
theorem keym_no {fi : Int32} {di : Int32} {he : Int32} {sc : Nat} {K : Nat} {V : Nat → KV} {x1 : Int32} {x2 : Int32} {x3 : Int32} {x4 : Int32} {x5 : Int32} (h1 : ¬ F_X7_isNoKey K x1 = 0) : (F_X7_key fi di he sc K V x1 x2 x3 x4 x5).2.1 = 1 ∧ (F_X7_key fi di he sc K V x1 x2 x3 x4 x5).2.2.1 = fi ∧ (F_X7_key fi di he sc K V x1 x2 x3 x4 x5).2.2.2.2.1 = he := by
  have h2 : F_X7_isNoKey K x1 = 1 := (nk_01 K x1).resolve_left h1
  have hs : ¬ (F_X7_start (F_X7_isNoKey K x1) 1).1 = 0 := by rw [h2]; decide
  unfold F_X7_key
  rw [if_neg hs]
  refine ⟨?_, rfl, rfl⟩
  show (F_X7_start (F_X7_isNoKey K x1) 1).2 = 1
  rw [h2]
  decide

/-- key leaves what is fitted and what is held alike on both sides -/
theorem key_eq {sc : Nat} {R : Nat} {C : Nat} {K : Nat} {fi : Int32} {di : Int32} {br : Int32} {li : Int32} {he : Int32} {fB : Nat → Int32} {fS : Nat → Int32} {fN : Nat → Int32} {fM : Nat → Int32} {x1 : Int32} {x2 : Int32} {x3 : Int32} {x4 : Int32} {x5 : Int32} {mfi : Int32} {mdi : Int32} {mhe : Int32} {msc : Nat} {mK : Nat} {mV : Nat → KV} (hK : K ≤ 25) (h0 : 0 < mK) (hx2 : x2 = 0 ∨ x2 = 1) (h : he = mhe ∧ fi = mfi ∧ K = mK ∧ (∃ b, b < 2 ^ 25 ∧ he = nI b) ∧ ∃ b, b < 2 ^ 25 ∧ fi = nI b) : (F_L_key sc R C K fi di br li he fB fS fN fM x1 x2 x3 x4 x5).2.2.2.2.2.1 = (F_X7_key mfi mdi mhe msc mK mV x1 x2 x3 x4 x5).2.2.2.2.1 ∧ (F_L_key sc R C K fi di br li he fB fS fN fM x1 x2 x3 x4 x5).1 = (F_X7_key mfi mdi mhe msc mK mV x1 x2 x3 x4 x5).2.2.1 ∧ (∃ b, b < 2 ^ 25 ∧ (F_L_key sc R C K fi di br li he fB fS fN fM x1 x2 x3 x4 x5).2.2.2.2.2.1 = nI b) ∧ ∃ b, b < 2 ^ 25 ∧ (F_L_key sc R C K fi di br li he fB fS fN fM x1 x2 x3 x4 x5).1 = nI b := by
  obtain ⟨e1, e2, e3, hb, hf⟩ := h
  subst e1
  subst e2
  subst e3
  rcases key_acc (x1 := x1) (x2 := x2) (x4 := x4) (x5 := x5) hK h0 with ⟨g0, g1⟩ | ⟨g1, k, g2, g3, ⟨g0, g4⟩ | ⟨g0, g4, g5⟩⟩
  · obtain ⟨-, m2, m3⟩ := keym_no (fi := fi) (di := mdi) (he := he) (sc := msc) (V := mV) (x2 := x2) (x3 := x3) (x4 := x4) (x5 := x5) g1
    have f1 : (F_L_key sc R C K fi di br li he fB fS fN fM x1 x2 x3 x4 x5).2.2.2.2.2.1 = he ∧ (F_L_key sc R C K fi di br li he fB fS fN fM x1 x2 x3 x4 x5).1 = fi := by unfold F_L_key; rw [if_neg (show ¬ E_X4_key K x1 x2 x4 x5 = 0 by rw [g0]; decide)]; exact ⟨rfl, rfl⟩
    rw [f1.1, f1.2, m2, m3]
    exact ⟨rfl, rfl, hb, hf⟩
  · obtain ⟨-, m2, m3⟩ := keym_ref (fi := fi) (di := mdi) (he := he) (sc := msc) (V := mV) (x2 := x2) (x3 := x3) (x4 := x4) (x5 := x5) g1 g4
    have f1 : (F_L_key sc R C K fi di br li he fB fS fN fM x1 x2 x3 x4 x5).2.2.2.2.2.1 = he ∧ (F_L_key sc R C K fi di br li he fB fS fN fM x1 x2 x3 x4 x5).1 = fi := by unfold F_L_key; rw [if_neg (show ¬ E_X4_key K x1 x2 x4 x5 = 0 by rw [g0]; decide)]; exact ⟨rfl, rfl⟩
    rw [f1.1, f1.2, m2, m3]
    exact ⟨rfl, rfl, hb, hf⟩
  · obtain ⟨-, -, m2, m3⟩ := keym_acc (fi := fi) (di := mdi) (he := he) (sc := msc) (V := mV) (x2 := x2) (x3 := x3) (x4 := x4) (x5 := x5) g1 g4 g5
    obtain ⟨-, l1, l2⟩ := key4 (sc := sc) (R := R) (C := C) (fi := fi) (di := di) (br := br) (li := li) (he := he) (fB := fB) (fS := fS) (fN := fN) (fM := fM) (x3 := x3) g0
    have f1 : (F_L_key sc R C K fi di br li he fB fS fN fM x1 x2 x3 x4 x5).2.2.2.2.2.1 = (F_X4_key sc R C K fi di br li he fB fS fN fM x1 x2 x3 x4 x5).2.2.2.2.2.2.1 ∧ (F_L_key sc R C K fi di br li he fB fS fN fM x1 x2 x3 x4 x5).1 = (F_X4_key sc R C K fi di br li he fB fS fN fM x1 x2 x3 x4 x5).2.1 := by unfold F_L_key; rw [if_pos g0]; exact ⟨rfl, rfl⟩
    subst g3
    rw [nI_clamp (by omega)] at l2 m3
    have hw : (if x2 = 0 then (F_X0_move (upd fB k x4) fN fM he k 0 (nI sc)).1 else he) = if x2 = 0 then (if F_X7_has he (nI k) = 0 then he else F_X7_with he (nI k) 0) else he := by
      by_cases h6 : x2 = 0
      · rw [if_pos h6, if_pos h6, move_w (by omega) (Or.inl rfl)]
      · rw [if_neg h6, if_neg h6]
    rw [f1.1, f1.2, l1, l2, m2, m3, hw]
    refine ⟨rfl, rfl, ?_, with25 hf (by omega)⟩
    by_cases h6 : x2 = 0
    · rw [if_pos h6]
      by_cases h7 : F_X7_has he (nI k) = 0
      · rw [if_pos h7]; exact hb
      · rw [if_neg h7]; exact with25 hb (by omega)
    · rw [if_neg h6]; exact hb

theorem lay_K {sc : Nat} {pa : Int32} {gu : Int32} {cl : Int32} {se : Int32} {R : Nat} {C : Nat} {K : Nat} {fi : Int32} {di : Int32} {br : Int32} {li : Int32} {he : Int32} {dn : Int32} {ea : Int32} {lo : Int32} {Ch : Nat} {ct : Int32} {ml : Int32} {n : Nat} {fB : Nat → Int32} {fS : Nat → Int32} {fN : Nat → Int32} {fM : Nat → Int32} {fCn : Nat → Int32} {fE : Nat → Int32} {fLE : Nat → Int32} {fC : Nat → Int32} {fG : Nat → Int32} {fI : Nat → Int32} {x1 : Int32} {x2 : Int32} {mR : Nat} {mC : Nat} {mfi : Int32} {mdi : Int32} {mhe : Int32} {mbr : Int32} {mpa : Int32} {mgu : Int32} {msc : Nat} {mcl : Int32} {mse : Int32} {mlo : Int32} {mkm : Int32} {mK : Nat} {mkn : Nat} {mhm : Int32} {mnh : Nat} {mml : Int32} {mn : Nat} {mV : Nat → KV} (h : K = mK) : (F_L_lay sc pa gu cl se R C K fi di br li he dn ea lo Ch ct ml n fB fS fN fM fCn fE fLE fC fG fI x1 x2).2.2.2.2.2.2.2.2.2.2.2.2.2.2.2.2.2.2.2.2.1 = (F_X7_lay mR mC mfi mdi mhe mbr mpa mgu msc mcl mse mlo mkm mK mkn mhm mnh mml mn mV x1 x2).2.2.2.2.2.2.2.2.2.2.2.2.2.2.2.2.2.2.2.2.2.1 := by
  rcases lay_acc x1 x2 with ⟨h0, h1, h2⟩ | ⟨h0, h1 | ⟨h1, h2⟩⟩
  · unfold F_L_lay F_X7_lay
    rw [if_pos h0, if_neg h1, if_neg h2]
    all_goals first | rfl | exact rfl
  · unfold F_L_lay F_X7_lay
    rw [if_neg h0, if_pos h1]
    exact h
  · unfold F_L_lay F_X7_lay
    rw [if_neg h0, if_neg h1, if_pos h2]
    exact h

theorem at25 : ∀ j, j < 3 → ∀ k, k < 25 → ((nI j * 25) + nI k).toNatClampNeg = j * 25 + k := by decide +kernel
def vC (q : Nat) : Int32 := if 25 ≤ nI q then 31 else nI q - nI q / 26 * 26
theorem newI : ∀ (m i : Nat) (a : Nat → Int32) (q : Nat), q < i + m → (itr (fun i a => S_X1_startAnew_2 i a) m i a) q = if q < i then a q else vC q := by
  intro m
  induction m with
  | zero => intro i a q hq; rw [if_pos (by omega)]; rfl
  | succ m ih =>
    intro i a q hq
    refine (ih (i + 1) (S_X1_startAnew_2 i a) q (by omega)).trans ?_
    have e : S_X1_startAnew_2 i a q = if q = i then vC q else a q := by
      unfold S_X1_startAnew_2 vC
      by_cases h : q = i
      · subst h
        rw [if_pos rfl]
        by_cases h2 : 25 ≤ nI q
        · rw [if_pos h2, if_pos h2, upd, if_pos rfl]
        · rw [if_neg h2, if_neg h2, upd, if_pos rfl]
      · rw [if_neg h]
        by_cases h2 : 25 ≤ nI i
        · rw [if_pos h2, upd, if_neg h]
        · rw [if_neg h2, upd, if_neg h]
    rw [e]
    rcases Nat.lt_trichotomy q i with h | h | h
    · rw [if_pos (by omega), if_neg (by omega), if_pos h]
    · rw [if_pos (by omega), if_pos h, if_neg (by omega)]
    · rw [if_neg (by omega), if_neg (by omega)]
theorem newD : ∀ j, j < 3 → ∀ k, k < 25 → kcc (newV k) j = vC (j * 25 + k) := by decide +kernel
theorem newCC {k j : Nat} {f : Nat → Int32} (hk : k < 25) (hj : j < 3) : kcc (newV k) j = (itr (fun i a => S_X1_startAnew_2 i a) 75 0 f) (j * 25 + k) := by
  rw [newI 75 0 f (j * 25 + k) (by omega), if_neg (by omega)]
  exact newD j hj k hk
theorem lay_cc {sc : Nat} {pa : Int32} {gu : Int32} {cl : Int32} {se : Int32} {R : Nat} {C : Nat} {fi : Int32} {di : Int32} {br : Int32} {li : Int32} {he : Int32} {dn : Int32} {ea : Int32} {lo : Int32} {Ch : Nat} {ct : Int32} {ml : Int32} {n : Nat} {fB : Nat → Int32} {fS : Nat → Int32} {fN : Nat → Int32} {fM : Nat → Int32} {fCn : Nat → Int32} {fE : Nat → Int32} {fLE : Nat → Int32} {fC : Nat → Int32} {fG : Nat → Int32} {fI : Nat → Int32} {x1 : Int32} {x2 : Int32} {mR : Nat} {mC : Nat} {mfi : Int32} {mdi : Int32} {mhe : Int32} {mbr : Int32} {mpa : Int32} {mgu : Int32} {msc : Nat} {mcl : Int32} {mse : Int32} {mlo : Int32} {mkm : Int32} {mkn : Nat} {mhm : Int32} {mnh : Nat} {mml : Int32} {mn : Nat} {K mK : Nat} {mV : Nat → KV} (hK : K ≤ 25) (h : ∀ k, k < K → ∀ j, j < 3 → kcc (mV k) j = fC (j * 25 + k)) : ∀ k, k < ((F_L_lay sc pa gu cl se R C K fi di br li he dn ea lo Ch ct ml n fB fS fN fM fCn fE fLE fC fG fI x1 x2).2.2.2.2.2.2.2.2.2.2.2.2.2.2.2.2.2.2.2.2.1) → ∀ j, j < 3 → kcc (((F_X7_lay mR mC mfi mdi mhe mbr mpa mgu msc mcl mse mlo mkm mK mkn mhm mnh mml mn mV x1 x2).2.2.2.2.2.2.2.2.2.2.2.2.2.2.2.2.2.2.2.2.2.2.1) k) j = ((F_L_lay sc pa gu cl se R C K fi di br li he dn ea lo Ch ct ml n fB fS fN fM fCn fE fLE fC fG fI x1 x2).2.2.2.2.2.2.2.2.2.2.1) (j * 25 + k) := by
  intro k
  rcases lay_acc x1 x2 with ⟨h0, h1, h2⟩ | ⟨h0, h12⟩
  · obtain ⟨a1, a2, -⟩ := in_2 h1
    obtain ⟨b1, b2, -⟩ := in_2 h2
    have hk : x1.toNatClampNeg * x2.toNatClampNeg ≤ 25 := Nat.mul_le_mul a2 b2
    have f1 : ((F_L_lay sc pa gu cl se R C K fi di br li he dn ea lo Ch ct ml n fB fS fN fM fCn fE fLE fC fG fI x1 x2).2.2.2.2.2.2.2.2.2.2.2.2.2.2.2.2.2.2.2.2.1) = x1.toNatClampNeg * x2.toNatClampNeg := by unfold F_L_lay; rw [if_pos h0]
    have f2 : ((F_X7_lay mR mC mfi mdi mhe mbr mpa mgu msc mcl mse mlo mkm mK mkn mhm mnh mml mn mV x1 x2).2.2.2.2.2.2.2.2.2.2.2.2.2.2.2.2.2.2.2.2.2.2.1) = newV := by unfold F_X7_lay; rw [if_neg h1, if_neg h2]
    have f3 : ((F_L_lay sc pa gu cl se R C K fi di br li he dn ea lo Ch ct ml n fB fS fN fM fCn fE fLE fC fG fI x1 x2).2.2.2.2.2.2.2.2.2.2.1) = itr (fun i a => S_X1_startAnew_2 i a) 75 0 fC := by
      unfold F_L_lay
      rw [if_pos h0]
      unfold F_X4_lay
      rw [if_neg (lay4_acc h0).1, if_neg (lay4_acc h0).2]
      rfl
    rw [f1, f2, f3]
    exact fun hk2 j hj => newCC (by omega) hj
  · have f1 : ((F_L_lay sc pa gu cl se R C K fi di br li he dn ea lo Ch ct ml n fB fS fN fM fCn fE fLE fC fG fI x1 x2).2.2.2.2.2.2.2.2.2.2.2.2.2.2.2.2.2.2.2.2.1) = K ∧ ((F_L_lay sc pa gu cl se R C K fi di br li he dn ea lo Ch ct ml n fB fS fN fM fCn fE fLE fC fG fI x1 x2).2.2.2.2.2.2.2.2.2.2.1) = fC := by unfold F_L_lay; rw [if_neg h0]; exact ⟨rfl, rfl⟩
    have f2 : ((F_X7_lay mR mC mfi mdi mhe mbr mpa mgu msc mcl mse mlo mkm mK mkn mhm mnh mml mn mV x1 x2).2.2.2.2.2.2.2.2.2.2.2.2.2.2.2.2.2.2.2.2.2.2.1) = mV := by
      unfold F_X7_lay
      rcases h12 with h1 | ⟨h1, h2⟩
      · rw [if_pos h1]
      · rw [if_neg h1, if_pos h2]
    rw [f1.1, f1.2, f2]
    exact h k
theorem up_cc {V : Nat → KV} {i : Nat} {v : KV} (h : kcc v = kcc (V i)) (k : Nat) : kcc (va_up V i v k) = kcc (V k) := by
  by_cases e : k = i
  · subst e; rw [va_up_self]; exact h
  · rw [va_up_ne _ _ e]
theorem key_cc {fi : Int32} {di : Int32} {he : Int32} {sc : Nat} {K : Nat} {V : Nat → KV} {x1 : Int32} {x2 : Int32} {x3 : Int32} {x4 : Int32} {x5 : Int32} (k : Nat) : kcc ((F_X7_key fi di he sc K V x1 x2 x3 x4 x5).2.2.2.2.2 k) = kcc (V k) := by
  unfold F_X7_key F_X7_touch
  (repeat' split) <;> first | rfl | exact up_cc (by rfl) k | exact (up_cc (by rfl) k).trans (up_cc (by rfl) k)
theorem hold_cc {fi : Int32} {he : Int32} {sc : Nat} {K : Nat} {V : Nat → KV} {x1 : Int32} {x2 : Int32} (k : Nat) : kcc ((F_X7_hold fi he sc K V x1 x2).2.2.2 k) = kcc (V k) := by
  unfold F_X7_hold F_X7_touch
  (repeat' split) <;> first | rfl | exact up_cc (by rfl) k
theorem step_cv {R C : Nat} {fi di he br pa gu : Int32} {sc : Nat} {lu : Int32} {K : Nat} {V : Nat → KV} (i : Nat) (a : Int32 × (Nat → KV) × Int32 × Int32 × Nat × Nat × (Nat → Int32)) : ∃ v, (S_X7_step_38 R C fi di he br pa gu sc lu K V i a).2.1 = va_up a.2.1 i v ∧ kcc v = kcc (a.2.1 i) := by
  unfold S_X7_step_38
  (repeat' split) <;> exact ⟨_, rfl, rfl⟩
theorem step_cc {R C : Nat} {fi di he br pa gu : Int32} {sc : Nat} {lo lu : Int32} {K nh : Nat} {hf : Nat → Nat → Int32} {ml : Int32} {n cap : Nat} {fY : Nat → Int32} {V V0 : Nat → KV} (h : ∀ k, kcc (V k) = kcc (V0 k)) : ∀ k, kcc ((F_X7_step R C fi di he br pa gu sc lo lu K nh hf ml n cap fY V).2.2.2.2.2.2.1 k) = kcc (V0 k) :=
  itr_keep (f := fun i a => S_X7_step_38 R C fi di he br pa gu sc lu K V i a) (fun a => ∀ k, kcc (a.2.1 k) = kcc (V0 k)) (fun i a ha k => by
    obtain ⟨v, v1, v2⟩ := step_cv (R := R) (C := C) (fi := fi) (di := di) (he := he) (br := br) (pa := pa) (gu := gu) (sc := sc) (lu := lu) (K := K) (V := V) i a
    show kcc ((S_X7_step_38 R C fi di he br pa gu sc lu K V i a).2.1 k) = kcc (V0 k)
    rw [v1, up_cc v2]
    exact ha k) K 0 (0, (F_X7_closedNow fi he lu K V).2.2, lo, ml, n, cap, fY) (fun k => ((closed_keep (fi := fi) (he := he) (lu := lu) (K := K) (V := V) k).1).trans (h k))
theorem scan_cc {R : Nat} {C : Nat} {fi : Int32} {di : Int32} {he : Int32} {br : Int32} {pa : Int32} {gu : Int32} {sc : Nat} {cl : Int32} {se : Int32} {lo : Int32} {lu : Int32} {K : Nat} {nh : Nat} {hf : Nat → Nat → Int32} {ml : Int32} {n : Nat} {cap : Nat} {fY : Nat → Int32} {V : Nat → KV} {x1 : Int32} (k : Nat) : kcc ((F_X7_scan R C fi di he br pa gu sc cl se lo lu K nh hf ml n cap fY V x1).2.2.2.2.2.2.2.1 k) = kcc (V k) := by
  by_cases h1 : (F_X7_start (if (F_X7_isIn x1 1 50) = 0 then (1 : Int32) else (0 : Int32)) 1).1 = 0
  · by_cases h2 : (F_X7_refuse ((F_X7_start (if (F_X7_isIn x1 1 50) = 0 then (1 : Int32) else (0 : Int32)) 1).2) (if ((nI sc) + x1) ≤ 2000 then (0 : Int32) else (1 : Int32)) 2).1 = 0
    · rw [scan_V h1 h2]
      exact itr_keep (f := fun i a => S_X7_scan_54 R C fi di he br pa gu K nh i a) (fun a => ∀ k, kcc (a.2.2.2.2.2.2.1 k) = kcc (V k)) (fun i a ha => step_cc ha) x1.toNatClampNeg 0 (0, sc, cl, se, lu, lo, V, ml, n, cap, fY, hf) (fun _ => rfl) k
    · have e : (F_X7_scan R C fi di he br pa gu sc cl se lo lu K nh hf ml n cap fY V x1).2.2.2.2.2.2.2.1 = V := congrArg (fun z => z.2.2.2.2.2.2.1) (scan_V2 h1 h2)
      rw [e]
  · have e : (F_X7_scan R C fi di he br pa gu sc cl se lo lu K nh hf ml n cap fY V x1).2.2.2.2.2.2.2.1 = V := congrArg (fun z => z.2.2.2.2.2.2.1) (scan_V1 h1)
    rw [e]
theorem code_acc {K : Nat} {x1 x2 x3 : Int32} (hK : K ≤ 25) (h0 : 0 < K) :
    (E_X4_code K x1 x2 x3 = 2 ∧ ¬ F_X7_isNoKey K x2 = 0) ∨ (F_X7_isNoKey K x2 = 0 ∧ ∃ k, k < K ∧ x2 = nI k ∧ ((E_X4_code K x1 x2 x3 = 1 ∧ (F_X7_isIn x1 0 2 = 0 ∨ (¬ F_X7_isIn x1 0 2 = 0 ∧ F_X7_isIn x3 0 31 = 0))) ∨ (E_X4_code K x1 x2 x3 = 0 ∧ ¬ F_X7_isIn x1 0 2 = 0 ∧ ¬ F_X7_isIn x3 0 31 = 0 ∧ ∃ j, j < 3 ∧ x1 = nI j))) := by
  have e3 : ∀ x : Int32, 3 ≤ x ↔ 2 < x := fun x => by
    rw [Int32.le_iff_toInt_le, Int32.lt_iff_toInt_lt, show (3 : Int32).toInt = 3 from by decide, show (2 : Int32).toInt = 2 from by decide]
    omega
  unfold E_X4_code
  rcases key_iff (x := x2) hK h0 with ⟨a1, a2⟩ | ⟨a1, a2, k, a3, a4⟩
  · rw [if_pos a1]; exact Or.inl ⟨rfl, a2⟩
  · rw [if_neg a1]
    refine Or.inr ⟨a2, k, a3, a4, ?_⟩
    rcases in_iff x1 0 2 with ⟨b1, b2 | ⟨b2, b3⟩⟩ | ⟨b1, b2, b3⟩
    · rw [if_pos b2]; exact Or.inl ⟨rfl, Or.inl b1⟩
    · rw [if_neg b2, if_pos ((e3 _).mpr b3)]; exact Or.inl ⟨rfl, Or.inl b1⟩
    · have b4 : ¬ 3 ≤ x1 := fun h => b3 ((e3 _).mp h)
      rw [if_neg b2, if_neg b4]
      rcases in_iff x3 0 31 with ⟨c1, c2 | ⟨c2, c3⟩⟩ | ⟨c1, c2, c3⟩
      · rw [if_pos c2]; exact Or.inl ⟨rfl, Or.inr ⟨b1, c1⟩⟩
      · rw [if_neg c2, if_neg (Int32.not_le.mpr c3)]; exact Or.inl ⟨rfl, Or.inr ⟨b1, c1⟩⟩
      · rw [if_neg c2, if_pos (Int32.not_lt.mp c3)]
        refine Or.inr ⟨rfl, b1, c1, ?_⟩
        obtain ⟨j, hj, e⟩ := nI_of b2
        refine ⟨j, ?_, e⟩
        rcases Nat.lt_or_ge j 3 with q | q
        · exact q
        · exact absurd (show (3 : Int32) ≤ x1 by rw [e]; exact nI_le q hj) b4
theorem code4 {K : Nat} {fC : Nat → Int32} {x1 : Int32} {x2 : Int32} {x3 : Int32} (h : E_X4_code K x1 x2 x3 = 0) : (F_X4_code K fC x1 x2 x3) = (fC ((x1 * 25) + x2).toNatClampNeg, upd fC ((x1 * 25) + x2).toNatClampNeg x3) := by
  unfold E_X4_code at h
  unfold F_X4_code
  by_cases h1 : F_X3_hasKey K x2 = 0
  · rw [if_pos h1] at h; exact absurd h (by decide)
  · rw [if_neg h1] at h ⊢
    by_cases h2 : x1 < 0
    · rw [if_pos h2] at h; exact absurd h (by decide)
    · rw [if_neg h2] at h ⊢
      by_cases h3 : 3 ≤ x1
      · rw [if_pos h3] at h; exact absurd h (by decide)
      · rw [if_neg h3] at h ⊢
        by_cases h4 : x3 < 0
        · rw [if_pos h4] at h; exact absurd h (by decide)
        · rw [if_neg h4] at h ⊢
          by_cases h5 : x3 ≤ 31
          · rw [if_pos h5]
          · rw [if_neg h5] at h; exact absurd h (by decide)
theorem code_cmp {K : Nat} {fC : Nat → Int32} {x1 : Int32} {x2 : Int32} {x3 : Int32} {on : Int64} {mK : Nat} {mV : Nat → KV} (hK : K ≤ 25) (h0 : 0 < mK) (h : K = mK ∧ ∀ k, k < K → ∀ j, j < 3 → kcc (mV k) j = fC (j * 25 + k)) : (F_X7_code mK mV x1 x2 x3).2.1 = (F_L_code K fC x1 x2 x3 on).1 ∧ ((F_L_code K fC x1 x2 x3 on).1 = 0 → lg_cmp (F_L_code K fC x1 x2 x3 on).2.2 ((F_X7_code mK mV x1 x2 x3).1).toInt64 = 0) ∧ ∀ k, k < K → ∀ j, j < 3 → kcc (((F_X7_code mK mV x1 x2 x3).2.2) k) j = ((F_L_code K fC x1 x2 x3 on).2.1) (j * 25 + k) := by
  obtain ⟨e1, hc⟩ := h
  subst e1
  rcases code_acc (x1 := x1) (x2 := x2) (x3 := x3) hK h0 with ⟨g0, g1⟩ | ⟨g1, k, g2, g3, ⟨g0, g4⟩ | ⟨g0, g4, g5, j, g6, g7⟩⟩
  · have n0 : ¬ E_X4_code K x1 x2 x3 = 0 := by rw [g0]; decide
    have n1 : F_X7_isNoKey K x2 = 1 := (nk_01 K x2).resolve_left g1
    have hs : ¬ (F_X7_start (F_X7_isNoKey K x2) 1).1 = 0 := by rw [n1]; decide
    have f1 : (F_L_code K fC x1 x2 x3 on).1 = 1 ∧ ((F_L_code K fC x1 x2 x3 on).2.1) = fC := by unfold F_L_code; rw [if_neg n0, if_pos g0]; exact ⟨rfl, rfl⟩
    have f4 : (F_X7_code K mV x1 x2 x3).2.1 = (F_X7_start (F_X7_isNoKey K x2) 1).2 ∧ (F_X7_code K mV x1 x2 x3).2.2 = mV := by unfold F_X7_code; rw [if_neg hs]; exact ⟨rfl, rfl⟩
    rw [f1.1, f1.2, f4.1, f4.2, n1]
    exact ⟨by decide, fun h9 => absurd h9 (by decide), hc⟩
  · have n0 : ¬ E_X4_code K x1 x2 x3 = 0 := by rw [g0]; decide
    have n1 : ¬ E_X4_code K x1 x2 x3 = 2 := by rw [g0]; decide
    have hs : (F_X7_start (F_X7_isNoKey K x2) 1).1 = 0 := by rw [g1]; decide
    have f1 : (F_L_code K fC x1 x2 x3 on).1 = 2 ∧ ((F_L_code K fC x1 x2 x3 on).2.1) = fC := by unfold F_L_code; rw [if_neg n0, if_neg n1]; exact ⟨rfl, rfl⟩
    have f4 : (F_X7_code K mV x1 x2 x3).2.1 = (F_X7_refuse ((F_X7_start (F_X7_isNoKey K x2) 1).2) 1 2).2 ∧ (F_X7_code K mV x1 x2 x3).2.2 = mV := by
      unfold F_X7_code
      rcases g4 with g4 | ⟨g4, g5⟩
      · rw [if_pos hs, if_pos g4]; exact ⟨rfl, rfl⟩
      · rw [if_pos hs, if_neg g4, if_pos g5]; exact ⟨rfl, rfl⟩
    rw [f1.1, f1.2, f4.1, f4.2, g1]
    exact ⟨by decide, fun h9 => absurd h9 (by decide), hc⟩
  · have hs : (F_X7_start (F_X7_isNoKey K x2) 1).1 = 0 := by rw [g1]; decide
    have f1 : (F_L_code K fC x1 x2 x3 on).1 = 0 ∧ ((F_L_code K fC x1 x2 x3 on).2.1) = ((F_X4_code K fC x1 x2 x3)).2 ∧ (F_L_code K fC x1 x2 x3 on).2.2 = (((F_X4_code K fC x1 x2 x3)).1).toInt64 := by unfold F_L_code; rw [if_pos g0]; exact ⟨rfl, rfl, rfl⟩
    have f4 : (F_X7_code K mV x1 x2 x3).2.1 = (F_X7_refuse ((F_X7_start (F_X7_isNoKey K x2) 1).2) 0 2).2 ∧ (F_X7_code K mV x1 x2 x3).1 = kcc (mV x2.toNatClampNeg) x1.toNatClampNeg ∧ ∀ q, kcc ((F_X7_code K mV x1 x2 x3).2.2 q) = if q = x2.toNatClampNeg then upd (kcc (mV x2.toNatClampNeg)) x1.toNatClampNeg x3 else kcc (mV q) := by
      unfold F_X7_code
      rw [if_pos hs, if_neg g4, if_neg g5]
      refine ⟨rfl, rfl, fun q => ?_⟩
      by_cases e : q = x2.toNatClampNeg
      · rw [if_pos e, e]
        show kcc (va_up mV x2.toNatClampNeg _ x2.toNatClampNeg) = _
        rw [va_up_self]
        rfl
      · rw [if_neg e]
        show kcc (va_up mV x2.toNatClampNeg _ q) = _
        rw [va_up_ne _ _ e]
    rw [f1.1, f1.2.1, f1.2.2, f4.1, f4.2.1, code4 g0, g1]
    subst g3
    subst g7
    have q1 : (nI k).toNatClampNeg = k := nI_clamp (by omega)
    have q2 : (nI j).toNatClampNeg = j := nI_clamp (by omega)
    have q3 := at25 j g6 k (by omega)
    refine ⟨by decide, fun _ => ?_, fun k2 hk2 j2 hj2 => ?_⟩
    · show lg_cmp (fC (((nI j) * 25) + (nI k)).toNatClampNeg).toInt64 _ = 0
      rw [q1, q2, q3, hc k g2 j g6]
      exact lgc_self _
    · show kcc ((F_X7_code K mV (nI j) (nI k) x3).2.2 k2) j2 = upd fC (((nI j) * 25) + (nI k)).toNatClampNeg x3 (j2 * 25 + k2)
      rw [f4.2.2 k2, q1, q2, q3, upd]
      by_cases e : k2 = k
      · subst e
        rw [if_pos rfl, upd]
        by_cases e2 : j2 = j
        · rw [if_pos e2, if_pos (by rw [e2])]
        · rw [if_neg e2, if_neg (by omega)]
          exact hc k2 hk2 j2 hj2
      · rw [if_neg e, if_neg (by omega)]
        exact hc k2 hk2 j2 hj2
