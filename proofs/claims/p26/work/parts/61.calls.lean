theorem key_ok {sc : Nat} {R C : Nat} {fi di br li he : Int32} {fB fS fN fM : Nat → Int32} {x1 x2 x3 x4 x5 : Int32} (hR : R ≤ 5) (hC : C ≤ 5) (hL : Live R C fi br li) (hh : ∀ j, bt he j = true → bt fi j = true) (hm : ∀ j, j < R * C → fM j = -1 ∨ ∃ a, a ≤ sc ∧ fM j = nI a) :
    Live R C (F_X4_key sc R C (R * C) fi di br li he fB fS fN fM x1 x2 x3 x4 x5).2.1 br (F_X4_key sc R C (R * C) fi di br li he fB fS fN fM x1 x2 x3 x4 x5).2.2.2.1 ∧
    (∀ j, bt (F_X4_key sc R C (R * C) fi di br li he fB fS fN fM x1 x2 x3 x4 x5).2.2.2.2.2.2.1 j = true → bt (F_X4_key sc R C (R * C) fi di br li he fB fS fN fM x1 x2 x3 x4 x5).2.1 j = true) ∧
    (∀ j, j < R * C → (F_X4_key sc R C (R * C) fi di br li he fB fS fN fM x1 x2 x3 x4 x5).2.2.2.2.2.2.2.2 j = -1 ∨ ∃ a, a ≤ sc ∧ (F_X4_key sc R C (R * C) fi di br li he fB fS fN fM x1 x2 x3 x4 x5).2.2.2.2.2.2.2.2 j = nI a) := by
  have hK : R * C ≤ 25 := Nat.mul_le_mul hR hC
  unfold F_X4_key
  by_cases h1 : F_X3_hasKey (R * C) x1 = 0
  · rw [if_pos h1]; exact ⟨hL, hh, hm⟩
  · rw [if_neg h1]
    obtain ⟨k, hk, rfl⟩ := (hasKey_iff hK x1).mp h1
    by_cases h2 : x4 < 0
    · rw [if_pos h2]; exact ⟨hL, hh, hm⟩
    · rw [if_neg h2]
      by_cases h3 : 5 < x4
      · rw [if_pos h3]; exact ⟨hL, hh, hm⟩
      · rw [if_neg h3]
        by_cases h4 : x5 < 0
        · rw [if_pos h4]; exact ⟨hL, hh, hm⟩
        · rw [if_neg h4]
          by_cases h5 : x5 ≤ 2
          · rw [if_pos h5]
            have hF := fit_Live (di := di) (br := br) hR hC hL.1 hk x2 x3
            by_cases h6 : x2 = 0
            · rw [if_pos h6, tc k (by omega)]
              refine ⟨hF, fun j hj => ?_, move_mv hm⟩
              obtain ⟨g1, g2⟩ := move_out (show k < 32 by omega) j hj
              exact fit_bt (by omega) (bt_lt g1) (Or.inl g2) (hh j g1)
            · rw [if_neg h6]
              exact ⟨hF, fun j hj => fit_bt (by omega) (bt_lt hj) (Or.inr h6) (hh j hj), hm⟩
          · rw [if_neg h5]; exact ⟨hL, hh, hm⟩
theorem line_ok {R C : Nat} {fi br li x1 x2 : Int32} (hR : R ≤ 5) (hC : C ≤ 5) (hL : Live R C fi br li) : Live R C fi (F_X4_line R C fi br li x1 x2).2.1 (F_X4_line R C fi br li x1 x2).2.2 := by
  unfold F_X4_line
  by_cases h1 : x1 < 0
  · rw [if_pos h1]; exact hL
  · rw [if_neg h1]
    by_cases h2 : x1 < nI R + nI C
    · rw [if_pos h2]; exact break_Live hR hC hL.1 x1 x2
    · rw [if_neg h2]; exact hL
theorem hold_ok {sc K : Nat} {fi he : Int32} {fB fN fM : Nat → Int32} {x1 x2 : Int32} (hK : K ≤ 25) (hh : ∀ j, bt he j = true → bt fi j = true) (hm : ∀ j, j < K → fM j = -1 ∨ ∃ a, a ≤ sc ∧ fM j = nI a) :
    (∀ j, bt (F_X4_hold sc K fi he fB fN fM x1 x2).2.1 j = true → bt fi j = true) ∧ (∀ j, j < K → (F_X4_hold sc K fi he fB fN fM x1 x2).2.2.2 j = -1 ∨ ∃ a, a ≤ sc ∧ (F_X4_hold sc K fi he fB fN fM x1 x2).2.2.2 j = nI a) := by
  unfold F_X4_hold
  by_cases h1 : F_X3_hasKey K x1 = 0
  · rw [if_pos h1]; exact ⟨hh, hm⟩
  · rw [if_neg h1]
    obtain ⟨k, hk, rfl⟩ := (hasKey_iff hK x1).mp h1
    by_cases h2 : F_X4_holds fi (nI k) = 0
    · rw [if_pos h2]; exact ⟨hh, hm⟩
    · rw [if_neg h2, tc k (by omega)]
      exact ⟨move_in (by omega) hh ((holds_1 (by omega)).mp h2), move_mv hm⟩
theorem small {x : Int32} {m : Nat} (hm : m < 2 ^ 31) (h1 : ¬ x < 0) (h2 : x ≤ nI m) : ∃ c, c ≤ m ∧ x = nI c := by
  obtain ⟨g1, g2⟩ := rng_ok rfl hm h1 h2
  exact ⟨x.toNatClampNeg, g2, g1⟩
theorem code_ok {K : Nat} {fC : Nat → Int32} {x1 x2 x3 : Int32} (hcd : ∀ j, j < 75 → ∃ c : Nat, c ≤ 31 ∧ fC j = nI c) : ∀ j, j < 75 → ∃ c : Nat, c ≤ 31 ∧ (F_X4_code K fC x1 x2 x3).2 j = nI c := by
  unfold F_X4_code
  by_cases h1 : F_X3_hasKey K x2 = 0
  · rw [if_pos h1]; exact hcd
  · rw [if_neg h1]
    by_cases h2 : x1 < 0
    · rw [if_pos h2]; exact hcd
    · rw [if_neg h2]
      by_cases h3 : 3 ≤ x1
      · rw [if_pos h3]; exact hcd
      · rw [if_neg h3]
        by_cases h4 : x3 < 0
        · rw [if_pos h4]; exact hcd
        · rw [if_neg h4]
          by_cases h5 : x3 ≤ 31
          · rw [if_pos h5]
            intro j hj
            show ∃ c : Nat, c ≤ 31 ∧ upd fC _ x3 j = nI c
            rw [upd]
            by_cases h6 : j = ((x1 * 25) + x2).toNatClampNeg
            · rw [if_pos h6]; exact small (by decide) h4 h5
            · rw [if_neg h6]; exact hcd j hj
          · rw [if_neg h5]; exact hcd
