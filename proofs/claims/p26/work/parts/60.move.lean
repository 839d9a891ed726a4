theorem move_mv {fB fN fM : Nat → Int32} {he x2 : Int32} {k K sc : Nat} (h : ∀ j, j < K → fM j = -1 ∨ ∃ a, a ≤ sc ∧ fM j = nI a) : ∀ j, j < K → (F_X0_move fB fN fM he k x2 (nI sc)).2.2 j = -1 ∨ ∃ a, a ≤ sc ∧ (F_X0_move fB fN fM he k x2 (nI sc)).2.2 j = nI a := by
  intro j hj
  unfold F_X0_move
  by_cases h1 : F_X4_holds he (nI k) = x2
  · rw [if_pos h1]; exact h j hj
  · rw [if_neg h1]
    show upd fM k (nI sc) j = -1 ∨ ∃ a, a ≤ sc ∧ upd fM k (nI sc) j = nI a
    rw [upd]
    by_cases h2 : j = k
    · rw [if_pos h2]; exact Or.inr ⟨sc, Nat.le_refl sc, rfl⟩
    · rw [if_neg h2]; exact h j hj
theorem move_in {fB fN fM : Nat → Int32} {he fi x2 x3 : Int32} {k : Nat} (hk : k < 32) (h : ∀ j, bt he j = true → bt fi j = true) (hf : bt fi k = true) : ∀ j, bt (F_X0_move fB fN fM he k x2 x3).1 j = true → bt fi j = true := by
  intro j
  unfold F_X0_move
  by_cases h1 : F_X4_holds he (nI k) = x2
  · rw [if_pos h1]; exact h j
  · rw [if_neg h1]
    intro hj
    have hj2 := bt_lt hj
    have hj3 : bt (he ^^^ ((1 : Int32) <<< (nI k &&& 31))) j = true := hj
    by_cases h2 : j = k
    · rw [h2]; exact hf
    · rw [flip_bt hk hj2, decide_eq_false h2, Bool.xor_false] at hj3
      exact h j hj3
theorem move_out {fB fN fM : Nat → Int32} {he x3 : Int32} {k : Nat} (hk : k < 32) : ∀ j, bt (F_X0_move fB fN fM he k 0 x3).1 j = true → bt he j = true ∧ j ≠ k := by
  intro j
  unfold F_X0_move
  by_cases h1 : F_X4_holds he (nI k) = 0
  · rw [if_pos h1]
    intro hj
    have hj3 : bt he j = true := hj
    refine ⟨hj3, fun q => ?_⟩
    rw [q, (holds_iff hk).mp h1] at hj3
    cases hj3
  · rw [if_neg h1]
    intro hj
    have hj2 := bt_lt hj
    have hj3 : bt (he ^^^ ((1 : Int32) <<< (nI k &&& 31))) j = true := hj
    have hb := (holds_1 hk).mp h1
    rw [flip_bt hk hj2] at hj3
    by_cases h2 : j = k
    · rw [h2, hb, decide_eq_true rfl] at hj3; cases hj3
    · rw [decide_eq_false h2, Bool.xor_false] at hj3
      exact ⟨hj3, h2⟩
/-- fitting changes just the key's own bit -/
theorem fit_bt {R C : Nat} {fi di br x2 x3 : Int32} {k : Nat} (hk : k < 32) {j : Nat} (hj : j < 32) (hne : j ≠ k ∨ ¬ x2 = 0) (h : bt fi j = true) : bt (F_X3_fit R C fi di br (nI k) x2 x3).1 j = true := by
  have hor : bt (fi ||| ((1 : Int32) <<< (nI k &&& 31))) j = true := by rw [bt_or, h]; rfl
  have hand : ¬ j = k → bt (fi &&& (((1 : Int32) <<< (nI k &&& 31)) ^^^ (-1))) j = true := fun q => by
    rw [bt_and, bt_not _ hj, bt_bit hk hj, decide_eq_false q, h]; rfl
  unfold F_X3_fit T_X3_fit_3
  by_cases h2 : x2 = 0
  · have q : ¬ j = k := by
      rcases hne with q | q
      · exact q
      · exact absurd h2 q
    by_cases h3 : x3 = 0
    · rw [if_pos h2, if_pos h3]; exact hand q
    · rw [if_pos h2, if_neg h3]; exact hand q
  · by_cases h3 : x3 = 0
    · rw [if_neg h2, if_pos h3]; exact hor
    · rw [if_neg h2, if_neg h3]; exact hor
