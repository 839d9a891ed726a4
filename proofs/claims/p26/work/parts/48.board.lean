theorem bt_lt {x : Int32} {j : Nat} (h : bt x j = true) : j < 32 := by
  rcases Nat.lt_or_ge j 32 with q | q
  · exact q
  · rw [bt_big _ q] at h; cases h
theorem holds_1 {x : Int32} {k : Nat} (hk : k < 32) : ¬ F_X4_holds x (nI k) = 0 ↔ bt x k = true := by
  rw [holds_iff hk]
  cases bt x k <;> simp
/-- one key alone shows no other -/
theorem Rch_single {R C : Nat} {f b : Int32} {i r : Nat} (hf : ∀ j, bt f j = true → j = i) (hb : ∀ j, bt b j = true → j = i) : ∀ n j, Rch R C f b (bas C f r) n j → r * C + j = i := by
  intro n
  induction n with
  | zero => intro j h; exact hf _ h.2
  | succ n ih =>
    rintro j (h | ⟨r', -, ⟨c, -, h1, h2⟩, -, h3⟩)
    · exact ih j h
    · have h4 := hf _ h3
      have h5 := hb _ h1
      have h6 := ih c h2
      omega
theorem seen_single {R C : Nat} {fi di li : Int32} (hR : R ≤ 5) (hC : C ≤ 5) {i k : Nat} (hi : i < 32) (hk : k < 32) (h : bt (F_X3_seenIf R C fi di li ((1 : Int32) <<< ((nI i) &&& 31))) k = true) : k = i := by
  obtain ⟨-, r, hr, g1, g2, g3⟩ := (seenIf_bt hR hC hk).mp h
  have h1 := Rch_single (i := i) (fun j hj => by
    have hj2 := bt_lt hj
    rw [T6_bt, bt_bit hi hj2, Bool.and_eq_true, decide_eq_true_eq] at hj
    exact hj.1) (fun j hj => by
    have hj2 := bt_lt hj
    have h2 := (T15_imp hj).1
    rw [bt_bit hi hj2, decide_eq_true_eq] at h2
    exact h2) R _ g3
  omega
theorem seen_self {R C : Nat} {fi di br li : Int32} (hR : R ≤ 5) (hC : C ≤ 5) (hL : Live R C fi br li) {i : Nat} (hl : bt li i = true) : F_X3_seenIf R C fi di li ((1 : Int32) <<< ((nI i) &&& 31)) = (1 : Int32) <<< ((nI i) &&& 31) := by
  have hfi := hL.2.1 i hl
  have hkR := hL.1 i hfi
  have hi := bt_lt hl
  refine bt_ext (fun j hj => ?_)
  rw [bt_bit hi hj]
  by_cases h : j = i
  · subst h
    rw [decide_eq_true rfl, seenIf_bt hR hC hj]
    have h2 := key_eq C j
    have hC1 : 0 < C := by
      rcases Nat.eq_zero_or_pos C with q | q
      · rw [q, Nat.mul_zero] at hkR; omega
      · exact q
    have h3 := Nat.mod_lt j hC1
    refine ⟨hfi, j / C, key_row hkR, by omega, by omega, ?_⟩
    refine Rch_le (Nat.zero_le R) ?_
    show j - j / C * C < C ∧ _
    refine ⟨by omega, ?_⟩
    rw [show j / C * C + (j - j / C * C) = j by omega, T6_bt, bt_bit hj hj, hl]
    simp
  · rw [decide_eq_false h]
    cases hb : bt (F_X3_seenIf R C fi di li ((1 : Int32) <<< ((nI i) &&& 31))) j with
    | false => rfl
    | true => exact absurd (seen_single hR hC hi hj hb) h
theorem exact_single {R C : Nat} {fi di li : Int32} (hR : R ≤ 5) (hC : C ≤ 5) {i : Nat} (hi : i < 32) : ¬ F_X3_isExact R C fi di li ((1 : Int32) <<< ((nI i) &&& 31)) = 0 := by
  intro h
  obtain ⟨k, hk, h1, h2⟩ := exact_iff.mp h
  have h3 := seen_single hR hC hi hk h1
  subst h3
  rw [bt_bit hk hk] at h2
  simp at h2
theorem aloneL {R C : Nat} {fi di br li : Int32} (hR : R ≤ 5) (hC : C ≤ 5) (hL : Live R C fi br li) : ∀ (n i : Nat) (a : Unit), i + n = R * C → L_X3_keysAloneAreSound_2 R C fi di li n i a = 1 := by
  have hK : R * C ≤ 25 := Nat.mul_le_mul hR hC
  intro n
  induction n with
  | zero => intro i a _; rfl
  | succ n ih =>
    intro i a hi
    have h1 := ih (i + 1) () (by omega)
    have h2 := exact_single (fi := fi) (di := di) (li := li) hR hC (i := i) (by omega)
    rw [L_X3_keysAloneAreSound_2]
    by_cases hs : F_X3_seenIf R C fi di li ((1 : Int32) <<< ((nI i) &&& 31)) = (1 : Int32) <<< ((nI i) &&& 31)
    · rw [if_pos hs]
      by_cases h3 : F_X4_holds fi (nI i) = 0
      · rw [if_pos h3]; exact h1
      · rw [if_neg h3, if_neg h2]
        by_cases h4 : F_X4_holds li (nI i) = 0
        · rw [if_pos h4]; exact h1
        · rw [if_neg h4]; exact h1
    · rw [if_neg hs]
      by_cases h3 : F_X4_holds fi (nI i) = 0
      · rw [if_pos h3]; exact h1
      · rw [if_neg h3, if_neg h2]
        by_cases h4 : F_X4_holds li (nI i) = 0
        · rw [if_pos h4]; exact h1
        · exact absurd (seen_self hR hC hL ((holds_1 (by omega)).mp h4)) hs
theorem alone_1 {R C : Nat} {fi di br li : Int32} (hR : R ≤ 5) (hC : C ≤ 5) (hL : Live R C fi br li) : F_X3_keysAloneAreSound R C (R * C) fi di li = 1 := aloneL hR hC hL (R * C) 0 () (by omega)
theorem odd_is : ∀ m : Nat, m < 5 → ¬ nI (2 * m + 3) < 3 ∧ nI (2 * m + 3) - nI (2 * m + 3) / 2 * 2 = 1 := by decide +kernel
theorem least_1 {R C : Nat} {fi di br li : Int32} (hR : R ≤ 5) (hC : C ≤ 5) (hL : Live R C fi br li) : F_X3_leastIsSound R C (R * C) fi di li = 1 := by
  have hK : R * C ≤ 25 := Nat.mul_le_mul hR hC
  unfold F_X3_leastIsSound
  rcases clear_01 (R := R) (C := C) (fi := fi) (di := di) (li := li) hK with h | h
  · rw [if_pos h]
    obtain ⟨m, h1, h2⟩ := least_unclear hR hC hL h
    rw [h2, if_neg (odd_is m (by omega)).1, if_pos (odd_is m (by omega)).2]
  · rw [if_neg (by rw [h]; decide), if_pos (least_clear hR hC hL h), if_neg (clear_exact hR hC hK hL.1 hL.2.1 h fi)]
/-- a diode more takes no way shorter -/
theorem Way_mono {R C : Nat} {li x2 x2' : Int32} (h : ∀ j, bt x2 j = true → bt x2' j = true) {k n : Nat} (hw : Way R C li x2' k n) : Way R C li x2 k n := by
  refine Rch_mono (fun j hj => hj) (fun j hj => ?_) (fun j hj => hj) n _ hw
  have hj2 := bt_lt hj
  have h1 := wb_get hj
  have h2 := wb_imp j hj
  unfold wb
  have h3 : bt (wo li k) j = true := h2
  rw [bt_and, bt_not _ hj2, h3]
  cases hb : bt x2 j with
  | false => rfl
  | true => rw [h j hb] at h1; cases h1
theorem least_mono {R C : Nat} {li x2 x2' : Int32} (hR : R ≤ 5) (hC : C ≤ 5) (h : ∀ j, bt x2 j = true → bt x2' j = true) : F_X3_leastKeys R C (R * C) li x2' = -1 ∨ ∃ m m', m ≤ m' ∧ m' < R - 1 ∧ F_X3_leastKeys R C (R * C) li x2 = nI (2 * m + 3) ∧ F_X3_leastKeys R C (R * C) li x2' = nI (2 * m' + 3) := by
  rcases least_spec (li := li) (x2 := x2') hR hC with ⟨h1, -⟩ | ⟨m', h1, h2, ⟨k, h3, h4, h5⟩, -⟩
  · exact Or.inl h1
  · refine Or.inr ?_
    have h6 := Way_mono h h5
    rcases least_spec (li := li) (x2 := x2) hR hC with ⟨-, g2⟩ | ⟨m, g1, g2, -, g4⟩
    · exact absurd (Rch_le (by omega) h6) (g2 k h3 h4)
    · refine ⟨m, m', ?_, h1, g2, h2⟩
      rcases Nat.lt_or_ge m' m with q | q
      · exact absurd (Rch_le (by omega) h6) (g4 k h3 h4)
      · exact q
