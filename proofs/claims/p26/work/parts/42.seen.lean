/-- a row's columns that are reached at last -/
def Sees (R C : Nat) (f b : Int32) (r c : Nat) : Prop := Rch R C f b (fun j => j < C ∧ bt f (r * C + j) = true) R c
theorem Rch_lt {R C : Nat} {f b : Int32} {a : Nat → Prop} (ha : ∀ j, a j → j < C) (n : Nat) : ∀ j, Rch R C f b a n j → j < C := by
  induction n with
  | zero => exact ha
  | succ n ih =>
    rintro j (h | ⟨r, hr, -, h2, -⟩)
    · exact ih j h
    · exact h2
theorem Rch_no {R C : Nat} {f b : Int32} {a : Nat → Prop} (ha : ∀ j, ¬ a j) (n : Nat) : ∀ j, ¬ Rch R C f b a n j := by
  induction n with
  | zero => exact ha
  | succ n ih =>
    rintro j (h | ⟨r, hr, ⟨c, -, -, h2⟩, -⟩)
    · exact ih j h
    · exact ih c h2
theorem seenS_bt {R C : Nat} {di li x : Int32} (hR : R ≤ 5) (hC : C ≤ 5) {i : Nat} (hi : i < R) (a : Int32) {k : Nat} (hk : k < 32) :
    bt (S_X3_seenIf_22 R C di li x i a) k = true ↔ bt a k = true ∨ (i * C ≤ k ∧ k < i * C + C ∧ Sees R C (T_X3_seenIf_6 li x) (T_X3_seenIf_15 di li x) i (k - i * C)) := by
  have hic : i * C ≤ 20 := Nat.le_trans (Nat.mul_le_mul (by omega : i ≤ 4) hC) (by decide)
  have hcol : ∀ j, bt (F_X3_columnsOf C (T_X3_seenIf_6 li x) (nI i)) j = true ↔ j < C ∧ bt (T_X3_seenIf_6 li x) (i * C + j) = true := fun j => by
    rw [cols_bt _ hC (by omega)]; simp
  unfold S_X3_seenIf_22
  by_cases hz : (F_X3_columnsOf C (T_X3_seenIf_6 li x) (nI i)) = 0
  · rw [if_pos hz]
    constructor
    · intro h; exact Or.inl h
    · rintro (h | ⟨-, -, h⟩)
      · exact h
      · refine absurd h (Rch_no (fun j hj => ?_) R _)
        have h2 := (hcol j).mpr hj
        rw [hz, bt_0] at h2
        cases h2
  · rw [if_neg hz, bt_or, pk_mul, bt_shl _ (by omega)]
    simp only [Bool.or_eq_true, Bool.and_eq_true, decide_eq_true_eq]
    have hs : ∀ j, bt (F_X3_spread R C (F_X3_columnsOf C (T_X3_seenIf_6 li x) (nI i)) (T_X3_seenIf_6 li x) (T_X3_seenIf_15 di li x) R) j = true ↔ Sees R C (T_X3_seenIf_6 li x) (T_X3_seenIf_15 di li x) i j := fun j => by
      rw [spread_bt hR hC]; exact Rch_iff hcol R j
    constructor
    · rintro (h | ⟨-, h1, h2⟩)
      · exact Or.inl h
      · have h3 := (hs _).mp h2
        have h4 : k - i * C < C := Rch_lt (fun j hj => hj.1) R _ h3
        exact Or.inr ⟨h1, by omega, h3⟩
    · rintro (h | ⟨h1, h2, h3⟩)
      · exact Or.inl h
      · exact Or.inr ⟨hk, h1, (hs _).mpr h3⟩
theorem seenI_bt {R C : Nat} {di li x : Int32} (hR : R ≤ 5) (hC : C ≤ 5) {k : Nat} (hk : k < 32) : ∀ (n i : Nat) (a : Int32), i + n = R →
    (bt (itr (fun i a => S_X3_seenIf_22 R C di li x i a) n i a) k = true ↔ bt a k = true ∨ ∃ r, i ≤ r ∧ r < R ∧ r * C ≤ k ∧ k < r * C + C ∧ Sees R C (T_X3_seenIf_6 li x) (T_X3_seenIf_15 di li x) r (k - r * C)) := by
  intro n
  induction n with
  | zero =>
    intro i a hi
    constructor
    · intro h; exact Or.inl h
    · rintro (h | ⟨r, h1, h2, -⟩)
      · exact h
      · omega
  | succ n ih =>
    intro i a hi
    show bt (itr _ n (i + 1) (S_X3_seenIf_22 R C di li x i a)) k = true ↔ _
    rw [ih (i + 1) _ (by omega), seenS_bt hR hC (by omega) a hk]
    constructor
    · rintro ((h | ⟨h1, h2, h3⟩) | ⟨r, h1, h2⟩)
      · exact Or.inl h
      · exact Or.inr ⟨i, Nat.le_refl i, by omega, h1, h2, h3⟩
      · exact Or.inr ⟨r, by omega, h2⟩
    · rintro (h | ⟨r, h1, h2, h3⟩)
      · exact Or.inl (Or.inl h)
      · rcases Nat.eq_or_lt_of_le h1 with h4 | h4
        · subst h4; exact Or.inl (Or.inr h3)
        · exact Or.inr ⟨r, h4, h2, h3⟩
/-- what is seen: the fitted keys whose column is reached from their row -/
theorem seenIf_bt {R C : Nat} {fi di li x : Int32} (hR : R ≤ 5) (hC : C ≤ 5) {k : Nat} (hk : k < 32) :
    bt (F_X3_seenIf R C fi di li x) k = true ↔ bt fi k = true ∧ ∃ r, r < R ∧ r * C ≤ k ∧ k < r * C + C ∧ Sees R C (T_X3_seenIf_6 li x) (T_X3_seenIf_15 di li x) r (k - r * C) := by
  unfold F_X3_seenIf
  rw [bt_and, Bool.and_eq_true, seenI_bt hR hC hk R 0 0 (by omega)]
  constructor
  · rintro ⟨h | ⟨r, -, h⟩, h2⟩
    · rw [bt_0] at h; cases h
    · exact ⟨h2, r, h⟩
  · rintro ⟨h2, r, h⟩
    exact ⟨Or.inr ⟨r, Nat.zero_le r, h⟩, h2⟩
theorem T6_bt (li x : Int32) (j : Nat) : bt (T_X3_seenIf_6 li x) j = (bt x j && bt li j) := by unfold T_X3_seenIf_6; exact bt_and _ _ _
theorem T15_bt (di li x : Int32) {j : Nat} (hj : j < 32) : bt (T_X3_seenIf_15 di li x) j = ((bt x j && bt li j) && !bt di j) := by
  unfold T_X3_seenIf_15; rw [bt_and, T6_bt, bt_not _ hj]
theorem T15_imp {di li x : Int32} {j : Nat} (h : bt (T_X3_seenIf_15 di li x) j = true) : bt x j = true ∧ bt li j = true ∧ bt di j = false := by
  by_cases hj : j < 32
  · rw [T15_bt di li x hj] at h
    simp only [Bool.and_eq_true, Bool.not_eq_true'] at h
    exact ⟨h.1.1, h.1.2, h.2⟩
  · rw [bt_big _ (by omega)] at h; cases h
/-- more closed keys show more -/
theorem seenIf_mono {R C : Nat} {fi di li x y : Int32} (hR : R ≤ 5) (hC : C ≤ 5) (h : ∀ j, bt x j = true → bt li j = true → bt y j = true) {k : Nat} (hk : k < 32) (hs : bt (F_X3_seenIf R C fi di li x) k = true) : bt (F_X3_seenIf R C fi di li y) k = true := by
  rw [seenIf_bt hR hC hk] at hs ⊢
  obtain ⟨h1, r, h2, h3, h4, h5⟩ := hs
  have hf : ∀ j, bt (T_X3_seenIf_6 li x) j = true → bt (T_X3_seenIf_6 li y) j = true := fun j hj => by
    rw [T6_bt] at hj ⊢
    simp only [Bool.and_eq_true] at hj ⊢
    exact ⟨h j hj.1 hj.2, hj.2⟩
  have hb : ∀ j, bt (T_X3_seenIf_15 di li x) j = true → bt (T_X3_seenIf_15 di li y) j = true := fun j hj => by
    have hj2 : j < 32 := by
      rcases Nat.lt_or_ge j 32 with q | q
      · exact q
      · rw [bt_big _ q] at hj; cases hj
    obtain ⟨a, b, c⟩ := T15_imp hj
    rw [T15_bt di li y hj2, h j a b, b, c]; rfl
  exact ⟨h1, r, h2, h3, h4, Rch_mono hf hb (fun j hj => ⟨hj.1, hf _ hj.2⟩) R _ h5⟩
theorem exact_iff {R C : Nat} {fi di li x : Int32} : F_X3_isExact R C fi di li x = 0 ↔ ∃ k, k < 32 ∧ bt (F_X3_seenIf R C fi di li x) k = true ∧ bt x k = false := by
  have h : ¬ ((F_X3_seenIf R C fi di li x) &&& (x ^^^ (-1))) = 0 ↔ ∃ k, k < 32 ∧ bt (F_X3_seenIf R C fi di li x) k = true ∧ bt x k = false := by
    rw [and_ne]
    constructor
    · rintro ⟨k, hk, h1, h2⟩
      rw [bt_not _ hk] at h2
      exact ⟨k, hk, h1, by simpa using h2⟩
    · rintro ⟨k, hk, h1, h2⟩
      exact ⟨k, hk, h1, by rw [bt_not _ hk, h2]; rfl⟩
  rw [← h]
  unfold F_X3_isExact
  by_cases hz : ((F_X3_seenIf R C fi di li x) &&& (x ^^^ (-1))) = 0
  · rw [if_pos hz]; constructor
    · intro h2; exact absurd h2 (by decide)
    · intro h2; exact absurd hz h2
  · rw [if_neg hz]; constructor
    · intro _; exact hz
    · intro _; rfl
