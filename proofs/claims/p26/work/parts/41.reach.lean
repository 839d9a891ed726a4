theorem mask_bt : ∀ C : Nat, C ≤ 5 → ∀ j : Nat, j < 32 → bt (((1 : Int32) <<< ((nI C) &&& 31)) - 1) j = decide (j < C) := by decide +kernel
theorem cols_bt {C r : Nat} (x : Int32) (hC : C ≤ 5) (hr : r < 5) (j : Nat) : bt (F_X3_columnsOf C x (nI r)) j = (decide (j < C) && bt x (r * C + j)) := by
  have hrc : r * C ≤ 20 := Nat.le_trans (Nat.mul_le_mul (by omega : r ≤ 4) hC) (by decide)
  unfold F_X3_columnsOf
  rw [bt_and, pk_mul]
  by_cases hj : j < 32
  · rw [mask_bt C hC j hj]
    by_cases h : j < C
    · rw [bt_shr x (by omega) (by omega), Nat.add_comm]
      simp [h]
    · simp [h]
  · rw [bt_big _ (by omega)]
    have h : ¬ j < C := by omega
    simp [h]
theorem and_ne {x y : Int32} : ¬ (x &&& y = 0) ↔ ∃ j, j < 32 ∧ bt x j = true ∧ bt y j = true := by
  constructor
  · intro h
    apply Classical.byContradiction
    intro h2
    apply h
    rw [bt_zero]
    intro j hj
    rw [bt_and]
    cases hx : bt x j with
    | false => rfl
    | true =>
      cases hy : bt y j with
      | false => rfl
      | true => exact absurd ⟨j, hj, hx, hy⟩ h2
  · rintro ⟨j, hj, hx, hy⟩ h
    have h3 := bt_zero.mp h j hj
    rw [bt_and, hx, hy] at h3
    cases h3
/-- the columns reached from a by n steps back to rows and forth again -/
def Rch (R C : Nat) (f b : Int32) (a : Nat → Prop) : Nat → Nat → Prop
  | 0, j => a j
  | n + 1, j => Rch R C f b a n j ∨ ∃ r, r < R ∧ (∃ c, c < C ∧ bt b (r * C + c) = true ∧ Rch R C f b a n c) ∧ j < C ∧ bt f (r * C + j) = true
theorem Rch_iff {R C : Nat} {f b : Int32} {a a' : Nat → Prop} (h : ∀ j, a j ↔ a' j) (n : Nat) : ∀ j, Rch R C f b a n j ↔ Rch R C f b a' n j := by
  induction n with
  | zero => exact h
  | succ n ih =>
    intro j
    show (Rch R C f b a n j ∨ _) ↔ (Rch R C f b a' n j ∨ _)
    constructor
    · rintro (h1 | ⟨r, hr, ⟨c, hc, hb, h1⟩, h2⟩)
      · exact Or.inl ((ih j).mp h1)
      · exact Or.inr ⟨r, hr, ⟨c, hc, hb, (ih c).mp h1⟩, h2⟩
    · rintro (h1 | ⟨r, hr, ⟨c, hc, hb, h1⟩, h2⟩)
      · exact Or.inl ((ih j).mpr h1)
      · exact Or.inr ⟨r, hr, ⟨c, hc, hb, (ih c).mpr h1⟩, h2⟩
theorem Rch_one {R C : Nat} {f b : Int32} {a : Nat → Prop} (n : Nat) : ∀ j, Rch R C f b (fun j => Rch R C f b a 1 j) n j ↔ Rch R C f b a (n + 1) j := by
  induction n with
  | zero => intro j; exact Iff.rfl
  | succ n ih =>
    intro j
    show (Rch R C f b _ n j ∨ _) ↔ (Rch R C f b a (n + 1) j ∨ _)
    constructor
    · rintro (h1 | ⟨r, hr, ⟨c, hc, hb, h1⟩, h2⟩)
      · exact Or.inl ((ih j).mp h1)
      · exact Or.inr ⟨r, hr, ⟨c, hc, hb, (ih c).mp h1⟩, h2⟩
    · rintro (h1 | ⟨r, hr, ⟨c, hc, hb, h1⟩, h2⟩)
      · exact Or.inl ((ih j).mpr h1)
      · exact Or.inr ⟨r, hr, ⟨c, hc, hb, (ih c).mpr h1⟩, h2⟩
theorem Rch_fix {R C : Nat} {f b : Int32} {a : Nat → Prop} (h : ∀ j, Rch R C f b a 1 j ↔ a j) (n : Nat) : ∀ j, Rch R C f b a n j ↔ a j := by
  induction n with
  | zero => intro j; exact Iff.rfl
  | succ n ih =>
    intro j
    rw [← Rch_one]
    exact (Rch_iff h n j).trans (ih j)
theorem Rch_le {R C : Nat} {f b : Int32} {a : Nat → Prop} {n m : Nat} (h : n ≤ m) {j : Nat} (h1 : Rch R C f b a n j) : Rch R C f b a m j := by
  induction h with
  | refl => exact h1
  | step _ ih => exact Or.inl ih
theorem Rch_mono {R C : Nat} {f b f' b' : Int32} {a a' : Nat → Prop} (hf : ∀ j, bt f j = true → bt f' j = true) (hb : ∀ j, bt b j = true → bt b' j = true) (ha : ∀ j, a j → a' j) (n : Nat) : ∀ j, Rch R C f b a n j → Rch R C f' b' a' n j := by
  induction n with
  | zero => exact ha
  | succ n ih =>
    rintro j (h1 | ⟨r, hr, ⟨c, hc, h3, h1⟩, h2, h4⟩)
    · exact Or.inl (ih j h1)
    · exact Or.inr ⟨r, hr, ⟨c, hc, hb _ h3, ih c h1⟩, h2, hf _ h4⟩
/-- one widening, row by row -/
theorem wid_bt {R C : Nat} {f b a0 : Int32} (hR : R ≤ 5) (hC : C ≤ 5) : ∀ (n i : Nat) (a : Int32), i + n = R → ∀ j, (bt (itr (fun i a => S_X3_spread_20 C f b a0 i a) n i a) j = true ↔ bt a j = true ∨ ∃ r, i ≤ r ∧ r < R ∧ (∃ c, c < C ∧ bt b (r * C + c) = true ∧ bt a0 c = true) ∧ j < C ∧ bt f (r * C + j) = true) := by
  intro n
  induction n with
  | zero =>
    intro i a hi j
    constructor
    · intro h; exact Or.inl h
    · rintro (h | ⟨r, h1, h2, -⟩)
      · exact h
      · omega
  | succ n ih =>
    intro i a hi j
    show bt (itr _ n (i + 1) (S_X3_spread_20 C f b a0 i a)) j = true ↔ _
    rw [ih (i + 1) _ (by omega) j]
    have hs : bt (S_X3_spread_20 C f b a0 i a) j = true ↔ bt a j = true ∨ ((∃ c, c < C ∧ bt b (i * C + c) = true ∧ bt a0 c = true) ∧ j < C ∧ bt f (i * C + j) = true) := by
      have hne : ¬ ((F_X3_columnsOf C b (nI i)) &&& a0) = 0 ↔ ∃ c, c < C ∧ bt b (i * C + c) = true ∧ bt a0 c = true := by
        rw [and_ne]
        constructor
        · rintro ⟨c, hc, h1, h2⟩
          rw [cols_bt b hC (by omega)] at h1
          simp only [Bool.and_eq_true, decide_eq_true_eq] at h1
          exact ⟨c, h1.1, h1.2, h2⟩
        · rintro ⟨c, hc, h1, h2⟩
          refine ⟨c, by omega, ?_, h2⟩
          rw [cols_bt b hC (by omega)]
          simp [hc, h1]
      unfold S_X3_spread_20
      by_cases hz : ((F_X3_columnsOf C b (nI i)) &&& a0) = 0
      · rw [if_pos hz]
        constructor
        · intro h; exact Or.inl h
        · rintro (h | ⟨h1, -⟩)
          · exact h
          · exact absurd hz (hne.mpr h1)
      · rw [if_neg hz, bt_or, cols_bt f hC (by omega)]
        simp only [Bool.or_eq_true, Bool.and_eq_true, decide_eq_true_eq]
        constructor
        · rintro (h | h)
          · exact Or.inl h
          · exact Or.inr ⟨hne.mp hz, h⟩
        · rintro (h | ⟨-, h⟩)
          · exact Or.inl h
          · exact Or.inr h
    rw [hs]
    constructor
    · rintro ((h | ⟨h1, h2⟩) | ⟨r, h1, h2, h3⟩)
      · exact Or.inl h
      · exact Or.inr ⟨i, Nat.le_refl i, by omega, h1, h2⟩
      · exact Or.inr ⟨r, by omega, h2, h3⟩
    · rintro (h | ⟨r, h1, h2, h3⟩)
      · exact Or.inl (Or.inl h)
      · rcases Nat.eq_or_lt_of_le h1 with h4 | h4
        · subst h4; exact Or.inl (Or.inr ⟨h3.1, h3.2⟩)
        · exact Or.inr ⟨r, h4, h2, h3⟩
theorem wid_1 {R C : Nat} {f b a0 : Int32} (hR : R ≤ 5) (hC : C ≤ 5) (j : Nat) : bt (itr (fun i a => S_X3_spread_20 C f b a0 i a) R 0 a0) j = true ↔ Rch R C f b (fun j => bt a0 j = true) 1 j := by
  rw [wid_bt hR hC R 0 a0 (by omega) j]
  show _ ↔ (bt a0 j = true ∨ _)
  constructor
  · rintro (h | ⟨r, -, h2, h3⟩)
    · exact Or.inl h
    · exact Or.inr ⟨r, h2, h3⟩
  · rintro (h | ⟨r, h2, h3⟩)
    · exact Or.inl h
    · exact Or.inr ⟨r, Nat.zero_le r, h2, h3⟩
theorem spreadL_bt {R C : Nat} {f b : Int32} (hR : R ≤ 5) (hC : C ≤ 5) : ∀ (n i : Nat) (a : Int32) (j : Nat), bt (L_X3_spread_6 R C f b n i a) j = true ↔ Rch R C f b (fun j => bt a j = true) n j := by
  intro n
  induction n with
  | zero => intro i a j; exact Iff.rfl
  | succ n ih =>
    intro i a j
    rw [L_X3_spread_6]
    by_cases h : (itr (fun i a_1 => S_X3_spread_20 C f b a i a_1) R 0 a) = a
    · rw [if_pos h]
      have h1 : ∀ j, Rch R C f b (fun j => bt a j = true) 1 j ↔ bt a j = true := fun j => by rw [← wid_1 hR hC, h]
      exact (Rch_fix h1 (n + 1) j).symm
    · rw [if_neg h, ih]
      exact (Rch_iff (fun j => wid_1 hR hC j) n j).trans (Rch_one n j)
theorem spread_bt {R C St : Nat} {x f b : Int32} (hR : R ≤ 5) (hC : C ≤ 5) (j : Nat) : bt (F_X3_spread R C x f b St) j = true ↔ Rch R C f b (fun j => bt x j = true) St j := spreadL_bt hR hC St 0 x j
