theorem rc_lt {R C r c : Nat} (hR : R ≤ 5) (hC : C ≤ 5) (hr : r < R) (hc : c < C) : r * C + c < R * C ∧ r * C + c < 25 := by
  have h1 : (r + 1) * C ≤ R * C := Nat.mul_le_mul (by omega) (Nat.le_refl C)
  have h2 : R * C ≤ 25 := Nat.mul_le_mul hR hC
  rw [Nat.add_mul, Nat.one_mul] at h1
  omega
/-- a key is live -/
def Lv (R C : Nat) (fi br : Int32) (r c : Nat) : Prop := bt fi (r * C + c) = true ∧ bt br r = false ∧ bt br (R + c) = false
theorem live17 {R C : Nat} {fi br : Int32} (hR : R ≤ 5) (hC : C ≤ 5) {r c : Nat} (hr : r < R) (hc : c < C) (a : Int32) {j : Nat} (hj : j < 32) : bt (S_X3_findLive_17 R C fi br r c a) j = true ↔ bt a j = true ∨ (j = r * C + c ∧ Lv R C fi br r c) := by
  have hk : r * C + c < 32 := by have := (rc_lt hR hC hr hc).2; omega
  have e1 : nI R + nI c = nI (R + c) := (Int32.ofNat_add R c).symm
  have e2 : nI r * nI C + nI c = nI (r * C + c) := by rw [pk_mul]; exact (Int32.ofNat_add _ c).symm
  unfold S_X3_findLive_17 Lv
  rw [e1, e2]
  by_cases h1 : F_X4_holds br (nI r) = 0
  · rw [if_pos h1]
    have g1 := (holds_iff (by omega)).mp h1
    by_cases h2 : F_X4_holds br (nI (R + c)) = 0
    · rw [if_pos h2]
      have g2 := (holds_iff (by omega)).mp h2
      by_cases h3 : F_X4_holds fi (nI (r * C + c)) = 0
      · rw [if_pos h3]
        have g3 := (holds_iff hk).mp h3
        rw [g3]; simp
      · rw [if_neg h3, bt_or, bt_bit hk hj]
        have g3 := (holds_1 hk).mp h3
        simp [g1, g2, g3]
    · rw [if_neg h2, ite_self]
      have g2 := (holds_1 (by omega)).mp h2
      simp [g2]
  · rw [if_neg h1, ite_self]
    have g1 := (holds_1 (by omega)).mp h1
    simp [g1]
theorem live7 {R C : Nat} {fi br : Int32} (hR : R ≤ 5) (hC : C ≤ 5) {r : Nat} (hr : r < R) {j : Nat} (hj : j < 32) : ∀ (n i : Nat) (a : Int32), i + n = C → (bt (itr (fun i a => S_X3_findLive_17 R C fi br r i a) n i a) j = true ↔ bt a j = true ∨ ∃ c, i ≤ c ∧ c < C ∧ j = r * C + c ∧ Lv R C fi br r c) := by
  intro n
  induction n with
  | zero =>
    intro i a hi
    constructor
    · intro h; exact Or.inl h
    · rintro (h | ⟨c, h1, h2, -⟩)
      · exact h
      · omega
  | succ n ih =>
    intro i a hi
    show bt (itr _ n (i + 1) (S_X3_findLive_17 R C fi br r i a)) j = true ↔ _
    rw [ih (i + 1) _ (by omega), live17 hR hC hr (by omega) a hj]
    constructor
    · rintro ((h | ⟨h1, h2⟩) | ⟨c, h1, h2⟩)
      · exact Or.inl h
      · exact Or.inr ⟨i, Nat.le_refl i, by omega, h1, h2⟩
      · exact Or.inr ⟨c, by omega, h2⟩
    · rintro (h | ⟨c, h1, h2, h3⟩)
      · exact Or.inl (Or.inl h)
      · rcases Nat.eq_or_lt_of_le h1 with h4 | h4
        · subst h4; exact Or.inl (Or.inr h3)
        · exact Or.inr ⟨c, h4, h2, h3⟩
theorem live0 {R C : Nat} {fi br : Int32} (hR : R ≤ 5) (hC : C ≤ 5) {j : Nat} (hj : j < 32) : ∀ (n i : Nat) (a : Int32), i + n = R → (bt (itr (fun i a => S_X3_findLive_7 R C fi br i a) n i a) j = true ↔ bt a j = true ∨ ∃ r c, i ≤ r ∧ r < R ∧ c < C ∧ j = r * C + c ∧ Lv R C fi br r c) := by
  intro n
  induction n with
  | zero =>
    intro i a hi
    constructor
    · intro h; exact Or.inl h
    · rintro (h | ⟨r, c, h1, h2, -⟩)
      · exact h
      · omega
  | succ n ih =>
    intro i a hi
    show bt (itr _ n (i + 1) (S_X3_findLive_7 R C fi br i a)) j = true ↔ _
    rw [ih (i + 1) _ (by omega)]
    unfold S_X3_findLive_7
    rw [live7 hR hC (by omega) hj C 0 a (by omega)]
    constructor
    · rintro ((h | ⟨c, -, h1, h2⟩) | ⟨r, c, h1, h2⟩)
      · exact Or.inl h
      · exact Or.inr ⟨i, c, Nat.le_refl i, by omega, h1, h2⟩
      · exact Or.inr ⟨r, c, by omega, h2⟩
    · rintro (h | ⟨r, c, h1, h2, h3, h4⟩)
      · exact Or.inl (Or.inl h)
      · rcases Nat.eq_or_lt_of_le h1 with h5 | h5
        · subst h5; exact Or.inl (Or.inr ⟨c, Nat.zero_le c, h3, h4⟩)
        · exact Or.inr ⟨r, c, h5, h2, h3, h4⟩
theorem findLive_bt {R C : Nat} {fi br : Int32} (hR : R ≤ 5) (hC : C ≤ 5) {j : Nat} : bt (F_X3_findLive R C fi br) j = true ↔ ∃ r c, r < R ∧ c < C ∧ j = r * C + c ∧ Lv R C fi br r c := by
  by_cases hj : j < 32
  · unfold F_X3_findLive
    rw [live0 hR hC hj R 0 0 (by omega), bt_0]
    constructor
    · rintro (h | ⟨r, c, -, h⟩)
      · cases h
      · exact ⟨r, c, h⟩
    · rintro ⟨r, c, h⟩
      exact Or.inr ⟨r, c, Nat.zero_le r, h⟩
  · rw [bt_big _ (by omega)]
    constructor
    · intro h; cases h
    · rintro ⟨r, c, hr, hc, h, -⟩
      have := (rc_lt hR hC hr hc).2
      omega
/-- findLive finds the live keys -/
theorem findLive_Live {R C : Nat} {fi br : Int32} (hR : R ≤ 5) (hC : C ≤ 5) (hfi : ∀ j, bt fi j = true → j < R * C) : Live R C fi br (F_X3_findLive R C fi br) := by
  refine ⟨hfi, ?_, ?_⟩
  · intro j h
    obtain ⟨r, c, -, -, h1, h2⟩ := (findLive_bt hR hC).mp h
    rw [h1]; exact h2.1
  · intro r c hr hc
    rw [Bool.eq_iff_iff, findLive_bt hR hC]
    simp only [Bool.and_eq_true, Bool.not_eq_true', Bool.or_eq_false_iff]
    constructor
    · rintro ⟨r', c', h1, h2, h3, h4⟩
      have h5 := pair_inj hc h2 h3
      injection h5 with h6 h7
      rw [h6, h7]; exact h4
    · intro h
      exact ⟨r, c, hr, hc, rfl, h⟩
/-- a key below K -/
theorem hasKey_iff {K : Nat} (hK : K ≤ 25) (x1 : Int32) : ¬ F_X3_hasKey K x1 = 0 ↔ ∃ k, k < K ∧ x1 = nI k := by
  unfold F_X3_hasKey
  constructor
  · intro h
    by_cases h1 : x1 < 0
    · rw [if_pos h1] at h; exact absurd rfl h
    · rw [if_neg h1] at h
      by_cases h2 : nI K ≤ x1
      · rw [if_pos h2] at h; exact absurd rfl h
      · have g1 : 0 ≤ x1.toInt := by
          have := Int32.not_lt.mp h1
          rw [Int32.le_iff_toInt_le] at this
          exact this
        have g2 : x1.toInt < K := by
          have := Int32.not_le.mp h2
          rw [Int32.lt_iff_toInt_lt] at this
          have e : (nI K).toInt = K := Int32.toInt_ofNat_of_lt (by omega)
          rw [e] at this
          exact this
        refine ⟨x1.toInt.toNat, by omega, ?_⟩
        apply Int32.toInt_inj.mp
        have e : (nI x1.toInt.toNat).toInt = (x1.toInt.toNat : Int) := Int32.toInt_ofNat_of_lt (by omega)
        rw [e]
        omega
  · rintro ⟨k, h1, rfl⟩
    have e : (nI k).toInt = k := Int32.toInt_ofNat_of_lt (by omega)
    have e2 : (nI K).toInt = K := Int32.toInt_ofNat_of_lt (by omega)
    rw [if_neg (by rw [Int32.lt_iff_toInt_lt, e]; show ¬ ((k : Int) < 0); omega), if_neg (by rw [Int32.le_iff_toInt_le, e, e2]; omega)]
    decide
theorem bits_and {K : Nat} {x y : Int32} (h : ∀ j, bt x j = true → j < K) : ∀ j, bt (x &&& y) j = true → j < K := by
  intro j hj
  rw [bt_and, Bool.and_eq_true] at hj
  exact h j hj.1
theorem bits_or {K k : Nat} {x : Int32} (hk : k < K) (hK : K ≤ 25) (h : ∀ j, bt x j = true → j < K) : ∀ j, bt (x ||| ((1 : Int32) <<< (nI k &&& 31))) j = true → j < K := by
  intro j hj
  have hj2 := bt_lt hj
  rw [bt_or, Bool.or_eq_true, bt_bit (by omega) hj2, decide_eq_true_eq] at hj
  rcases hj with q | q
  · exact h j q
  · omega
/-- fitting keeps the board -/
theorem fit_Live {R C : Nat} {fi di br : Int32} (hR : R ≤ 5) (hC : C ≤ 5) (hfi : ∀ j, bt fi j = true → j < R * C) {k : Nat} (hk : k < R * C) (x2 x3 : Int32) : Live R C (F_X3_fit R C fi di br (nI k) x2 x3).1 br (F_X3_fit R C fi di br (nI k) x2 x3).2.2 := by
  have hK : R * C ≤ 25 := Nat.mul_le_mul hR hC
  unfold F_X3_fit T_X3_fit_3
  by_cases h2 : x2 = 0
  · by_cases h3 : x3 = 0
    · rw [if_pos h2, if_pos h3]; exact findLive_Live hR hC (bits_and hfi)
    · rw [if_pos h2, if_neg h3]; exact findLive_Live hR hC (bits_and hfi)
  · by_cases h3 : x3 = 0
    · rw [if_neg h2, if_pos h3]; exact findLive_Live hR hC (bits_or hk hK hfi)
    · rw [if_neg h2, if_neg h3]; exact findLive_Live hR hC (bits_or hk hK hfi)
theorem break_Live {R C : Nat} {fi br : Int32} (hR : R ≤ 5) (hC : C ≤ 5) (hfi : ∀ j, bt fi j = true → j < R * C) (x1 x2 : Int32) : Live R C fi (F_X3_breakLine R C fi br x1 x2).1 (F_X3_breakLine R C fi br x1 x2).2 := by
  unfold F_X3_breakLine
  by_cases h2 : x2 = 0
  · rw [if_pos h2]; exact findLive_Live hR hC hfi
  · rw [if_neg h2]; exact findLive_Live hR hC hfi
/-- a new board: all keys, no line broken -/
theorem fitI_bt {K : Nat} (hK : K ≤ 25) {j : Nat} : bt (fitI K) j = decide (j < K) := by
  have h : ∀ K : Nat, K ≤ 25 → ∀ j : Nat, j < 32 → bt (fitI K) j = decide (j < K) := by decide +kernel
  by_cases hj : j < 32
  · exact h K hK j hj
  · rw [bt_big _ (by omega), decide_eq_false (by omega)]
theorem anew_Live {R C : Nat} (hR : R ≤ 5) (hC : C ≤ 5) : Live R C (fitI (R * C)) 0 (fitI (R * C)) := by
  have hK : R * C ≤ 25 := Nat.mul_le_mul hR hC
  refine ⟨fun j hj => ?_, fun j hj => hj, fun r c hr hc => ?_⟩
  · rw [fitI_bt hK, decide_eq_true_eq] at hj; exact hj
  · rw [bt_0, bt_0]; simp
