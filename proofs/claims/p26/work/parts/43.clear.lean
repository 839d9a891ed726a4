/-- all of x but the key k -/
abbrev wo (x : Int32) (k : Nat) : Int32 := x &&& (((1 : Int32) <<< ((nI k) &&& 31)) ^^^ (-1))
theorem wo_bt (x : Int32) {k j : Nat} (hk : k < 32) (hj : j < 32) : bt (wo x k) j = (bt x j && !decide (j = k)) := by
  unfold wo; rw [bt_and, bt_not _ hj, bt_bit hk hj]
theorem clearL {R C K : Nat} {fi di li : Int32} (hK : K ≤ 25) : ∀ (n i : Nat) (a : Unit), i + n = K →
    ((F_X4_holds 0 0 = 0) ∧ ((∀ k, i ≤ k → k < K → bt (F_X3_seenIf R C fi di li (wo fi k)) k = false) → L_X3_isClear_2 R C fi di li n i a = 1) ∧ ((∃ k, i ≤ k ∧ k < K ∧ bt (F_X3_seenIf R C fi di li (wo fi k)) k = true) → L_X3_isClear_2 R C fi di li n i a = 0)) := by
  intro n
  induction n with
  | zero =>
    intro i a hi
    refine ⟨by decide, fun _ => rfl, ?_⟩
    rintro ⟨k, h1, h2, -⟩
    omega
  | succ n ih =>
    intro i a hi
    refine ⟨by decide, ?_, ?_⟩
    · intro h
      rw [L_X3_isClear_2, if_pos ((holds_iff (by omega)).mpr (h i (Nat.le_refl i) (by omega)))]
      exact (ih (i + 1) () (by omega)).2.1 (fun k h1 h2 => h k (by omega) h2)
    · rintro ⟨k, h1, h2, h3⟩
      rw [L_X3_isClear_2]
      by_cases hz : F_X4_holds (F_X3_seenIf R C fi di li (wo fi i)) (nI i) = 0
      · rw [if_pos hz]
        rcases Nat.eq_or_lt_of_le h1 with h4 | h4
        · subst h4
          rw [(holds_iff (by omega)).mp hz] at h3
          cases h3
        · exact (ih (i + 1) () (by omega)).2.2 ⟨k, h4, h2, h3⟩
      · rw [if_neg hz]
/-- clear: no key is seen by all other fitted ones -/
theorem clear_1 {R C K : Nat} {fi di li : Int32} (hK : K ≤ 25) (h : ∀ k, k < K → bt (F_X3_seenIf R C fi di li (wo fi k)) k = false) : F_X3_isClear R C K fi di li = 1 :=
  (clearL hK K 0 () (by omega)).2.1 (fun k _ h2 => h k h2)
theorem clear_0 {R C K : Nat} {fi di li : Int32} (hK : K ≤ 25) (h : ∃ k, k < K ∧ bt (F_X3_seenIf R C fi di li (wo fi k)) k = true) : F_X3_isClear R C K fi di li = 0 := by
  obtain ⟨k, h1, h2⟩ := h
  exact (clearL hK K 0 () (by omega)).2.2 ⟨k, Nat.zero_le k, h1, h2⟩
theorem clear_iff {R C K : Nat} {fi di li : Int32} (hK : K ≤ 25) : F_X3_isClear R C K fi di li = 1 ↔ ∀ k, k < K → bt (F_X3_seenIf R C fi di li (wo fi k)) k = false := by
  constructor
  · intro h k hk
    cases hb : bt (F_X3_seenIf R C fi di li (wo fi k)) k with
    | false => rfl
    | true =>
      rw [clear_0 hK ⟨k, hk, hb⟩] at h
      exact absurd h (by decide)
  · exact clear_1 hK
theorem clear_01 {R C K : Nat} {fi di li : Int32} (hK : K ≤ 25) : F_X3_isClear R C K fi di li = 0 ∨ F_X3_isClear R C K fi di li = 1 := by
  by_cases h : ∀ k, k < K → bt (F_X3_seenIf R C fi di li (wo fi k)) k = false
  · exact Or.inr (clear_1 hK h)
  · refine Or.inl (clear_0 hK ?_)
    apply Classical.byContradiction
    intro h2
    apply h
    intro k hk
    cases hb : bt (F_X3_seenIf R C fi di li (wo fi k)) k with
    | false => rfl
    | true => exact absurd ⟨k, hk, hb⟩ h2
/-- a key that some set shows without holding it is shown by all others -/
theorem shown_wo {R C : Nat} {fi di li x : Int32} (hR : R ≤ 5) (hC : C ≤ 5) (hli : ∀ j, bt li j = true → bt fi j = true) {k : Nat} (hk : k < 32) (h1 : bt (F_X3_seenIf R C fi di li x) k = true) (h2 : bt x k = false) : bt (F_X3_seenIf R C fi di li (wo fi k)) k = true := by
  refine seenIf_mono hR hC (fun j hj hl => ?_) hk h1
  have hj2 : j < 32 := by
    rcases Nat.lt_or_ge j 32 with q | q
    · exact q
    · rw [bt_big _ q] at hj; cases hj
  rw [wo_bt fi hk hj2, hli j hl]
  have h3 : j ≠ k := fun e => by subst e; rw [h2] at hj; cases hj
  simp [h3]
/-- on a clear board no set shows a key that is not in it -/
theorem clear_exact {R C K : Nat} {fi di li : Int32} (hR : R ≤ 5) (hC : C ≤ 5) (hK : K ≤ 25) (hfi : ∀ j, bt fi j = true → j < K) (hli : ∀ j, bt li j = true → bt fi j = true) (h : F_X3_isClear R C K fi di li = 1) (x : Int32) : ¬ F_X3_isExact R C fi di li x = 0 := by
  intro he
  obtain ⟨k, hk, h1, h2⟩ := exact_iff.mp he
  have h3 := shown_wo hR hC hli hk h1 h2
  have h4 : bt fi k = true := ((seenIf_bt hR hC hk).mp h1).1
  rw [(clear_iff hK).mp h k (hfi k h4)] at h3
  cases h3
/-- on another one some set shows such a key -/
theorem unclear_shown {R C K : Nat} {fi di li : Int32} (hR : R ≤ 5) (hC : C ≤ 5) (hK : K ≤ 25) (h : F_X3_isClear R C K fi di li = 0) : ∃ k, k < K ∧ bt (F_X3_seenIf R C fi di li (wo fi k)) k = true := by
  apply Classical.byContradiction
  intro h2
  have h3 : F_X3_isClear R C K fi di li = 1 := (clear_iff hK).mpr (fun k hk => by
    cases hb : bt (F_X3_seenIf R C fi di li (wo fi k)) k with
    | false => rfl
    | true => exact absurd ⟨k, hk, hb⟩ h2)
  rw [h] at h3
  exact absurd h3 (by decide)
