theorem row_k : ∀ C : Nat, C ≤ 5 → ∀ k : Nat, k < 25 → 1 ≤ C → F_X3_rowOf C (nI k) = nI (k / C) := by decide +kernel
theorem col_k : ∀ C : Nat, C ≤ 5 → ∀ k : Nat, k < 25 → 1 ≤ C → nI k - nI (k / C) * nI C = nI (k % C) := by decide +kernel
/-- the keys a way round the key k may use, and those it may go back by -/
abbrev wf (li : Int32) (k : Nat) : Int32 := wo li k
abbrev wb (li : Int32) (k : Nat) (x2 : Int32) : Int32 := wo li k &&& (x2 ^^^ (-1))
theorem wb_imp {li x2 : Int32} {k : Nat} : ∀ j, bt (wb li k x2) j = true → bt (wf li k) j = true := by
  intro j h
  unfold wb at h
  rw [bt_and, Bool.and_eq_true] at h
  exact h.1
/-- the column of k is reached in n steps from its row, without k -/
abbrev Way (R C : Nat) (li x2 : Int32) (k n : Nat) : Prop := Rch R C (wf li k) (wb li k x2) (bas C (wf li k) (k / C)) n (k % C)
theorem key_eq (C k : Nat) : k / C * C + k % C = k := by rw [Nat.mul_comm]; exact Nat.div_add_mod k C
theorem key_row {R C k : Nat} (h : k < R * C) : k / C < R := by
  apply Nat.div_lt_of_lt_mul
  rw [Nat.mul_comm]; exact h
theorem Way_0 {R C k : Nat} {li x2 : Int32} (hk : k < 32) : ¬ Way R C li x2 k 0 := by
  intro h
  have h1 : bas C (wf li k) (k / C) (k % C) := h
  have h2 := h1.2
  rw [key_eq, wo_bt li hk hk] at h2
  simp at h2
theorem wayL {R C : Nat} {li x2 : Int32} {k : Nat} (hR : R ≤ 5) (hC : C ≤ 5) (hC1 : 1 ≤ C) (hk : k < 25) : ∀ (n i : Nat) (a : Int32), i + n = R - 1 → (∀ j, bt a j = true ↔ Rch R C (wf li k) (wb li k x2) (bas C (wf li k) (k / C)) i j) → ¬ Way R C li x2 k i →
    (L_X3_wayRound_48 R C li (nI k) x2 n i a = -1 ∧ ¬ Way R C li x2 k (R - 1)) ∨ ∃ j, j < R - 1 ∧ L_X3_wayRound_48 R C li (nI k) x2 n i a = nI (2 * j + 3) ∧ Way R C li x2 k (j + 1) ∧ ¬ Way R C li x2 k j := by
  intro n
  induction n with
  | zero =>
    intro i a hi ha hw
    refine Or.inl ⟨rfl, ?_⟩
    rw [show R - 1 = i by omega]
    exact hw
  | succ n ih =>
    intro i a hi ha hw
    have hs : ∀ j, bt (F_X3_spread R C a (T_X3_wayRound_26 li (nI k)) (T_X3_wayRound_34 li (nI k) x2) 1) j = true ↔ Rch R C (wf li k) (wb li k x2) (bas C (wf li k) (k / C)) (i + 1) j := fun j => by
      rw [spread_bt hR hC]
      exact Rch_iff ha 1 j
    have hcol : T_X3_wayRound_14 C (nI k) = nI (k % C) := by
      unfold T_X3_wayRound_14 T_X3_wayRound_5
      rw [row_k C hC k hk hC1, col_k C hC k hk hC1]
    have hcl : k % C < 32 := Nat.lt_of_lt_of_le (Nat.mod_lt k hC1) (by omega)
    rw [L_X3_wayRound_48, hcol]
    by_cases hz : F_X4_holds (F_X3_spread R C a (T_X3_wayRound_26 li (nI k)) (T_X3_wayRound_34 li (nI k) x2) 1) (nI (k % C)) = 0
    · rw [if_pos hz]
      have h1 := (holds_iff hcl).mp hz
      exact ih (i + 1) _ (by omega) hs (fun q => by
        have h2 := (hs (k % C)).mpr q
        rw [h1] at h2; cases h2)
    · rw [if_neg hz]
      refine Or.inr ⟨i, by omega, rfl, ?_, hw⟩
      apply (hs (k % C)).mp
      cases hb : bt (F_X3_spread R C a (T_X3_wayRound_26 li (nI k)) (T_X3_wayRound_34 li (nI k) x2) 1) (k % C) with
      | true => rfl
      | false => exact absurd ((holds_iff hcl).mpr hb) hz
theorem wayRound_spec {R C : Nat} {li x2 : Int32} {k : Nat} (hR : R ≤ 5) (hC : C ≤ 5) (hk : k < R * C) :
    (F_X3_wayRound R C li (nI k) x2 = -1 ∧ ¬ Way R C li x2 k (R - 1)) ∨ ∃ j, j < R - 1 ∧ F_X3_wayRound R C li (nI k) x2 = nI (2 * j + 3) ∧ Way R C li x2 k (j + 1) ∧ ¬ Way R C li x2 k j := by
  have hC1 : 1 ≤ C := by
    rcases Nat.eq_zero_or_pos C with h | h
    · rw [h, Nat.mul_zero] at hk; omega
    · exact h
  have hk25 : k < 25 := Nat.lt_of_lt_of_le hk (Nat.mul_le_mul hR hC)
  have hr := key_row hk
  refine wayL hR hC hC1 hk25 (R - 1) 0 _ (by omega) (fun j => ?_) (Way_0 (by omega))
  unfold T_X3_wayRound_43 T_X3_wayRound_5
  rw [row_k C hC k hk25 hC1, cols_bt _ hC (by omega)]
  show (decide (j < C) && bt (wf li k) (k / C * C + j)) = true ↔ bas C (wf li k) (k / C) j
  simp [bas]
/-- a way is a short one -/
theorem Way_short {R C : Nat} {li x2 : Int32} {k n : Nat} (hk : k < R * C) (hk2 : k < 32) (h : Way R C li x2 k n) : Way R C li x2 k (R - 1) := by
  obtain ⟨m, h1, h2, h3⟩ := Rch_first n h (Way_0 (R := R) (x2 := x2) hk2)
  have h4 := way_lt (key_row hk) wb_imp h2 h3
  exact Rch_le (by omega) h2
theorem T6_wo {fi li : Int32} {k : Nat} (hk : k < 32) (hli : ∀ j, bt li j = true → bt fi j = true) : T_X3_seenIf_6 li (wo fi k) = wf li k := by
  refine bt_ext (fun j hj => ?_)
  rw [T6_bt, wo_bt fi hk hj, wo_bt li hk hj]
  cases hl : bt li j with
  | false => simp
  | true => rw [hli j hl]; simp
theorem T15_wo {fi di li : Int32} {k : Nat} (hk : k < 32) (hli : ∀ j, bt li j = true → bt fi j = true) : T_X3_seenIf_15 di li (wo fi k) = wb li k di := by
  unfold T_X3_seenIf_15; rw [T6_wo hk hli]
theorem row_of {C k r : Nat} (h1 : r * C ≤ k) (h2 : k < r * C + C) : r = k / C ∧ k - r * C = k % C := by
  have hC : 0 < C := by omega
  have h3 : r = k / C := by
    rw [eq_comm, Nat.div_eq_iff hC]
    constructor
    · exact h1
    · omega
  have h4 := key_eq C k
  rw [← h3] at h4
  exact ⟨h3, by omega⟩
/-- seen by all others: by a way -/
theorem shown_iff {R C : Nat} {fi di li : Int32} {k : Nat} (hR : R ≤ 5) (hC : C ≤ 5) (hk : k < R * C) (hli : ∀ j, bt li j = true → bt fi j = true) : bt (F_X3_seenIf R C fi di li (wo fi k)) k = true ↔ bt fi k = true ∧ Way R C li di k (R - 1) := by
  have hk2 : k < 32 := Nat.lt_of_lt_of_le hk (Nat.le_trans (Nat.mul_le_mul hR hC) (by decide))
  rw [seenIf_bt hR hC hk2, T6_wo hk2 hli, T15_wo hk2 hli]
  constructor
  · rintro ⟨h, r, h1, h2, h3, h4⟩
    obtain ⟨h5, h6⟩ := row_of h2 h3
    rw [h6, h5] at h4
    exact ⟨h, Way_short hk hk2 h4⟩
  · rintro ⟨h, h1⟩
    have h2 := key_eq C k
    have hC1 : 0 < C := by
      rcases Nat.eq_zero_or_pos C with q | q
      · rw [q, Nat.mul_zero] at hk; omega
      · exact q
    have h3 := Nat.mod_lt k hC1
    refine ⟨h, k / C, key_row hk, by omega, by omega, ?_⟩
    rw [show k - k / C * C = k % C by omega]
    exact Rch_le (Nat.sub_le R 1) h1
