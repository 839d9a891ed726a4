theorem shl_K : ∀ K : Nat, K ≤ 25 → (1 : Int32) <<< ((nI K) &&& 31) = nI (2 ^ K) ∧ (2 : Nat) ^ K ≤ 33554432 := by decide +kernel
theorem nI_int {n : Nat} (h : n < 2 ^ 31) : (nI n).toInt = n := Int32.toInt_ofNat_of_lt h
/-- a set of keys, told by its bits -/
theorem isSet_bits {K : Nat} (hK : K ≤ 25) (x : Int32) : ¬ F_X3_isSet K x = 0 ↔ ∀ j, bt x j = true → j < K := by
  obtain ⟨h1, h2⟩ := shl_K K hK
  unfold F_X3_isSet
  rw [h1]
  have e2 : (nI (2 ^ K)).toInt = ((2 ^ K : Nat) : Int) := nI_int (by omega)
  constructor
  · intro h
    by_cases h3 : x < 0
    · rw [if_pos h3] at h; exact absurd rfl h
    · rw [if_neg h3] at h
      by_cases h4 : nI (2 ^ K) ≤ x
      · rw [if_pos h4] at h; exact absurd rfl h
      · have g1 : 0 ≤ x.toInt := by
          have := Int32.not_lt.mp h3
          rw [Int32.le_iff_toInt_le] at this
          exact this
        have g2 : x.toInt < ((2 ^ K : Nat) : Int) := by
          have := Int32.not_le.mp h4
          rw [Int32.lt_iff_toInt_lt, e2] at this
          exact this
        have g3 : x = nI x.toInt.toNat := by
          apply Int32.toInt_inj.mp
          rw [nI_int (by omega)]
          omega
        rw [g3]
        exact nat_bt hK (by omega)
  · intro h
    obtain ⟨i, h3, h4⟩ := set_nat hK h
    have e : x.toInt = (i : Int) := by rw [← h4]; exact nI_int (by omega)
    rw [if_neg (by rw [Int32.lt_iff_toInt_lt, e]; show ¬ ((i : Int) < 0); omega), if_neg (by rw [Int32.le_iff_toInt_le, e, e2]; omega)]
    decide
/-- a half of a set of keys is one -/
theorem bits_shr {K : Nat} (hK : K ≤ 25) {x : Int32} (h : ∀ j, bt x j = true → j < K) : ∀ j, bt (x >>> ((1 : Int32) &&& 31)) j = true → j < K := by
  intro j hj
  have hj2 := bt_lt hj
  by_cases h1 : j + 1 < 32
  · rw [show (1 : Int32) = nI 1 from rfl, bt_shr x (by decide) h1] at hj
    have := h _ hj
    omega
  · have h2 : j = 31 := by omega
    subst h2
    have h3 : bt x 31 = false := by
      cases hb : bt x 31 with
      | false => rfl
      | true => have := h _ hb; omega
    exfalso
    have h4 : ¬ (x >>> ((1 : Int32) &&& 31)).toBitVec.msb = true := by
      rw [Int32.toBitVec_shiftRight]
      show ¬ ((x.toBitVec).sshiftRight (((1 : Int32) &&& 31).toBitVec.smod 32).toNat).msb = true
      rw [BitVec.msb_sshiftRight, BitVec.msb_eq_getLsbD_last]
      have h5 : x.toBitVec.getLsbD 31 = false := h3
      rw [BitVec.getLsbD_eq_getElem (by decide)] at h5
      simp [h5]
    rw [BitVec.msb_eq_getLsbD_last] at h4
    exact h4 hj
/-- the best diode is for a fitted key that has none -/
theorem bestI {R C K : Nat} {fi di li : Int32} (hK : K ≤ 25) : ∀ (n i : Nat) (a : Int32 × Int32), i + n = K → (a.1 = -1 ∨ ∃ k, k < K ∧ a.1 = nI k ∧ bt fi k = true ∧ bt di k = false) →
    ((itr (fun i a => S_X3_diodeToAdd_6 R C fi di li i a) n i a).1 = -1 ∨ ∃ k, k < K ∧ (itr (fun i a => S_X3_diodeToAdd_6 R C fi di li i a) n i a).1 = nI k ∧ bt fi k = true ∧ bt di k = false) := by
  intro n
  induction n with
  | zero => intro i a _ h; exact h
  | succ n ih =>
    intro i a hi h
    refine ih (i + 1) (S_X3_diodeToAdd_6 R C fi di li i a) (by omega) ?_
    unfold S_X3_diodeToAdd_6
    by_cases h1 : F_X4_holds (fi &&& (di ^^^ (-1))) (nI i) = 0
    · rw [if_pos h1]; exact h
    · rw [if_neg h1]
      by_cases h2 : F_X3_setsBackBy R C li (nI i) ≤ a.2
      · rw [if_pos h2]; exact h
      · rw [if_neg h2]
        have h3 := (holds_1 (by omega)).mp h1
        rw [bt_and, bt_not _ (by omega), Bool.and_eq_true, Bool.not_eq_true'] at h3
        exact Or.inr ⟨i, by omega, rfl, h3.1, h3.2⟩
theorem best_spec {R C K : Nat} {fi di li : Int32} (hK : K ≤ 25) : F_X4_bestDiode R C K fi di li = -1 ∨ ∃ k, k < K ∧ F_X4_bestDiode R C K fi di li = nI k ∧ bt fi k = true ∧ bt di k = false :=
  bestI hK K 0 (-1, -1) (by omega) (Or.inl rfl)
theorem seen_is {R C K : Nat} {fi di li x : Int32} (h : ¬ F_X3_isSet K x = 0) : F_X4_seen R C K fi di li x = F_X3_seenIf R C fi di li x := by unfold F_X4_seen; rw [if_neg h]
theorem help_is {R C K : Nat} {di li : Int32} {i : Nat} (hK : K ≤ 25) (hi : i < K) : F_X4_wouldHelp R C K di li (nI i) = F_X3_leastKeys R C K li (di ||| ((1 : Int32) <<< ((nI i) &&& 31))) := by
  unfold F_X4_wouldHelp; rw [if_neg ((hasKey_iff hK _).mpr ⟨i, hi, rfl⟩)]
theorem tc : ∀ k : Nat, k < 25 → (nI k).toNatClampNeg = k := by decide +kernel
theorem ghost_is {cl : Int32} {R C K : Nat} {fi di li : Int32} {i : Nat} (hK : K ≤ 25) (hi : i < K) : F_X4_wouldGhost cl R C K fi di li (nI i) = F_X4_ghostsWith cl R C fi di li i := by
  unfold F_X4_wouldGhost; rw [if_neg ((hasKey_iff hK _).mpr ⟨i, hi, rfl⟩), tc i (by omega)]
theorem clear_ghost {cl : Int32} {R C : Nat} {fi di br li : Int32} (hR : R ≤ 5) (hC : C ≤ 5) (hL : Live R C fi br li) (h : F_X3_isClear R C (R * C) fi di li = 1) (i : Nat) : F_X4_ghostsWith cl R C fi di li i = 0 := by
  have hK : R * C ≤ 25 := Nat.mul_le_mul hR hC
  unfold F_X4_ghostsWith
  by_cases h1 : F_X4_holds fi (nI i) = 0
  · rw [if_pos h1]
  · rw [if_neg h1]
    have h2 := clear_exact hR hC hK hL.1 hL.2.1 h (cl ||| ((1 : Int32) <<< ((nI i) &&& 31)))
    unfold F_X3_isExact at h2
    unfold F_X3_ghostsIf
    by_cases h3 : (F_X3_seenIf R C fi di li (cl ||| ((1 : Int32) <<< ((nI i) &&& 31)))) &&& ((cl ||| ((1 : Int32) <<< ((nI i) &&& 31))) ^^^ (-1)) = 0
    · exact h3
    · rw [if_neg h3] at h2; exact absurd rfl h2
theorem or_mono {di : Int32} {i : Nat} : ∀ j, bt di j = true → bt (di ||| ((1 : Int32) <<< ((nI i) &&& 31))) j = true := by
  intro j h; rw [bt_or, h]; rfl
theorem half_mono {R C : Nat} {fi di li x : Int32} {i : Nat} (hR : R ≤ 5) (hC : C ≤ 5) : (F_X3_seenIf R C fi di li x) &&& ((F_X3_seenIf R C fi di li (x ||| ((1 : Int32) <<< ((nI i) &&& 31)))) ^^^ (-1)) = 0 := by
  rw [bt_zero]
  intro j hj
  rw [bt_and, bt_not _ hj]
  cases hb : bt (F_X3_seenIf R C fi di li x) j with
  | false => rfl
  | true => rw [seenIf_mono hR hC (fun j h _ => or_mono j h) hj hb]; rfl
