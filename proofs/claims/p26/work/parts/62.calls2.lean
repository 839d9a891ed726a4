theorem chord_ok {K Ch : Nat} {fK fL fQ : Nat → Int32} {x1 x2 : Int32} (hCh : Ch ≤ 6) (hlt : ∀ j, j < 6 → ∃ c : Nat, c ≤ 31 ∧ fL j = nI c) :
    (F_X4_chord K Ch fK fL fQ x1 x2).2.2.2.2 ≤ 6 ∧ ∀ j, j < 6 → ∃ c : Nat, c ≤ 31 ∧ (F_X4_chord K Ch fK fL fQ x1 x2).2.2.1 j = nI c := by
  unfold F_X4_chord F_X1_addChord
  by_cases h1 : F_X3_isSet K x1 = 0
  · rw [if_pos h1]; exact ⟨hCh, hlt⟩
  · rw [if_neg h1]
    by_cases h2 : F_J6_bitCount_0f7a4 x1 < 2
    · rw [if_pos h2]; exact ⟨hCh, hlt⟩
    · rw [if_neg h2]
      by_cases h3 : 3 < F_J6_bitCount_0f7a4 x1
      · rw [if_pos h3]; exact ⟨hCh, hlt⟩
      · rw [if_neg h3]
        by_cases h4 : x2 < 0
        · rw [if_pos h4]; exact ⟨hCh, hlt⟩
        · rw [if_neg h4]
          by_cases h5 : x2 < 26
          · rw [if_pos h5]
            by_cases h6 : nI Ch < 6
            · rw [if_pos h6]
              have h7 : Ch < 6 := by
                rw [Int32.lt_iff_toInt_lt, nI_int (by omega)] at h6
                have h8 : (6 : Int32).toInt = 6 := by decide
                rw [h8] at h6
                omega
              refine ⟨by show Ch + 1 ≤ 6; omega, fun j hj => ?_⟩
              show ∃ c : Nat, c ≤ 31 ∧ upd fL Ch x2 j = nI c
              rw [upd]
              by_cases h8 : j = Ch
              · rw [if_pos h8]
                obtain ⟨c, c1, c2⟩ := small (x := x2) (m := 26) (by decide) h4 (Int32.le_of_lt h5)
                exact ⟨c, by omega, c2⟩
              · rw [if_neg h8]; exact hlt j hj
            · rw [if_neg h6]; exact ⟨hCh, hlt⟩
          · rw [if_neg h5]; exact ⟨hCh, hlt⟩
theorem patience_ok {pa gu x1 x2 : Int32} (hp : ∃ p : Nat, p ≤ 6 ∧ pa = nI p) (hg : gu = 0 ∨ gu = 1) (hx2 : x2 = 0 ∨ x2 = 1) :
    (∃ p : Nat, p ≤ 6 ∧ (F_X4_patience pa gu x1 x2).2.1 = nI p) ∧ ((F_X4_patience pa gu x1 x2).2.2 = 0 ∨ (F_X4_patience pa gu x1 x2).2.2 = 1) := by
  unfold F_X4_patience
  by_cases h1 : x1 < 1
  · rw [if_pos h1]; exact ⟨hp, hg⟩
  · rw [if_neg h1]
    by_cases h2 : x1 ≤ 6
    · rw [if_pos h2]
      refine ⟨?_, hx2⟩
      refine small (x := x1) (m := 6) (by decide) (fun q => h1 ?_) h2
      rw [Int32.lt_iff_toInt_lt] at q ⊢
      have e0 : (0 : Int32).toInt = 0 := by decide
      have e1 : (1 : Int32).toInt = 1 := by decide
      rw [e0] at q
      rw [e1]
      omega
    · rw [if_neg h2]; exact ⟨hp, hg⟩
theorem pa_0 {pa : Int32} (hp : ∃ p : Nat, p ≤ 6 ∧ pa = nI p) : 0 ≤ pa := by
  obtain ⟨p, h1, h2⟩ := hp
  rw [h2]
  exact nI_le (Nat.zero_le p) (by omega)
