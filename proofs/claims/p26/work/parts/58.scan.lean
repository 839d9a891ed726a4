theorem closedI {fS : Nat → Int32} {he x1 : Int32} {K : Nat} (hK : K ≤ 25) : ∀ (m i : Nat) (a : Int32 × (Nat → Int32) × Int32), i + m = K → (∀ j, bt a.1 j = true → bt x1 j = true) → ∀ j, bt (itr (fun i a => S_X0_closedNow_5 fS he x1 i a) m i a).1 j = true → bt x1 j = true := by
  intro m
  induction m with
  | zero => intro i a _ h; exact h
  | succ m ih =>
    intro i a hi h
    refine ih (i + 1) (S_X0_closedNow_5 fS he x1 i a) (by omega) ?_
    unfold S_X0_closedNow_5
    by_cases h1 : F_X4_holds x1 (nI i) = 0
    · rw [if_pos h1]; exact h
    · rw [if_neg h1]
      by_cases h2 : (F_X0_isClosedNow fS a.2.1 he a.2.2 i).1 = 0
      · rw [if_pos h2]; exact h
      · rw [if_neg h2]
        intro j hj
        have hj2 := bt_lt hj
        have hb := (holds_1 (by omega)).mp h1
        have hj3 : bt (a.1 ||| ((1 : Int32) <<< ((nI i) &&& 31))) j = true := hj
        rw [bt_or, bt_bit (by omega) hj2, Bool.or_eq_true, decide_eq_true_eq] at hj3
        rcases hj3 with q | q
        · exact h j q
        · rw [q]; exact hb
/-- what is closed is fitted -/
theorem closed_in {fS fN : Nat → Int32} {he lu x1 : Int32} {K : Nat} (hK : K ≤ 25) : ∀ j, bt (F_X0_closedNow fS fN he lu x1 K).1 j = true → bt x1 j = true :=
  closedI hK K 0 (0, fN, lu) (by omega) (fun j h => by rw [bt_0] at h; cases h)
theorem add_nI (x : Int32) (a b : Nat) : x + nI a + nI b = x + nI (a + b) := by
  rw [Int32.add_assoc]; exact congrArg _ (Int32.ofNat_add _ _).symm
theorem chordsI {fG fI fK fL : Nat → Int32} {x1 : Int32} {ct0 lo0 : Int32} : ∀ (m i : Nat) (a : (Nat → Int32) × Int32 × Int32 × Nat × Nat × (Nat → Int32)), (∃ d, d ≤ i ∧ a.2.1 = ct0 + nI d) → (∃ d, d ≤ i ∧ a.2.2.1 = lo0 + nI d) →
    (∃ d, d ≤ i + m ∧ (itr (fun i a => S_X1_typeChords_2 fG fI fK fL x1 i a) m i a).2.1 = ct0 + nI d) ∧ (∃ d, d ≤ i + m ∧ (itr (fun i a => S_X1_typeChords_2 fG fI fK fL x1 i a) m i a).2.2.1 = lo0 + nI d) := by
  intro m
  induction m with
  | zero => intro i a h1 h2; exact ⟨h1, h2⟩
  | succ m ih =>
    intro i a h1 h2
    have h := ih (i + 1) (S_X1_typeChords_2 fG fI fK fL x1 i a) ?_ ?_
    · rw [show i + 1 + m = i + (m + 1) by omega] at h; exact h
    · obtain ⟨d, g1, g2⟩ := h1
      unfold S_X1_typeChords_2
      by_cases c1 : F_X1_isDown fG fI fK i x1 = 0
      · rw [if_pos c1]; exact ⟨d, by omega, g2⟩
      · rw [if_neg c1]
        by_cases c2 : (F_X1_isByNewEvents fI fK a.1 i).1 = 0
        · rw [if_pos c2]; exact ⟨d, by omega, g2⟩
        · rw [if_neg c2]
          refine ⟨d + 1, by omega, ?_⟩
          show a.2.1 + 1 = _
          rw [g2]; exact add_nI ct0 d 1
    · obtain ⟨d, g1, g2⟩ := h2
      unfold S_X1_typeChords_2
      by_cases c1 : F_X1_isDown fG fI fK i x1 = 0
      · rw [if_pos c1]; exact ⟨d, by omega, g2⟩
      · rw [if_neg c1]
        by_cases c2 : (F_X1_isByNewEvents fI fK a.1 i).1 = 0
        · rw [if_pos c2]; exact ⟨d, by omega, g2⟩
        · rw [if_neg c2]
          rcases type_lo (lo := a.2.2.1) (n := a.2.2.2.1) (cap := a.2.2.2.2.1) (fY := a.2.2.2.2.2) (x1 := ((97 + (fL i)).toUInt32 % 65536).toInt32) with q | q
          · exact ⟨d, by omega, q.trans g2⟩
          · refine ⟨d + 1, by omega, q.trans ?_⟩
            rw [g2]; exact add_nI lo0 d 1
theorem chords_lo {lo : Int32} {Ch : Nat} {ct : Int32} {fG fI fK fL fQ : Nat → Int32} {n cap : Nat} {fY : Nat → Int32} {x1 : Int32} : (∃ d, d ≤ Ch ∧ (F_X1_typeChords lo Ch ct fG fI fK fL fQ n cap fY x1).2.1 = ct + nI d) ∧ (∃ d, d ≤ Ch ∧ (F_X1_typeChords lo Ch ct fG fI fK fL fQ n cap fY x1).2.2.1 = lo + nI d) := by
  have h := chordsI (fG := fG) (fI := fI) (fK := fK) (fL := fL) (x1 := x1) (ct0 := ct) (lo0 := lo) Ch 0 (fQ, ct, lo, n, cap, fY) ⟨0, Nat.le_refl _, (Int32.add_zero ct).symm⟩ ⟨0, Nat.le_refl _, (Int32.add_zero lo).symm⟩
  rw [Nat.zero_add] at h
  exact h
