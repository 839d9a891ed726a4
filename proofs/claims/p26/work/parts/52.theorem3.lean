/-- a set shows a key it lacks -/
def Gh (R C : Nat) (fi di li : Int32) (i : Nat) : Prop := ∃ k, k < 32 ∧ bt (F_X3_seenIf R C fi di li (nI i)) k = true ∧ bt (nI i) k = false
theorem Gh_iff {R C : Nat} {fi di li : Int32} {i : Nat} : Gh R C fi di li i ↔ ¬ (F_X3_seenIf R C fi di li (nI i)) &&& ((nI i) ^^^ (-1)) = 0 := by
  rw [show Gh R C fi di li i ↔ F_X3_isExact R C fi di li (nI i) = 0 from exact_iff.symm]
  unfold F_X3_isExact
  by_cases h : (F_X3_seenIf R C fi di li (nI i)) &&& ((nI i) ^^^ (-1)) = 0
  · rw [if_pos h]; exact ⟨fun q => absurd q (by decide), fun q => absurd h q⟩
  · rw [if_neg h]; exact ⟨fun _ => h, fun _ => rfl⟩
/-- what the law's loop over sets has found -/
def Ps (R C : Nat) (fi di li : Int32) (i : Nat) (a : Int32) : Prop :=
  (F_X3_isClear R C (R * C) fi di li = 1 ∧ a = 0) ∨ (F_X3_isClear R C (R * C) fi di li = 0 ∧ (a = 0 ∨ a = 1) ∧ ∀ m, m < R - 1 → F_X3_leastKeys R C (R * C) li di = nI (2 * m + 3) → (∃ j, j < i ∧ Gh R C fi di li j ∧ cn ((nI j) &&& fi) (R * C) = 2 * m + 3) → a = 1)
set_option maxHeartbeats 2000000 in
theorem th43 {sc : Nat} {pa : Int32} {gu : Int32} {cl : Int32} {se : Int32} {rf : Int32} {R : Nat} {C : Nat} {fi : Int32} {di : Int32} {br : Int32} {li : Int32} {he : Int32} {lu : Int32} {dn : Int32} {ea : Int32} {lo : Int32} {Ch : Nat} {ct : Int32} {n : Nat} {fY : Nat → Int32} {fB : Nat → Int32} {fS : Nat → Int32} {fN : Nat → Int32} {fM : Nat → Int32} {fCn : Nat → Int32} {fE : Nat → Int32} {fLE : Nat → Int32} {fG : Nat → Int32} (hR : R ≤ 5) (hC : C ≤ 5) (hL : Live R C fi br li) : ∀ (q i : Nat) (a : Int32), i + q = 2 ^ (R * C) → Ps R C fi di li i a → L_L_isTheorem_43 sc pa gu cl se rf R C (R * C) fi di br li he lu dn ea lo Ch ct n fY fB fS fN fM fCn fE fLE fG q i a = 1 := by
  have hK : R * C ≤ 25 := Nat.mul_le_mul hR hC
  have hK2 := (shl_K (R * C) hK).2
  intro q
  induction q with
  | zero =>
    intro i a hi h
    rw [L_L_isTheorem_43, board_8, board_9, th191 hR hC hL (R * C) 0 () (by omega)]
    rcases h with ⟨h1, h2⟩ | ⟨h1, h2, h3⟩
    · rw [h1, h2, least_clear hR hC hL h1]; decide
    · obtain ⟨m, h4, h5⟩ := least_unclear hR hC hL h1
      obtain ⟨j, h6, h7, h8⟩ := least_is hR hC hL h4 h5
      rw [h3 m h4 h5 ⟨j, by omega, h7, h8⟩, h1, h5, if_neg (show ¬ (if F_X4_oneIf 0 = 1 then (1 : Int32) else 0) = 1 by decide), if_neg (odd_le m (by omega) 0 (by decide)).2, if_pos (by decide)]
  | succ q ih =>
    intro i a hi h
    have hset : ¬ F_X3_isSet (R * C) (nI i) = 0 := (isSet_bits hK _).mpr (nat_bt hK (by omega))
    have hex : F_X4_exact R C (R * C) fi di li (nI i) = F_X3_isExact R C fi di li (nI i) := by unfold F_X4_exact; rw [if_neg hset]
    rw [L_L_isTheorem_43, board_8, board_9, seen_is hset, hex, cnt_eq hK]
    by_cases hg : (F_X3_seenIf R C fi di li (nI i)) &&& ((nI i) ^^^ (-1)) = 0
    · rw [if_pos hg, if_pos (by unfold F_X3_isExact; rw [if_pos hg])]
      have ha : a ||| 0 = a := Int32.or_zero
      rw [ha]
      refine ih (i + 1) a (by omega) ?_
      rcases h with ⟨h1, h2⟩ | ⟨h1, h2, h3⟩
      · exact Or.inl ⟨h1, h2⟩
      · refine Or.inr ⟨h1, h2, fun m g1 g2 => ?_⟩
        rintro ⟨j, g3, g4, g5⟩
        rcases Nat.lt_succ_iff_lt_or_eq.mp g3 with g6 | g6
        · exact h3 m g1 g2 ⟨j, g6, g4, g5⟩
        · subst g6; exact absurd hg (Gh_iff.mp g4)
    · have hgh := Gh_iff.mpr hg
      rw [if_neg hg, if_pos (by unfold F_X3_isExact; rw [if_neg hg])]
      obtain ⟨k, k1, k2, k3⟩ := hgh
      rcases h with ⟨h1, h2⟩ | ⟨h1, h2, h3⟩
      · exact absurd (exact_iff.mpr ⟨k, k1, k2, k3⟩) (clear_exact hR hC hK hL.1 hL.2.1 h1 _)
      · obtain ⟨m, m1, m2, m3⟩ := least_low hR hC hL k1 k2 k3
        have hcn : cn ((nI i) &&& fi) (R * C) ≤ 25 := Nat.le_trans (cn_le _ _) hK
        rw [h1, if_pos (show (if F_X4_oneIf 0 = 1 then (1 : Int32) else 0) = 0 by decide), m2, if_pos (nI_le m3 (by omega))]
        by_cases he : nI (cn ((nI i) &&& fi) (R * C)) = nI (2 * m + 3)
        · rw [if_pos he]
          have ha : a ||| 1 = 1 := by
            rcases h2 with h2 | h2
            · rw [h2]; decide
            · rw [h2]; decide
          rw [ha]
          exact ih (i + 1) 1 (by omega) (Or.inr ⟨h1, Or.inr rfl, fun _ _ _ _ => rfl⟩)
        · rw [if_neg he]
          have ha : a ||| 0 = a := Int32.or_zero
          rw [ha]
          refine ih (i + 1) a (by omega) (Or.inr ⟨h1, h2, fun m' g1 g2 => ?_⟩)
          rintro ⟨j, g3, g4, g5⟩
          rcases Nat.lt_succ_iff_lt_or_eq.mp g3 with g6 | g6
          · exact h3 m' g1 g2 ⟨j, g6, g4, g5⟩
          · subst g6
            rw [g5, ← g2, ← m2] at he
            exact absurd rfl he
theorem theorem_1 {sc : Nat} {pa : Int32} {gu : Int32} {cl : Int32} {se : Int32} {rf : Int32} {R : Nat} {C : Nat} {fi : Int32} {di : Int32} {br : Int32} {li : Int32} {he : Int32} {lu : Int32} {dn : Int32} {ea : Int32} {lo : Int32} {Ch : Nat} {ct : Int32} {n : Nat} {fY : Nat → Int32} {fB : Nat → Int32} {fS : Nat → Int32} {fN : Nat → Int32} {fM : Nat → Int32} {fCn : Nat → Int32} {fE : Nat → Int32} {fLE : Nat → Int32} {fG : Nat → Int32} (hR : R ≤ 5) (hC : C ≤ 5) (hL : Live R C fi br li) : F_L_isTheorem sc pa gu cl se rf R C (R * C) fi di br li he lu dn ea lo Ch ct n fY fB fS fN fM fCn fE fLE fG (2 ^ (R * C)) = 1 := by
  have hK : R * C ≤ 25 := Nat.mul_le_mul hR hC
  unfold F_L_isTheorem
  refine th43 hR hC hL _ 0 0 (by omega) ?_
  rcases clear_01 (R := R) (C := C) (fi := fi) (di := di) (li := li) hK with h | h
  · exact Or.inr ⟨h, Or.inl rfl, fun m _ _ => by rintro ⟨j, q, -⟩; exact absurd q (Nat.not_lt_zero _)⟩
  · exact Or.inl ⟨h, rfl⟩
