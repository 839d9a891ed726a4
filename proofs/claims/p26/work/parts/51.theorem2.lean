theorem nI_ne_m1 {k : Nat} (h : k < 2 ^ 31) : ¬ nI k = -1 := by
  intro h1
  have h2 := congrArg Int32.toInt h1
  rw [nI_int h] at h2
  have h3 : ((-1 : Int32)).toInt = -1 := by decide
  rw [h3] at h2
  omega
theorem lg_self (x : Int64) : lg_cmp x x = 0 := by unfold lg_cmp; simp
theorem board_8 {sc : Nat} {pa : Int32} {gu : Int32} {rf : Int32} {R : Nat} {C : Nat} {fi : Int32} {di : Int32} {br : Int32} {li : Int32} {lu : Int32} {ea : Int32} {lo : Int32} {Ch : Nat} {ct : Int32} {fG : Nat → Int32} : F_X4_board sc pa gu rf R C (R * C) fi di br li lu ea lo Ch ct fG 8 = F_X4_oneIf (F_X3_isClear R C (R * C) fi di li) := by
  unfold F_X4_board; rw [if_neg (by decide), if_pos (by decide)]; rfl
theorem board_9 {sc : Nat} {pa : Int32} {gu : Int32} {rf : Int32} {R : Nat} {C : Nat} {fi : Int32} {di : Int32} {br : Int32} {li : Int32} {lu : Int32} {ea : Int32} {lo : Int32} {Ch : Nat} {ct : Int32} {fG : Nat → Int32} : F_X4_board sc pa gu rf R C (R * C) fi di br li lu ea lo Ch ct fG 9 = F_X3_leastKeys R C (R * C) li di := by
  unfold F_X4_board; rw [if_neg (by decide), if_pos (by decide)]; rfl
theorem of_is {R : Nat} {C : Nat} {fi : Int32} {di : Int32} {he : Int32} {dn : Int32} {fB : Nat → Int32} {fS : Nat → Int32} {fN : Nat → Int32} {fM : Nat → Int32} {fCn : Nat → Int32} {fE : Nat → Int32} {fLE : Nat → Int32} {fG : Nat → Int32} {k w : Nat} (hK : R * C ≤ 25) (hk : k < R * C) (hw : w ≤ 10) : F_X4_of (R * C) fi di he dn fB fS fN fM fCn fE fLE fG (nI k) (nI w) = F_X4_tellOf fi di he dn fB fS fN fM fCn fE fLE fG k w := by
  unfold F_X4_of
  rw [if_neg ((hasKey_iff hK _).mpr ⟨k, hk, rfl⟩), if_neg, if_pos, tc k (by omega), tc w (by omega)]
  · rw [Int32.le_iff_toInt_le, nI_int (by omega)]; show (w : Int) ≤ 10; omega
  · rw [Int32.lt_iff_toInt_lt, nI_int (by omega)]; show ¬ ((w : Int) < 0); omega
set_option maxHeartbeats 2000000 in
theorem th191 {sc : Nat} {pa : Int32} {gu : Int32} {cl : Int32} {se : Int32} {rf : Int32} {R : Nat} {C : Nat} {fi : Int32} {di : Int32} {br : Int32} {li : Int32} {he : Int32} {lu : Int32} {dn : Int32} {ea : Int32} {lo : Int32} {Ch : Nat} {ct : Int32} {n : Nat} {fY : Nat → Int32} {fB : Nat → Int32} {fS : Nat → Int32} {fN : Nat → Int32} {fM : Nat → Int32} {fCn : Nat → Int32} {fE : Nat → Int32} {fLE : Nat → Int32} {fG : Nat → Int32} (hR : R ≤ 5) (hC : C ≤ 5) (hL : Live R C fi br li) : ∀ (m i : Nat) (a : Unit), i + m = R * C → L_L_isTheorem_191 sc pa gu cl se rf R C (R * C) fi di br li he lu dn ea lo Ch ct n fY fB fS fN fM fCn fE fLE fG m i a = 1 := by
  have hK : R * C ≤ 25 := Nat.mul_le_mul hR hC
  intro m
  induction m with
  | zero =>
    intro i a _
    rw [L_L_isTheorem_191, lg_self]
    rcases best_spec (R := R) (C := C) (K := R * C) (fi := fi) (di := di) (li := li) hK with h | ⟨k, h1, h2, h3, h4⟩
    · rw [if_pos h, if_pos rfl]
    · rw [if_neg (by rw [h2]; exact nI_ne_m1 (by omega)), h2, one_bit (by omega), if_pos h3, if_neg (by decide)]
      have h5 : F_X4_of (R * C) fi di he dn fB fS fN fM fCn fE fLE fG (nI k) 1 = 0 := by
        rw [show (1 : Int32) = nI 1 from rfl, of_is hK h1 (by decide)]
        show F_X4_oneIf (F_X4_holds di (nI k)) = 0
        rw [(holds_iff (by omega)).mpr h4]; rfl
      rw [h5, if_neg (by decide), if_pos rfl]
  | succ m ih =>
    intro i a hi
    have h1 := ih (i + 1) () (by omega)
    have hhalf : ¬ F_X3_isSet (R * C) (fi >>> ((1 : Int32) &&& 31)) = 0 := (isSet_bits hK _).mpr (bits_shr hK hL.1)
    have hhalf2 : ¬ F_X3_isSet (R * C) ((fi >>> ((1 : Int32) &&& 31)) ||| ((1 : Int32) <<< ((nI i) &&& 31))) = 0 := (isSet_bits hK _).mpr (bits_or (by omega) hK (bits_shr hK hL.1))
    have h2 : ((F_X4_seen R C (R * C) fi di li (fi >>> ((1 : Int32) &&& 31))) &&& ((F_X4_seen R C (R * C) fi di li ((fi >>> ((1 : Int32) &&& 31)) ||| ((1 : Int32) <<< ((nI i) &&& 31)))) ^^^ (-1))) = 0 := by
      rw [seen_is hhalf, seen_is hhalf2]; exact half_mono hR hC
    rw [L_L_isTheorem_191, board_8, board_9, help_is hK (by omega), ghost_is hK (by omega)]
    rcases clear_01 (R := R) (C := C) (fi := fi) (di := di) (li := li) hK with h | h
    · rw [h, if_pos (show (if F_X4_oneIf 0 = 1 then (1 : Int32) else 0) = 0 by decide)]
      rcases least_mono (li := li) (x2 := di) (x2' := di ||| ((1 : Int32) <<< ((nI i) &&& 31))) hR hC or_mono with q | ⟨p, p', q1, q2, q3, q4⟩
      · rw [if_pos q, if_pos h2]; exact h1
      · rw [if_neg (by rw [q4]; exact (odd_le p' (by omega) 0 (by decide)).2), if_pos (by rw [q3, q4]; exact (odd_le p (by omega) p' (by omega)).1.mpr q1), if_pos h2]; exact h1
    · have h3 := least_clear hR hC hL h
      have h4 : F_X3_leastKeys R C (R * C) li (di ||| ((1 : Int32) <<< ((nI i) &&& 31))) = -1 := by
        rcases least_mono (li := li) (x2 := di) (x2' := di ||| ((1 : Int32) <<< ((nI i) &&& 31))) hR hC or_mono with q | ⟨p, p', q1, q2, q3, q4⟩
        · exact q
        · rw [h3] at q3
          exact absurd q3.symm (odd_le p (by omega) 0 (by decide)).2
      rw [h, if_neg (show ¬ (if F_X4_oneIf 1 = 1 then (1 : Int32) else 0) = 0 by decide), if_pos h4, if_pos (clear_ghost hR hC hL h i), if_pos h4, if_pos h2]
      exact h1
