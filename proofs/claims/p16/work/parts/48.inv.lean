/-- the class's values between two calls -/
def XI (R : Nat) (C : Nat) (K : Nat) (gu : Int32) (Ch : Nat) (n : Nat) (cap : Nat) (fY : Nat → Int32) (fC : Nat → Int32) (fL : Nat → Int32) : Prop := (R ≤ 5 ∧ C ≤ 5 ∧ K ≤ 25) ∧ (gu = 0 ∨ gu = 1) ∧ Ch ≤ 6 ∧ okB n cap fY ∧ (∀ j, j < 75 → ∃ c : Nat, c ≤ 31 ∧ fC j = nI c) ∧ (∀ j, j < 6 → ∃ c : Nat, c ≤ 31 ∧ fL j = nI c)
theorem small {x : Int32} {m : Nat} (hm : m < 2 ^ 31) (h0 : ¬ x < 0) (h1 : x ≤ nI m) : ∃ c : Nat, c ≤ m ∧ x = nI c := by
  obtain ⟨j, hj, rfl⟩ := nI_of h0
  refine ⟨j, ?_, rfl⟩
  rcases Nat.lt_or_ge m j with q | q
  · exact absurd h1 (nI_ge q hj)
  · exact q

theorem code_ok {K : Nat} {fC : Nat → Int32} {x1 x2 x3 : Int32} (hcd : ∀ j, j < 75 → ∃ c : Nat, c ≤ 31 ∧ fC j = nI c) : ∀ j, j < 75 → ∃ c : Nat, c ≤ 31 ∧ (F_X4_code K fC x1 x2 x3).2 j = nI c := by
  unfold F_X4_code
  by_cases h1 : F_X3_hasKey K x2 = 0
  · rw [if_pos h1]; exact hcd
  · rw [if_neg h1]
    by_cases h2 : x1 < 0
    · rw [if_pos h2]; exact hcd
    · rw [if_neg h2]
      by_cases h3 : 3 ≤ x1
      · rw [if_pos h3]; exact hcd
      · rw [if_neg h3]
        by_cases h4 : x3 < 0
        · rw [if_pos h4]; exact hcd
        · rw [if_neg h4]
          by_cases h5 : x3 ≤ 31
          · rw [if_pos h5]
            intro j hj
            show ∃ c : Nat, c ≤ 31 ∧ upd fC _ x3 j = nI c
            rw [upd]
            by_cases h6 : j = ((x1 * 25) + x2).toNatClampNeg
            · rw [if_pos h6]; exact small (by decide) h4 h5
            · rw [if_neg h6]; exact hcd j hj
          · rw [if_neg h5]; exact hcd


theorem chord_ok {K Ch : Nat} {fK fL fQ : Nat → Int32} {x1 x2 : Int32} (hCh : Ch ≤ 6) (hlt : ∀ j, j < 6 → ∃ c : Nat, c ≤ 31 ∧ fL j = nI c) :
    (F_X4_chord K Ch fK fL fQ x1 x2).2.2.2.2 ≤ 6 ∧ ∀ j, j < 6 → ∃ c : Nat, c ≤ 31 ∧ (F_X4_chord K Ch fK fL fQ x1 x2).2.2.1 j = nI c := by
  unfold F_X4_chord F_X1_addChord
  by_cases h1 : F_X3_isSet K x1 = 0
  · rw [if_pos h1]; exact ⟨hCh, hlt⟩
  · rw [if_neg h1]
    by_cases h2 : F_J6_bitCount_0f7a4 x1 < 2
    · rw [if_pos h2]; exact ⟨hCh, hlt⟩
    · rw [if_neg h2]
      by_cases h3 : 3 < F_J6_bitCount_0f7a4 x1
      · rw [if_pos h3]; exact ⟨hCh, hlt⟩
      · rw [if_neg h3]
        by_cases h4 : x2 < 0
        · rw [if_pos h4]; exact ⟨hCh, hlt⟩
        · rw [if_neg h4]
          by_cases h5 : x2 < 26
          · rw [if_pos h5]
            by_cases h6 : nI Ch < 6
            · rw [if_pos h6]
              have h7 : Ch < 6 := by
                rw [Int32.lt_iff_toInt_lt, nI_toInt (by omega)] at h6
                have h8 : (6 : Int32).toInt = 6 := by decide
                rw [h8] at h6
                omega
              refine ⟨by show Ch + 1 ≤ 6; omega, fun j hj => ?_⟩
              show ∃ c : Nat, c ≤ 31 ∧ upd fL Ch x2 j = nI c
              rw [upd]
              by_cases h8 : j = Ch
              · rw [if_pos h8]
                obtain ⟨c, c1, c2⟩ := small (x := x2) (m := 26) (by decide) h4 (Int32.le_of_lt h5)
                exact ⟨c, by omega, c2⟩
              · rw [if_neg h8]; exact hlt j hj
            · rw [if_neg h6]; exact ⟨hCh, hlt⟩
          · rw [if_neg h5]; exact ⟨hCh, hlt⟩

theorem newC : ∀ (m i : Nat) (a : Nat → Int32), i + m ≤ 75 → (∀ j, j < i → ∃ c : Nat, c ≤ 31 ∧ a j = nI c) → ∀ j, j < i + m → ∃ c : Nat, c ≤ 31 ∧ (itr (fun i a => S_X1_startAnew_2 i a) m i a) j = nI c := by
  intro m
  induction m with
  | zero => intro i a _ h; exact h
  | succ m ih =>
    intro i a hi h j hj
    refine ih (i + 1) (S_X1_startAnew_2 i a) (by omega) (fun q hq => ?_) j (by omega)
    unfold S_X1_startAnew_2
    by_cases h2 : 25 ≤ nI i
    · rw [if_pos h2, upd]
      by_cases h1 : q = i
      · rw [if_pos h1]; exact ⟨31, Nat.le_refl _, rfl⟩
      · rw [if_neg h1]; exact h q (by omega)
    · rw [if_neg h2, upd]
      by_cases h1 : q = i
      · rw [if_pos h1]
        refine ⟨i % 26, by have := Nat.mod_lt i (show 0 < 26 by decide); omega, ?_⟩
        rw [show (26 : Int32) = nI 26 from rfl]
        exact pk_rem (by omega) (by decide) (by decide)
      · rw [if_neg h1]; exact h q (by omega)

theorem xi_patience {pa : Int32} {gu : Int32} {x1 : Int32} {x2 : Int32} {R : Nat} {C : Nat} {K : Nat} {Ch : Nat} {n : Nat} {cap : Nat} {fY : Nat → Int32} {fC : Nat → Int32} {fL : Nat → Int32} (h : XI R C K gu Ch n cap fY fC fL) (hx2 : x2 = 0 ∨ x2 = 1) : XI R C K ((F_L_patience pa gu x1 x2).2) Ch n cap fY fC fL := by
  refine ⟨h.1, ?_, h.2.2⟩
  unfold F_L_patience F_X4_patience
  (repeat' split) <;> first | exact h.2.1 | exact hx2

theorem xi_code {K : Nat} {fC : Nat → Int32} {x1 : Int32} {x2 : Int32} {x3 : Int32} {R : Nat} {C : Nat} {gu : Int32} {Ch : Nat} {n : Nat} {cap : Nat} {fY : Nat → Int32} {fL : Nat → Int32} (h : XI R C K gu Ch n cap fY fC fL) : XI R C K gu Ch n cap fY (F_L_code K fC x1 x2 x3) fL := by
  refine ⟨h.1, h.2.1, h.2.2.1, h.2.2.2.1, ?_, h.2.2.2.2.2⟩
  unfold F_L_code
  split
  · exact code_ok h.2.2.2.2.1
  · first | exact h.2.2.2.2.1 | (split <;> exact h.2.2.2.2.1)

theorem xi_chord {K : Nat} {Ch : Nat} {fK : Nat → Int32} {fL : Nat → Int32} {fQ : Nat → Int32} {x1 : Int32} {x2 : Int32} {R : Nat} {C : Nat} {gu : Int32} {n : Nat} {cap : Nat} {fY : Nat → Int32} {fC : Nat → Int32} (h : XI R C K gu Ch n cap fY fC fL) : XI R C K gu ((F_L_chord K Ch fK fL fQ x1 x2).2.2.2) n cap fY fC ((F_L_chord K Ch fK fL fQ x1 x2).2.1) := by
  have g := chord_ok (K := K) (fK := fK) (fQ := fQ) (x1 := x1) (x2 := x2) h.2.2.1 h.2.2.2.2.2
  unfold F_L_chord
  split
  · exact ⟨h.1, h.2.1, g.1, h.2.2.2.1, h.2.2.2.2.1, g.2⟩
  · first | exact h | (split <;> exact h)

theorem scan4_ok {sc : Nat} {pa : Int32} {gu : Int32} {cl : Int32} {se : Int32} {R : Nat} {C : Nat} {K : Nat} {fi : Int32} {di : Int32} {li : Int32} {he : Int32} {lu : Int32} {dn : Int32} {ea : Int32} {lo : Int32} {Ch : Nat} {ct : Int32} {ml : Int32} {n : Nat} {cap : Nat} {fY : Nat → Int32} {fS : Nat → Int32} {fN : Nat → Int32} {fCn : Nat → Int32} {fE : Nat → Int32} {fLE : Nat → Int32} {fC : Nat → Int32} {fG : Nat → Int32} {fI : Nat → Int32} {fK : Nat → Int32} {fL : Nat → Int32} {fQ : Nat → Int32} {x1 : Int32} (h : okB n cap fY) : okB ((F_X4_scan sc pa gu cl se R C K fi di li he lu dn ea lo Ch ct ml n cap fY fS fN fCn fE fLE fC fG fI fK fL fQ x1).2.2.2.2.2.2.2.2.2.2.2.2.2.2.2.1) ((F_X4_scan sc pa gu cl se R C K fi di li he lu dn ea lo Ch ct ml n cap fY fS fN fCn fE fLE fC fG fI fK fL fQ x1).2.2.2.2.2.2.2.2.2.2.2.2.2.2.2.2.1) ((F_X4_scan sc pa gu cl se R C K fi di li he lu dn ea lo Ch ct ml n cap fY fS fN fCn fE fLE fC fG fI fK fL fQ x1).2.2.2.2.2.2.2.2.2.2.2.2.2.2.2.2.2.1) := by
  unfold F_X4_scan
  (repeat' split) <;> first | exact h | exact (scan_mono _ _ _ h).1

theorem xi_scan {sc : Nat} {pa : Int32} {gu : Int32} {cl : Int32} {se : Int32} {R : Nat} {C : Nat} {K : Nat} {fi : Int32} {di : Int32} {li : Int32} {he : Int32} {lu : Int32} {dn : Int32} {ea : Int32} {lo : Int32} {Ch : Nat} {ct : Int32} {ml : Int32} {n : Nat} {cap : Nat} {fY : Nat → Int32} {fS : Nat → Int32} {fN : Nat → Int32} {fCn : Nat → Int32} {fE : Nat → Int32} {fLE : Nat → Int32} {fC : Nat → Int32} {fG : Nat → Int32} {fI : Nat → Int32} {fK : Nat → Int32} {fL : Nat → Int32} {fQ : Nat → Int32} {x1 : Int32} (h : XI R C K gu Ch n cap fY fC fL) : XI R C K gu Ch ((F_L_scan sc pa gu cl se R C K fi di li he lu dn ea lo Ch ct ml n cap fY fS fN fCn fE fLE fC fG fI fK fL fQ x1).2.2.2.2.2.2.2.2.2.2.2.2.2.2.1) ((F_L_scan sc pa gu cl se R C K fi di li he lu dn ea lo Ch ct ml n cap fY fS fN fCn fE fLE fC fG fI fK fL fQ x1).2.2.2.2.2.2.2.2.2.2.2.2.2.2.2.1) ((F_L_scan sc pa gu cl se R C K fi di li he lu dn ea lo Ch ct ml n cap fY fS fN fCn fE fLE fC fG fI fK fL fQ x1).2.2.2.2.2.2.2.2.2.2.2.2.2.2.2.2.1) fC fL := by
  unfold F_L_scan
  split
  · exact ⟨h.1, h.2.1, h.2.2.1, scan4_ok h.2.2.2.1, h.2.2.2.2⟩
  · first | exact h | (split <;> exact h)

theorem xi_lay {sc : Nat} {pa : Int32} {gu : Int32} {cl : Int32} {se : Int32} {R : Nat} {C : Nat} {K : Nat} {fi : Int32} {di : Int32} {br : Int32} {li : Int32} {he : Int32} {dn : Int32} {ea : Int32} {lo : Int32} {Ch : Nat} {ct : Int32} {ml : Int32} {n : Nat} {fB : Nat → Int32} {fS : Nat → Int32} {fN : Nat → Int32} {fM : Nat → Int32} {fCn : Nat → Int32} {fE : Nat → Int32} {fLE : Nat → Int32} {fC : Nat → Int32} {fG : Nat → Int32} {fI : Nat → Int32} {x1 : Int32} {x2 : Int32} {cap : Nat} {fY : Nat → Int32} {fL : Nat → Int32} (h : XI R C K gu Ch n cap fY fC fL) : XI ((F_L_lay sc pa gu cl se R C K fi di br li he dn ea lo Ch ct ml n fB fS fN fM fCn fE fLE fC fG fI x1 x2).2.2.2.2.2.2.2.2.2.2.2.2.2.2.2.2.2.2.1) ((F_L_lay sc pa gu cl se R C K fi di br li he dn ea lo Ch ct ml n fB fS fN fM fCn fE fLE fC fG fI x1 x2).2.2.2.2.2.2.2.2.2.2.2.2.2.2.2.2.2.2.2.1) ((F_L_lay sc pa gu cl se R C K fi di br li he dn ea lo Ch ct ml n fB fS fN fM fCn fE fLE fC fG fI x1 x2).2.2.2.2.2.2.2.2.2.2.2.2.2.2.2.2.2.2.2.2.1) ((F_L_lay sc pa gu cl se R C K fi di br li he dn ea lo Ch ct ml n fB fS fN fM fCn fE fLE fC fG fI x1 x2).2.2.2.2.2.2.2.2.2.2.2.2.2.2.2.2.2.2.2.2.2.2.2.2.2.2.2.1) ((F_L_lay sc pa gu cl se R C K fi di br li he dn ea lo Ch ct ml n fB fS fN fM fCn fE fLE fC fG fI x1 x2).2.2.2.2.2.2.2.2.2.2.2.2.2.2.2.2.1) ((F_L_lay sc pa gu cl se R C K fi di br li he dn ea lo Ch ct ml n fB fS fN fM fCn fE fLE fC fG fI x1 x2).2.2.2.2.2.2.2.2.2.2.2.2.2.2.1) cap fY ((F_L_lay sc pa gu cl se R C K fi di br li he dn ea lo Ch ct ml n fB fS fN fM fCn fE fLE fC fG fI x1 x2).2.2.2.2.2.2.2.2.2.2.1) fL := by
  unfold F_L_lay
  by_cases h0 : E_X4_lay x1 x2 = 0
  · rw [if_pos h0]
    have h1 : ¬ F_X4_isSize x1 = 0 := fun e => by
      unfold E_X4_lay at h0
      rw [if_pos e] at h0
      exact absurd h0 (by decide)
    have h2 : ¬ F_X4_isSize x2 = 0 := fun e => by
      unfold E_X4_lay at h0
      rw [if_neg h1, if_pos e] at h0
      exact absurd h0 (by decide)
    obtain ⟨e1, a1, b1⟩ := isSize_ok h1
    obtain ⟨e2, a2, b2⟩ := isSize_ok h2
    have gC := newC 75 0 fC (by omega) (fun j hj => absurd hj (Nat.not_lt_zero _))
    refine ⟨⟨b1, b2, Nat.mul_le_mul b1 b2⟩, Or.inl rfl, ?_, ?_, ?_, h.2.2.2.2.2⟩
    · unfold F_X4_lay
      rw [if_neg h1, if_neg h2]
      exact Nat.zero_le _
    · unfold F_X4_lay
      rw [if_neg h1, if_neg h2]
      show okB (F_J4_setLength_d00df ml n 0).2 cap fY
      rw [setL0]
      exact ⟨Nat.zero_le _, Nat.zero_le _, h.2.2.2.1.2.2.1, h.2.2.2.1.2.2.2⟩
    · unfold F_X4_lay
      rw [if_neg h1, if_neg h2]
      exact fun j hj => gC j (by omega)
  · rw [if_neg h0]
    exact h
