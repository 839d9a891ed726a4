theorem WI_lay {R C : Nat} {he dn ea lo : Int32} {Ch : Nat} {ct ml : Int32} {n cap : Nat} {fY fB fS fN fM fCn fE fLE fC fG fI fL : Nat → Int32} {x1 x2 : Int32} (hR : R ≤ 5) (hC : C ≤ 5) (h1 : ¬ F_X4_isSize x1 = 0) (h2 : ¬ F_X4_isSize x2 = 0) (hB : okB n cap fY) (hlt : ∀ j, j < 6 → ∃ c : Nat, c ≤ 31 ∧ fL j = nI c) :
    WI 0 0 2 0 0 R C (fitI (R * C)) 0 (fitI (R * C)) (F_X4_lay he dn ea lo Ch ct ml n fB fS fN fM fCn fE fLE fC fG fI x1 x2).2.2.2.2.2.1 (F_X4_lay he dn ea lo Ch ct ml n fB fS fN fM fCn fE fLE fC fG fI x1 x2).2.2.2.2.2.2.2.2.2.1 (F_X4_lay he dn ea lo Ch ct ml n fB fS fN fM fCn fE fLE fC fG fI x1 x2).2.2.2.2.2.2.2.2.2.2.1 (F_X4_lay he dn ea lo Ch ct ml n fB fS fN fM fCn fE fLE fC fG fI x1 x2).2.2.2.2.2.2.2.2.2.2.2.2.2.2.2.2.1 (F_X4_lay he dn ea lo Ch ct ml n fB fS fN fM fCn fE fLE fC fG fI x1 x2).2.2.2.2.2.2.2.2.2.2.2.2.2.2.2.2.2.1 (F_X4_lay he dn ea lo Ch ct ml n fB fS fN fM fCn fE fLE fC fG fI x1 x2).2.2.2.2.2.2.2.2.2.2.2.2.2.2.2.2.2.2 0 (F_X4_lay he dn ea lo Ch ct ml n fB fS fN fM fCn fE fLE fC fG fI x1 x2).2.2.2.2.2.2.2.2.2.2.2.2.2.2.2.1 cap fY (F_X4_lay he dn ea lo Ch ct ml n fB fS fN fM fCn fE fLE fC fG fI x1 x2).2.2.2.2.1 (F_X4_lay he dn ea lo Ch ct ml n fB fS fN fM fCn fE fLE fC fG fI x1 x2).2.2.2.2.2.2.2.1 (F_X4_lay he dn ea lo Ch ct ml n fB fS fN fM fCn fE fLE fC fG fI x1 x2).2.2.2.2.2.2.2.2.1 (F_X4_lay he dn ea lo Ch ct ml n fB fS fN fM fCn fE fLE fC fG fI x1 x2).2.2.2.2.2.2.2.2.2.2.2.1 (F_X4_lay he dn ea lo Ch ct ml n fB fS fN fM fCn fE fLE fC fG fI x1 x2).2.2.2.2.2.2.2.2.2.2.2.2.1 fL := by
  have hK : R * C ≤ 25 := Nat.mul_le_mul hR hC
  unfold F_X4_lay
  rw [if_neg h1, if_neg h2]
  have gF := newF 25 0 (fB, fS, fN, fM) (fun j hj => absurd hj (Nat.not_lt_zero _))
  have gW := newW 25 0 (fCn, fE, fLE) (fun j hj => absurd hj (Nat.not_lt_zero _))
  have gG := newG 25 0 (fG, fI) (fun j hj => absurd hj (Nat.not_lt_zero _))
  have gC := newC 75 0 fC (by omega) (fun j hj => absurd hj (Nat.not_lt_zero _))
  have hq : (F_J4_setLength_d00df ml n 0).2 = 0 := by
    unfold F_J4_setLength_d00df F_J5_setLength_d00df
    by_cases q : nI n ≤ nI 0
    · rw [if_pos q]
    · rw [if_neg q]
  refine ⟨⟨hR, hC, anew_Live hR hC, fun j hj => ?_, fun j hj => ?_⟩, ⟨?_, Nat.zero_le _, ?_, fun j hj => Or.inl (gF j (by omega))⟩, ⟨⟨2, by decide, rfl⟩, Or.inl rfl, Nat.zero_le _, fun j hj => gC j (by omega), hlt⟩, ⟨0, Nat.zero_le _, rfl⟩, ⟨0, Nat.zero_le _, rfl⟩, 0, Nat.le_refl _, rfl⟩
  · have hj2 : bt 0 j = true := hj
    rw [bt_0] at hj2; cases hj2
  · rw [bt_0] at hj; cases hj
  · show okB (F_J4_setLength_d00df ml n 0).2 cap fY
    rw [hq]
    exact ⟨Nat.zero_le _, Nat.zero_le _, hB.2.2.1, hB.2.2.2⟩
  · exact EVI_new (fun j hj => (gW j (by omega)).1) (fun j hj => gG j (by omega)) (fun j hj => (gW j (by omega)).2)
