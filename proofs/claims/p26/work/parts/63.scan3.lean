theorem scan_ok {sc : Nat} {pa gu cl se : Int32} {R C : Nat} {fi di li he lu dn ea lo : Int32} {Ch : Nat} {ct ml : Int32} {n cap : Nat} {fY fS fN fCn fE fLE fC fG fI fK fL fQ : Nat → Int32} {x1 : Int32} (hK : R * C ≤ 25) (hpa : 0 ≤ pa) (hcd : ∀ j, j < 75 → ∃ c : Nat, c ≤ 31 ∧ fC j = nI c) (hB : okB n cap fY) (hsc : sc ≤ 2000) (hE : EVI (R * C) (fun _ => sc) sc fE dn ea fG fLE) :
    (E_X4_scan sc x1 ≠ 0 ∧ (F_X4_scan sc pa gu cl se R C (R * C) fi di li he lu dn ea lo Ch ct ml n cap fY fS fN fCn fE fLE fC fG fI fK fL fQ x1).2 = (sc, cl, se, fN, lu, fCn, fE, fLE, dn, ea, fG, fI, lo, ml, n, cap, fY, fQ, ct)) ∨ ∃ m, 0 < m ∧ sc + m ≤ 2000 ∧ m ≤ 50 ∧ SC R C fi di li pa Ch sc lo ct m (F_X4_scan sc pa gu cl se R C (R * C) fi di li he lu dn ea lo Ch ct ml n cap fY fS fN fCn fE fLE fC fG fI fK fL fQ x1).2 ∧ okB (F_X4_scan sc pa gu cl se R C (R * C) fi di li he lu dn ea lo Ch ct ml n cap fY fS fN fCn fE fLE fC fG fI fK fL fQ x1).2.2.2.2.2.2.2.2.2.2.2.2.2.2.2.1 (F_X4_scan sc pa gu cl se R C (R * C) fi di li he lu dn ea lo Ch ct ml n cap fY fS fN fCn fE fLE fC fG fI fK fL fQ x1).2.2.2.2.2.2.2.2.2.2.2.2.2.2.2.2.1 (F_X4_scan sc pa gu cl se R C (R * C) fi di li he lu dn ea lo Ch ct ml n cap fY fS fN fCn fE fLE fC fG fI fK fL fQ x1).2.2.2.2.2.2.2.2.2.2.2.2.2.2.2.2.2.1 := by
  unfold F_X4_scan
  by_cases h1 : x1 < 1
  · rw [if_pos h1]; exact Or.inl ⟨by unfold E_X4_scan; rw [if_pos h1]; decide, rfl⟩
  · rw [if_neg h1]
    by_cases h2 : x1 ≤ 50
    · rw [if_pos h2]
      obtain ⟨e1, e2⟩ := sc_ok h1 h2
      by_cases h3 : nI sc + x1 ≤ 2000
      · rw [if_pos h3]
        refine Or.inr ⟨x1.toNatClampNeg, ?_, ?_, e2, ?_, ?_⟩
        · rcases Nat.eq_zero_or_pos x1.toNatClampNeg with q | q
          · rw [q] at e1; rw [e1] at h1; exact absurd (show nI 0 < 1 by decide) h1
          · exact q
        · rw [e1, show nI sc + nI x1.toNatClampNeg = nI (sc + x1.toNatClampNeg) from (Int32.ofNat_add _ _).symm, Int32.le_iff_toInt_le, nI_int (by omega)] at h3
          have e3 : (2000 : Int32).toInt = 2000 := by decide
          rw [e3] at h3
          omega
        · have h := scI (gu := gu) (fi := fi) (di := di) (li := li) (he := he) (Ch := Ch) (fS := fS) (fK := fK) (fL := fL) (s0 := sc) (lo0 := lo) (ct0 := ct) hK hpa hcd x1.toNatClampNeg 0 0 (sc, cl, se, fN, lu, fCn, fE, fLE, dn, ea, fG, fI, lo, ml, n, cap, fY, fQ, ct) ⟨rfl, hE, ⟨0, Nat.zero_le _, (Int32.add_zero _).symm⟩, ⟨0, Nat.zero_le _, (Int32.add_zero _).symm⟩, fun q => absurd q (Nat.lt_irrefl 0)⟩
          rw [Nat.zero_add] at h
          exact h
        · exact (scan_mono (pa := pa) (gu := gu) (R := R) (C := C) (K := R * C) (fi := fi) (di := di) (li := li) (he := he) (Ch := Ch) (fS := fS) (fC := fC) (fK := fK) (fL := fL) x1.toNatClampNeg 0 (sc, cl, se, fN, lu, fCn, fE, fLE, dn, ea, fG, fI, lo, ml, n, cap, fY, fQ, ct) hB).1
      · rw [if_neg h3]; exact Or.inl ⟨by unfold E_X4_scan; rw [if_neg h1, if_pos h2, if_neg h3]; decide, rfl⟩
    · rw [if_neg h2]; exact Or.inl ⟨by unfold E_X4_scan; rw [if_neg h1, if_neg h2]; decide, rfl⟩
