theorem cow_ea {sc : Nat} {pa gu se : Int32} {R C : Nat} {fi di li dn ea lo ml : Int32} {n cap : Nat} {fY fCn fE fLE fC fG fI : Nat → Int32} {k : Nat} : (F_X4_changeOrWait sc pa gu se R C fi di li dn ea lo ml n cap fY fCn fE fLE fC fG fI k).2.2.2.2.1 = ea ∨ (F_X4_changeOrWait sc pa gu se R C fi di li dn ea lo ml n cap fY fCn fE fLE fC fG fI k).2.2.2.2.1 = ea + 1 := by
  unfold F_X4_changeOrWait F_X2_change
  by_cases h1 : F_X4_holds dn (nI k) = 0
  · rw [if_pos h1]
    by_cases h2 : gu = 0
    · rw [if_pos h2]; exact Or.inr rfl
    · rw [if_neg h2]
      by_cases h3 : F_X4_couldBeGhost se R C fi di li k = 0
      · rw [if_pos h3]; exact Or.inr rfl
      · rw [if_neg h3]; exact Or.inl rfl
  · rw [if_neg h1]; exact Or.inr rfl
theorem skE {sc : Nat} {pa gu : Int32} {R C K : Nat} {fi di li he lu : Int32} {fS fN fC : Nat → Int32} {ea0 : Int32} {p : Nat} : ∀ (m i : Nat) (a : (Nat → Int32) × (Nat → Int32) × (Nat → Int32) × Int32 × Int32 × (Nat → Int32) × (Nat → Int32) × Int32 × Int32 × Nat × Nat × (Nat → Int32)), (∃ d, d ≤ p + i ∧ a.2.2.2.2.1 = ea0 + nI d) → ∃ d, d ≤ p + i + m ∧ (itr (fun i a => S_X4_scanOnce_52 sc pa gu R C K fi di li he lu fS fN fC i a) m i a).2.2.2.2.1 = ea0 + nI d := by
  intro m
  induction m with
  | zero => intro i a h; exact h
  | succ m ih =>
    intro i a h
    have h2 := ih (i + 1) (S_X4_scanOnce_52 sc pa gu R C K fi di li he lu fS fN fC i a) ?_
    · rw [show p + (i + 1) + m = p + i + (m + 1) by omega] at h2; exact h2
    · obtain ⟨d, g1, g2⟩ := h
      unfold S_X4_scanOnce_52
      by_cases h1 : (F_X2_isDue a.1 a.2.2.2.1 i (F_X4_holds (F_X3_seenIf R C fi di li ((F_X0_closedNow fS fN he lu fi K).1)) (nI i)) pa).1 = 0
      · rw [if_pos h1]; exact ⟨d, by omega, g2⟩
      · rw [if_neg h1]
        rcases cow_ea (sc := sc + 1) (pa := pa) (gu := gu) (se := F_X3_seenIf R C fi di li ((F_X0_closedNow fS fN he lu fi K).1)) (R := R) (C := C) (fi := fi) (di := di) (li := li) (dn := a.2.2.2.1) (ea := a.2.2.2.2.1) (lo := a.2.2.2.2.2.2.2.1) (ml := a.2.2.2.2.2.2.2.2.1) (n := a.2.2.2.2.2.2.2.2.2.1) (cap := a.2.2.2.2.2.2.2.2.2.2.1) (fY := a.2.2.2.2.2.2.2.2.2.2.2) (fCn := (F_X2_isDue a.1 a.2.2.2.1 i (F_X4_holds (F_X3_seenIf R C fi di li ((F_X0_closedNow fS fN he lu fi K).1)) (nI i)) pa).2) (fE := a.2.1) (fLE := a.2.2.1) (fC := fC) (fG := a.2.2.2.2.2.1) (fI := a.2.2.2.2.2.2.1) (k := i) with q | q
        · exact ⟨d, by omega, q.trans g2⟩
        · refine ⟨d + 1, by omega, q.trans ?_⟩
          rw [g2]; exact add_nI ea0 d 1
theorem scE {pa gu : Int32} {R C K : Nat} {fi di li he : Int32} {Ch : Nat} {fS fC fK fL : Nat → Int32} {ea0 : Int32} : ∀ (q p i : Nat) (a : Nat × Int32 × Int32 × (Nat → Int32) × Int32 × (Nat → Int32) × (Nat → Int32) × (Nat → Int32) × Int32 × Int32 × (Nat → Int32) × (Nat → Int32) × Int32 × Int32 × Nat × Nat × (Nat → Int32) × (Nat → Int32) × Int32), (∃ d, d ≤ p ∧ a.2.2.2.2.2.2.2.2.2.1 = ea0 + nI d) → ∃ d, d ≤ p + q * K ∧ (itr (fun i a => S_X4_scan_53 pa gu R C K fi di li he Ch fS fC fK fL i a) q i a).2.2.2.2.2.2.2.2.2.1 = ea0 + nI d := by
  intro q
  induction q with
  | zero => intro p i a h; rw [Nat.zero_mul]; exact h
  | succ q ih =>
    intro p i a h
    have h2 := ih (p + K) (i + 1) (S_X4_scan_53 pa gu R C K fi di li he Ch fS fC fK fL i a) ?_
    · rw [show p + K + q * K = p + (q + 1) * K by rw [Nat.add_mul, Nat.one_mul]; omega] at h2; exact h2
    · exact skE (p := p) K 0 (a.2.2.2.2.2.1, a.2.2.2.2.2.2.1, a.2.2.2.2.2.2.2.1, a.2.2.2.2.2.2.2.2.1, a.2.2.2.2.2.2.2.2.2.1, a.2.2.2.2.2.2.2.2.2.2.1, a.2.2.2.2.2.2.2.2.2.2.2.1, a.2.2.2.2.2.2.2.2.2.2.2.2.1, a.2.2.2.2.2.2.2.2.2.2.2.2.2.1, a.2.2.2.2.2.2.2.2.2.2.2.2.2.2.1, a.2.2.2.2.2.2.2.2.2.2.2.2.2.2.2.1, a.2.2.2.2.2.2.2.2.2.2.2.2.2.2.2.2.1) h
theorem scan_ea {sc : Nat} {pa gu cl se : Int32} {R C K : Nat} {fi di li he lu dn ea lo : Int32} {Ch : Nat} {ct ml : Int32} {n cap : Nat} {fY fS fN fCn fE fLE fC fG fI fK fL fQ : Nat → Int32} {x1 : Int32} (hK : K ≤ 25) : ∃ d, d ≤ 50 * 25 ∧ (F_X4_scan sc pa gu cl se R C K fi di li he lu dn ea lo Ch ct ml n cap fY fS fN fCn fE fLE fC fG fI fK fL fQ x1).2.2.2.2.2.2.2.2.2.2.1 = ea + nI d := by
  unfold F_X4_scan
  have h0 : ∃ d, d ≤ 50 * 25 ∧ ea = ea + nI d := ⟨0, Nat.zero_le _, (Int32.add_zero ea).symm⟩
  by_cases h1 : x1 < 1
  · rw [if_pos h1]; exact h0
  · rw [if_neg h1]
    by_cases h2 : x1 ≤ 50
    · rw [if_pos h2]
      obtain ⟨e1, e2⟩ := sc_ok h1 h2
      by_cases h3 : nI sc + x1 ≤ 2000
      · rw [if_pos h3]
        obtain ⟨d, d1, d2⟩ := scE (pa := pa) (gu := gu) (R := R) (C := C) (K := K) (fi := fi) (di := di) (li := li) (he := he) (Ch := Ch) (fS := fS) (fC := fC) (fK := fK) (fL := fL) (ea0 := ea) x1.toNatClampNeg 0 0 (sc, cl, se, fN, lu, fCn, fE, fLE, dn, ea, fG, fI, lo, ml, n, cap, fY, fQ, ct) ⟨0, Nat.le_refl _, (Int32.add_zero ea).symm⟩
        have hm : x1.toNatClampNeg * K ≤ 50 * 25 := Nat.mul_le_mul e2 hK
        exact ⟨d, by omega, d2⟩
      · rw [if_neg h3]; exact h0
    · rw [if_neg h2]; exact h0
