/-- where a scan stands after i keys -/
def SK (K : Nat) (b : Nat → Nat) (s : Nat) (pa lo0 : Int32) (i : Nat) (X : (Nat → Int32) × (Nat → Int32) × (Nat → Int32) × Int32 × Int32 × (Nat → Int32) × (Nat → Int32) × Int32 × Int32 × Nat × Nat × (Nat → Int32)) : Prop :=
  EVI K (fun j => if j < i then b j + 1 else b j) s X.2.1 X.2.2.2.1 X.2.2.2.2.1 X.2.2.2.2.2.1 X.2.2.1 ∧ (∀ j, j < i → X.1 j ≤ pa) ∧ ∃ d, d ≤ i ∧ X.2.2.2.2.2.2.2.1 = lo0 + nI d
theorem skS {sc : Nat} {pa gu : Int32} {R C K : Nat} {fi di li he lu : Int32} {fS fN fC : Nat → Int32} {b : Nat → Nat} {lo0 : Int32} (hK : K ≤ 25) (hpa : 0 ≤ pa) (hcd : ∀ j, j < 75 → ∃ c : Nat, c ≤ 31 ∧ fC j = nI c) {i : Nat} (hi : i < K) (a : (Nat → Int32) × (Nat → Int32) × (Nat → Int32) × Int32 × Int32 × (Nat → Int32) × (Nat → Int32) × Int32 × Int32 × Nat × Nat × (Nat → Int32)) (h : SK K b (sc + 1) pa lo0 i a) :
    SK K b (sc + 1) pa lo0 (i + 1) (S_X4_scanOnce_52 sc pa gu R C K fi di li he lu fS fN fC i a) := by
  obtain ⟨hE, hc, d, hd, hlo⟩ := h
  unfold S_X4_scanOnce_52
  generalize F_X4_holds (F_X3_seenIf R C fi di li ((F_X0_closedNow fS fN he lu fi K).1)) (nI i) = x
  have hdue := due (pa := pa) (dn := a.2.2.2.1) (fCn := a.1) (k := i) (x2 := x)
  have hlt : ∀ X : Nat → Int32, (∀ j, j ≠ i → X j = a.1 j) → X i ≤ pa → ∀ j, j < i + 1 → X j ≤ pa := fun X h1 h2 j hj => by
    rcases Nat.lt_succ_iff_lt_or_eq.mp hj with g | g
    · rw [h1 j (by omega)]; exact hc j g
    · rw [g]; exact h2
  by_cases h1 : (F_X2_isDue a.1 a.2.2.2.1 i x pa).1 = 0
  · rw [if_pos h1]
    refine ⟨EVI_le hE (fun j _ => ?_) (Nat.le_refl _), hlt _ hdue.1 (hdue.2 h1 hpa), d, by omega, hlo⟩
    show (if j < i then b j + 1 else b j) ≤ (if j < i + 1 then b j + 1 else b j)
    by_cases g : j < i
    · rw [if_pos g, if_pos (by omega)]; exact Nat.le_refl _
    · rw [if_neg g]
      by_cases g2 : j < i + 1
      · rw [if_pos g2]; omega
      · rw [if_neg g2]; exact Nat.le_refl _
  · rw [if_neg h1]
    have hcw := cow (gu := gu) (se := F_X3_seenIf R C fi di li ((F_X0_closedNow fS fN he lu fi K).1)) (R := R) (C := C) (fi := fi) (di := di) (li := li) (lo := a.2.2.2.2.2.2.2.1) (ml := a.2.2.2.2.2.2.2.2.1) (n := a.2.2.2.2.2.2.2.2.2.1) (cap := a.2.2.2.2.2.2.2.2.2.2.1) (fY := a.2.2.2.2.2.2.2.2.2.2.2) (fCn := (F_X2_isDue a.1 a.2.2.2.1 i x pa).2) (fI := a.2.2.2.2.2.2.1) hK hi hpa hcd hE
    obtain ⟨g1, g2, g3, g4⟩ := hcw
    refine ⟨EVI_le g1 (fun j _ => ?_) (Nat.le_refl _), hlt _ (fun j hj => (g3 j hj).trans (hdue.1 j hj)) g2, ?_⟩
    · show (if j = i then (if j < i then b j + 1 else b j) + 1 else (if j < i then b j + 1 else b j)) ≤ (if j < i + 1 then b j + 1 else b j)
      by_cases q : j = i
      · rw [if_pos q, if_neg (by omega), if_pos (by omega)]; exact Nat.le_refl _
      · rw [if_neg q]
        by_cases q2 : j < i
        · rw [if_pos q2, if_pos (by omega)]; exact Nat.le_refl _
        · rw [if_neg q2, if_neg (by omega)]; exact Nat.le_refl _
    · rcases g4 with g4 | g4
      · exact ⟨d, by omega, g4.trans hlo⟩
      · refine ⟨d + 1, by omega, g4.trans ?_⟩
        rw [hlo, Int32.add_assoc]
        exact congrArg _ (Int32.ofNat_add _ _).symm
theorem skI {sc : Nat} {pa gu : Int32} {R C K : Nat} {fi di li he lu : Int32} {fS fN fC : Nat → Int32} {b : Nat → Nat} {lo0 : Int32} (hK : K ≤ 25) (hpa : 0 ≤ pa) (hcd : ∀ j, j < 75 → ∃ c : Nat, c ≤ 31 ∧ fC j = nI c) : ∀ (m i : Nat) (a : (Nat → Int32) × (Nat → Int32) × (Nat → Int32) × Int32 × Int32 × (Nat → Int32) × (Nat → Int32) × Int32 × Int32 × Nat × Nat × (Nat → Int32)), i + m = K → SK K b (sc + 1) pa lo0 i a →
    SK K b (sc + 1) pa lo0 K (itr (fun i a => S_X4_scanOnce_52 sc pa gu R C K fi di li he lu fS fN fC i a) m i a) := by
  intro m
  induction m with
  | zero =>
    intro i a hi h
    have h1 : i = K := by omega
    subst h1; exact h
  | succ m ih =>
    intro i a hi h
    exact ih (i + 1) _ (by omega) (skS hK hpa hcd (by omega) a h)
