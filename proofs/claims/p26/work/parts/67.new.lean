/-- a bounded number does not fall by what is added -/
theorem grow {a d : Nat} (h : a + d < 2 ^ 31) : nI a ≤ nI a + nI d := by
  rw [show nI a + nI d = nI (a + d) from (Int32.ofNat_add _ _).symm]
  exact nI_le (Nat.le_add_right a d) h
theorem grow_of {x y : Int32} {a b d : Nat} (hx : x = nI a) (ha : a ≤ b) (hy : y = x + nI d) (h : b + d < 2 ^ 31) : x ≤ y := by
  rw [hy, hx]; exact grow (by omega)
theorem EVI_ea {K sc : Nat} {fE fG fLE : Nat → Int32} {dn ea : Int32} (h : EVI K (fun _ => sc) sc fE dn ea fG fLE) : ∃ a, a ≤ K * sc ∧ ea = nI a := by
  obtain ⟨⟨e, h1, h2⟩, -⟩ := h
  exact ⟨sm e K, sm_le K (fun k hk => (h1 k hk).2.1), h2⟩
theorem newF : ∀ (m i : Nat) (a : (Nat → Int32) × (Nat → Int32) × (Nat → Int32) × (Nat → Int32)), (∀ j, j < i → a.2.2.2 j = -1) → ∀ j, j < i + m → (itr (fun i a => S_X0_startAnew_2 i a) m i a).2.2.2 j = -1 := by
  intro m
  induction m with
  | zero => intro i a h; exact h
  | succ m ih =>
    intro i a h j hj
    refine ih (i + 1) (S_X0_startAnew_2 i a) (fun q hq => ?_) j (by omega)
    show upd a.2.2.2 i (-1) q = -1
    rw [upd]
    by_cases h1 : q = i
    · rw [if_pos h1]
    · rw [if_neg h1]; exact h q (by omega)
theorem newW : ∀ (m i : Nat) (a : (Nat → Int32) × (Nat → Int32) × (Nat → Int32)), (∀ j, j < i → a.2.1 j = 0 ∧ a.2.2 j = 0) → ∀ j, j < i + m → (itr (fun i a => S_X2_startAnew_2 i a) m i a).2.1 j = 0 ∧ (itr (fun i a => S_X2_startAnew_2 i a) m i a).2.2 j = 0 := by
  intro m
  induction m with
  | zero => intro i a h; exact h
  | succ m ih =>
    intro i a h j hj
    refine ih (i + 1) (S_X2_startAnew_2 i a) (fun q hq => ?_) j (by omega)
    show upd a.2.1 i 0 q = 0 ∧ upd a.2.2 i 0 q = 0
    rw [upd, upd]
    by_cases h1 : q = i
    · rw [if_pos h1, if_pos h1]; exact ⟨rfl, rfl⟩
    · rw [if_neg h1, if_neg h1]; exact h q (by omega)
theorem newG : ∀ (m i : Nat) (a : (Nat → Int32) × (Nat → Int32)), (∀ j, j < i → a.1 j = -1) → ∀ j, j < i + m → (itr (fun i a => S_X1_startAnew_40 i a) m i a).1 j = -1 := by
  intro m
  induction m with
  | zero => intro i a h; exact h
  | succ m ih =>
    intro i a h j hj
    refine ih (i + 1) (S_X1_startAnew_40 i a) (fun q hq => ?_) j (by omega)
    show upd a.1 i (-1) q = -1
    rw [upd]
    by_cases h1 : q = i
    · rw [if_pos h1]
    · rw [if_neg h1]; exact h q (by omega)
theorem newC : ∀ (m i : Nat) (a : Nat → Int32), i + m ≤ 75 → (∀ j, j < i → ∃ c : Nat, c ≤ 31 ∧ a j = nI c) → ∀ j, j < i + m → ∃ c : Nat, c ≤ 31 ∧ (itr (fun i a => S_X1_startAnew_2 i a) m i a) j = nI c := by
  intro m
  induction m with
  | zero => intro i a _ h; exact h
  | succ m ih =>
    intro i a hi h j hj
    refine ih (i + 1) (S_X1_startAnew_2 i a) (by omega) (fun q hq => ?_) j (by omega)
    unfold S_X1_startAnew_2
    by_cases h2 : 25 ≤ nI i
    · rw [if_pos h2, upd]
      by_cases h1 : q = i
      · rw [if_pos h1]; exact ⟨31, Nat.le_refl _, rfl⟩
      · rw [if_neg h1]; exact h q (by omega)
    · rw [if_neg h2, upd]
      by_cases h1 : q = i
      · rw [if_pos h1]
        refine ⟨i % 26, by have := Nat.mod_lt i (show 0 < 26 by decide); omega, ?_⟩
        rw [show (26 : Int32) = nI 26 from rfl]
        exact pk_rem (by omega) (by decide) (by decide)
      · rw [if_neg h1]; exact h q (by omega)
/-- a new board: no events -/
theorem EVI_new {K : Nat} {fE fG fLE : Nat → Int32} (h1 : ∀ j, j < K → fE j = 0) (h2 : ∀ j, j < K → fG j = -1) (h3 : ∀ j, j < K → fLE j = 0) : EVI K (fun _ => 0) 0 fE 0 0 fG fLE := by
  refine ⟨⟨fun _ => 0, fun k hk => ⟨h1 k hk, Nat.le_refl _, by rw [bt_0]; rfl⟩, ?_⟩, fun k hk => ?_, fun k hk => ⟨0, Nat.le_refl _, h3 k hk⟩⟩
  · have : sm (fun _ => 0) K = 0 := by
      have := sm_le (e := fun _ => 0) (b := 0) K (fun _ _ => Nat.le_refl _)
      omega
    rw [this]; rfl
  · rw [bt_0, h2 k hk]; exact ⟨fun _ => rfl, fun _ => rfl⟩
