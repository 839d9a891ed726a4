theorem odd_le : ∀ a : Nat, a < 5 → ∀ b : Nat, b < 5 → (nI (2 * a + 3) ≤ nI (2 * b + 3) ↔ a ≤ b) ∧ ¬ nI (2 * a + 3) = -1 := by decide +kernel
/-- what LEAST is after the first i keys -/
def LstP (R C : Nat) (li x2 : Int32) (i : Nat) (a : Int32) : Prop :=
  (a = -1 ∧ ∀ k, k < i → bt li k = true → ¬ Way R C li x2 k (R - 1)) ∨
  ∃ m, m < R - 1 ∧ a = nI (2 * m + 3) ∧ (∃ k, k < i ∧ bt li k = true ∧ Way R C li x2 k (m + 1)) ∧ ∀ k, k < i → bt li k = true → ¬ Way R C li x2 k m
theorem leastS {R C : Nat} {li x2 : Int32} (hR : R ≤ 5) (hC : C ≤ 5) {i : Nat} (hi : i < R * C) (a : Int32) (h : LstP R C li x2 i a) : LstP R C li x2 (i + 1) (S_X3_leastKeys_4 R C li x2 i a) := by
  have hi2 : i < 32 := Nat.lt_of_lt_of_le hi (Nat.le_trans (Nat.mul_le_mul hR hC) (by decide))
  have hstay : ∀ (P : Nat → Prop), (∀ k, k < i → bt li k = true → P k) → (bt li i = true → P i) → ∀ k, k < i + 1 → bt li k = true → P k := by
    intro P h1 h2 k hk hb
    rcases Nat.lt_succ_iff_lt_or_eq.mp hk with q | q
    · exact h1 k q hb
    · subst q; exact h2 hb
  unfold S_X3_leastKeys_4
  by_cases hl : F_X4_holds li (nI i) = 0
  · rw [if_pos hl]
    have hb := (holds_iff hi2).mp hl
    rcases h with ⟨h1, h2⟩ | ⟨m, h1, h2, ⟨k, h3, h4, h5⟩, h6⟩
    · exact Or.inl ⟨h1, hstay _ h2 (fun q => by rw [hb] at q; cases q)⟩
    · exact Or.inr ⟨m, h1, h2, ⟨k, by omega, h4, h5⟩, hstay _ h6 (fun q => by rw [hb] at q; cases q)⟩
  · rw [if_neg hl]
    have hb : bt li i = true := by
      cases hb : bt li i with
      | true => rfl
      | false => exact absurd ((holds_iff hi2).mpr hb) hl
    rcases wayRound_spec (li := li) (x2 := x2) hR hC hi with ⟨hw, hw2⟩ | ⟨j, hj, hw, hw2, hw3⟩
    · rw [if_pos hw]
      rcases h with ⟨h1, h2⟩ | ⟨m, h1, h2, ⟨k, h3, h4, h5⟩, h6⟩
      · exact Or.inl ⟨h1, hstay _ h2 (fun _ => hw2)⟩
      · exact Or.inr ⟨m, h1, h2, ⟨k, by omega, h4, h5⟩, hstay _ h6 (fun _ q => hw2 (Rch_le (by omega) q))⟩
    · rw [if_neg (by rw [hw]; exact (odd_le j (by omega) 0 (by decide)).2), hw]
      rcases h with ⟨h1, h2⟩ | ⟨m, h1, h2, ⟨k, h3, h4, h5⟩, h6⟩
      · rw [if_pos h1]
        exact Or.inr ⟨j, hj, rfl, ⟨i, by omega, hb, hw2⟩, hstay _ (fun k hk hb q => h2 k hk hb (Rch_le (by omega) q)) (fun _ => hw3)⟩
      · rw [if_neg (by rw [h2]; exact (odd_le m (by omega) 0 (by decide)).2)]
        by_cases hle : m ≤ j
        · rw [if_pos (by rw [h2]; exact (odd_le m (by omega) j (by omega)).1.mpr hle)]
          exact Or.inr ⟨m, h1, h2, ⟨k, by omega, h4, h5⟩, hstay _ h6 (fun _ q => hw3 (Rch_le hle q))⟩
        · rw [if_neg (by rw [h2]; exact fun q => hle ((odd_le m (by omega) j (by omega)).1.mp q))]
          exact Or.inr ⟨j, hj, rfl, ⟨i, by omega, hb, hw2⟩, hstay _ (fun k hk hb q => h6 k hk hb (Rch_le (by omega) q)) (fun _ => hw3)⟩
theorem leastI {R C : Nat} {li x2 : Int32} (hR : R ≤ 5) (hC : C ≤ 5) : ∀ (n i : Nat) (a : Int32), i + n = R * C → LstP R C li x2 i a → LstP R C li x2 (R * C) (itr (fun i a => S_X3_leastKeys_4 R C li x2 i a) n i a) := by
  intro n
  induction n with
  | zero =>
    intro i a hi h
    have h1 : i = R * C := by omega
    rw [← h1]; exact h
  | succ n ih =>
    intro i a hi h
    exact ih (i + 1) _ (by omega) (leastS hR hC (by omega) a h)
theorem least_spec {R C : Nat} {li x2 : Int32} (hR : R ≤ 5) (hC : C ≤ 5) : LstP R C li x2 (R * C) (F_X3_leastKeys R C (R * C) li x2) :=
  leastI hR hC (R * C) 0 (-1) (by omega) (Or.inl ⟨rfl, fun k hk => absurd hk (Nat.not_lt_zero _)⟩)
/-- the live keys are the fitted ones with no broken line -/
def Live (R C : Nat) (fi br li : Int32) : Prop := (∀ j, bt fi j = true → j < R * C) ∧ (∀ j, bt li j = true → bt fi j = true) ∧ ∀ r c, r < R → c < C → bt li (r * C + c) = (bt fi (r * C + c) && !(bt br r || bt br (R + c)))
theorem wf_imp {li : Int32} {k : Nat} (hk : k < 32) : ∀ j, bt (wf li k) j = true → bt li j = true ∧ j ≠ k := by
  intro j h
  have hj : j < 32 := by
    rcases Nat.lt_or_ge j 32 with q | q
    · exact q
    · rw [bt_big _ q] at h; cases h
  rw [wo_bt li hk hj] at h
  simp only [Bool.and_eq_true, Bool.not_eq_true', decide_eq_false_iff_not] at h
  exact h
theorem wb_get {li x2 : Int32} {k j : Nat} (h : bt (wb li k x2) j = true) : bt x2 j = false := by
  unfold wb at h
  have hj : j < 32 := by
    rcases Nat.lt_or_ge j 32 with q | q
    · exact q
    · rw [bt_big _ q] at h; cases h
  rw [bt_and, bt_not _ hj] at h
  simp only [Bool.and_eq_true, Bool.not_eq_true'] at h
  exact h.2
/-- a fitted key with a way has no broken line -/
theorem way_live {R C : Nat} {fi br li x2 : Int32} {k n : Nat} (hL : Live R C fi br li) (hk : k < R * C) (hk2 : k < 32) (hfi : bt fi k = true) (h : Way R C li x2 k n) : bt li k = true := by
  obtain ⟨m, h1, h2, h3⟩ := Rch_first n h (Way_0 (R := R) (x2 := x2) hk2)
  obtain ⟨L, rs, -, -, -, -, -, hp, ⟨c0, hc0⟩, ⟨r1, hr1⟩, -⟩ := way (key_row hk) wb_imp (m + 1) (k % C) h2 (fun i hi q => h3 (Rch_le (by omega) q))
  have hone : ∀ r c, (r, c) ∈ L → bt br r = false ∧ bt br (R + c) = false := by
    intro r c hm
    obtain ⟨g1, g2, g3, -⟩ := hp _ hm
    have g4 := (wf_imp hk2 _ g3).1
    rw [hL.2.2 r c g1 g2] at g4
    simp only [Bool.and_eq_true, Bool.not_eq_true', Bool.or_eq_false_iff] at g4
    exact g4.2
  have hc := (hp _ hr1).2.1
  have h5 := hL.2.2 (k / C) (k % C) (key_row hk) hc
  rw [key_eq, hfi, (hone _ _ hc0).1, (hone _ _ hr1).2] at h5
  exact h5
/-- no set has fewer keys and shows one that it lacks -/
theorem least_low {R C : Nat} {fi di br li x : Int32} (hR : R ≤ 5) (hC : C ≤ 5) (hL : Live R C fi br li) {k : Nat} (hk : k < 32) (h1 : bt (F_X3_seenIf R C fi di li x) k = true) (h2 : bt x k = false) :
    ∃ m, m < R - 1 ∧ F_X3_leastKeys R C (R * C) li di = nI (2 * m + 3) ∧ 2 * m + 3 ≤ cn (x &&& fi) (R * C) := by
  obtain ⟨hfi, r, hr, g1, g2, g3⟩ := (seenIf_bt hR hC hk).mp h1
  obtain ⟨g4, g5⟩ := row_of g1 g2
  rw [g5, g4] at g3
  have hkR := hL.1 k hfi
  have hno : ¬ bas C (T_X3_seenIf_6 li x) (k / C) (k % C) := by
    rintro ⟨-, q⟩
    rw [key_eq, T6_bt, h2] at q
    cases q
  obtain ⟨m, -, h3, h4⟩ := Rch_first R g3 hno
  obtain ⟨L, rs, hN, hlen, -, -, -, hp, -⟩ := way (key_row hkR) (fun j hj => by obtain ⟨a, b, -⟩ := T15_imp hj; rw [T6_bt, a, b]; rfl) (m + 1) (k % C) h3 (fun i hi q => h4 (Rch_le (by omega) q))
  have hcn : 2 * m + 3 ≤ cn (x &&& fi) (R * C) := by
    have h5 := cn_ge (x &&& fi) (R * C) (L.map (fun p => p.1 * C + p.2)) (nodup_keys L hN (fun p hq => (hp p hq).2.1)) (fun y hy => by
      obtain ⟨p, hp1, hp2⟩ := List.mem_map.mp hy
      obtain ⟨-, -, g6, -⟩ := hp p hp1
      have hp3 : p.1 * C + p.2 = y := hp2
      rw [hp3, T6_bt, Bool.and_eq_true] at g6
      have g7 := hL.2.1 y g6.2
      exact ⟨hL.1 y g7, by rw [bt_and, g6.1, g7]; rfl⟩)
    rw [List.length_map, hlen] at h5
    omega
  have hxk : ∀ j, bt (T_X3_seenIf_6 li x) j = true → bt (wf li k) j = true := by
    intro j hj
    have hj2 : j < 32 := by
      rcases Nat.lt_or_ge j 32 with q | q
      · exact q
      · rw [bt_big _ q] at hj; cases hj
    rw [T6_bt, Bool.and_eq_true] at hj
    rw [wo_bt li hk hj2, hj.2]
    have h6 : j ≠ k := fun e => by rw [e, h2] at hj; cases hj.1
    simp [h6]
  have hW : Way R C li di k (m + 1) := Rch_mono hxk (fun j hj => by
    have hj2 : j < 32 := by
      rcases Nat.lt_or_ge j 32 with q | q
      · exact q
      · rw [bt_big _ q] at hj; cases hj
    obtain ⟨a, b, c⟩ := T15_imp hj
    have h7 := hxk j (by rw [T6_bt, a, b]; rfl)
    unfold wb
    rw [bt_and, bt_not _ hj2, c]
    have h8 : bt (wo li k) j = true := h7
    rw [h8]; rfl) (fun j hj => ⟨hj.1, hxk _ hj.2⟩) (m + 1) _ h3
  have hlk := way_live hL hkR hk hfi hW
  rcases least_spec (li := li) (x2 := di) hR hC with ⟨-, h9⟩ | ⟨m', h9, h10, -, h11⟩
  · exact absurd (Way_short hkR hk hW) (h9 k hkR hlk)
  · refine ⟨m', h9, h10, ?_⟩
    have h12 := h11 k hkR hlk
    have h13 : m' ≤ m := by
      rcases Nat.lt_or_ge m m' with q | q
      · exact absurd (Rch_le (by omega) hW) h12
      · exact q
    omega
/-- and some set of just so many keys does -/
theorem least_is {R C : Nat} {fi di br li : Int32} (hR : R ≤ 5) (hC : C ≤ 5) (hL : Live R C fi br li) {m : Nat} (hm : m < R - 1) (h : F_X3_leastKeys R C (R * C) li di = nI (2 * m + 3)) :
    ∃ i, i < 2 ^ (R * C) ∧ (∃ k, k < 32 ∧ bt (F_X3_seenIf R C fi di li (nI i)) k = true ∧ bt (nI i) k = false) ∧ cn (nI i &&& fi) (R * C) = 2 * m + 3 := by
  have hK : R * C ≤ 25 := Nat.mul_le_mul hR hC
  rcases least_spec (li := li) (x2 := di) hR hC with ⟨h9, -⟩ | ⟨m', h9, h10, ⟨k, hkR, hlk, hW⟩, h11⟩
  · rw [h] at h9
    exact absurd h9 (odd_le m (by omega) 0 (by decide)).2
  · have hmm : m' = m := by
      rw [h] at h10
      have a1 := (odd_le m (by omega) m' (by omega)).1.mp (by rw [h10]; exact Int32.le_refl _)
      have a2 := (odd_le m' (by omega) m (by omega)).1.mp (by rw [h10]; exact Int32.le_refl _)
      omega
    subst hmm
    have hk2 : k < 32 := by omega
    obtain ⟨L, rs, hN, hlen, -, -, -, hp, -, -, hway⟩ := way (key_row hkR) wb_imp (m' + 1) (k % C) hW (fun i hi q => h11 k hkR hlk (Rch_le (by omega) q))
    have hkeys : ∀ y, y ∈ L.map (fun p => p.1 * C + p.2) → bt li y = true ∧ y ≠ k ∧ y < R * C := by
      intro y hy
      obtain ⟨p, hp1, hp2⟩ := List.mem_map.mp hy
      obtain ⟨-, -, g6, -⟩ := hp p hp1
      have hp3 : p.1 * C + p.2 = y := hp2
      rw [hp3] at g6
      obtain ⟨a, b⟩ := wf_imp hk2 y g6
      exact ⟨a, b, hL.1 y (hL.2.1 y a)⟩
    have hmk := mk_bt (L.map (fun p => p.1 * C + p.2)) (fun y hy => by have := (hkeys y hy).2.2; omega)
    obtain ⟨i, hi, hi2⟩ := set_nat hK (y := mk (L.map (fun p => p.1 * C + p.2))) (fun j hj => by
      have hj2 : j < 32 := by
        rcases Nat.lt_or_ge j 32 with q | q
        · exact q
        · rw [bt_big _ q] at hj; cases hj
      exact (hkeys j ((hmk j hj2).mp hj)).2.2)
    refine ⟨i, hi, ⟨k, hk2, ?_, ?_⟩, ?_⟩
    · rw [hi2, seenIf_bt hR hC hk2]
      have h2 := key_eq C k
      have hC1 : 0 < C := by
        rcases Nat.eq_zero_or_pos C with q | q
        · rw [q, Nat.mul_zero] at hkR; omega
        · exact q
      have h3 := Nat.mod_lt k hC1
      refine ⟨hL.2.1 k hlk, k / C, key_row hkR, by omega, by omega, ?_⟩
      rw [show k - k / C * C = k % C by omega]
      have hin : ∀ p ∈ L, bt (mk (L.map (fun p => p.1 * C + p.2))) (p.1 * C + p.2) = true ∧ bt li (p.1 * C + p.2) = true ∧ p.1 * C + p.2 < 32 := by
        intro p hp1
        have hm1 : p.1 * C + p.2 ∈ L.map (fun p => p.1 * C + p.2) := List.mem_map.mpr ⟨p, hp1, rfl⟩
        obtain ⟨a, -, b⟩ := hkeys _ hm1
        exact ⟨(hmk _ (by omega)).mpr hm1, a, by omega⟩
      have h4 := hway (T_X3_seenIf_6 li (mk (L.map (fun p => p.1 * C + p.2)))) (T_X3_seenIf_15 di li (mk (L.map (fun p => p.1 * C + p.2)))) (fun p hp1 => by
        obtain ⟨a, b, c⟩ := hin p hp1
        rw [T6_bt, a, b]; rfl) (fun p hp1 hb => by
        obtain ⟨a, b, c⟩ := hin p hp1
        rw [T15_bt _ _ _ c, a, b, wb_get hb]; rfl)
      exact Rch_le (by omega) h4
    · rw [hi2]
      cases hb : bt (mk (L.map (fun p => p.1 * C + p.2))) k with
      | false => rfl
      | true => exact absurd rfl (hkeys k ((hmk k hk2).mp hb)).2.1
    · rw [hi2]
      have hnd := nodup_keys L hN (fun p hq => (hp p hq).2.1)
      have a1 := cn_ge (mk (L.map (fun p => p.1 * C + p.2)) &&& fi) (R * C) _ hnd (fun y hy => by
        obtain ⟨a, -, b⟩ := hkeys y hy
        exact ⟨b, by rw [bt_and, (hmk y (by omega)).mpr hy, hL.2.1 y a]; rfl⟩)
      have a2 := cn_up (mk (L.map (fun p => p.1 * C + p.2)) &&& fi) (R * C) _ hnd (fun y hy hb => by
        rw [bt_and, Bool.and_eq_true] at hb
        exact (hmk y (by omega)).mp hb.1)
      rw [List.length_map, hlen] at a1 a2
      omega
/-- a clear board has no LEAST, another one has -/
theorem least_clear {R C : Nat} {fi di br li : Int32} (hR : R ≤ 5) (hC : C ≤ 5) (hL : Live R C fi br li) (h : F_X3_isClear R C (R * C) fi di li = 1) : F_X3_leastKeys R C (R * C) li di = -1 := by
  have hK : R * C ≤ 25 := Nat.mul_le_mul hR hC
  rcases least_spec (li := li) (x2 := di) hR hC with ⟨h9, -⟩ | ⟨m', h9, h10, ⟨k, hkR, hlk, hW⟩, h11⟩
  · exact h9
  · have h1 := (shown_iff (di := di) hR hC hkR hL.2.1).mpr ⟨hL.2.1 k hlk, Rch_le (by omega) hW⟩
    rw [(clear_iff hK).mp h k hkR] at h1
    cases h1
theorem least_unclear {R C : Nat} {fi di br li : Int32} (hR : R ≤ 5) (hC : C ≤ 5) (hL : Live R C fi br li) (h : F_X3_isClear R C (R * C) fi di li = 0) : ∃ m, m < R - 1 ∧ F_X3_leastKeys R C (R * C) li di = nI (2 * m + 3) := by
  have hK : R * C ≤ 25 := Nat.mul_le_mul hR hC
  obtain ⟨k, hk, h1⟩ := unclear_shown hR hC hK h
  have hk2 : k < 32 := by omega
  obtain ⟨m, h2, h3, -⟩ := least_low hR hC hL hk2 h1 (by rw [wo_bt fi hk2 hk2]; simp)
  exact ⟨m, h2, h3⟩
