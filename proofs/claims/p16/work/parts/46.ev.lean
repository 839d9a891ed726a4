/-! how many events a call of scan can make -/
def sumN : Nat → (Nat → Nat) → Nat
  | 0, _ => 0
  | K + 1, f => sumN K f + f K
theorem sumN_le {d : Nat} {f g : Nat → Nat} : ∀ {K : Nat}, (∀ k, k < K → f k ≤ g k + d) → sumN K f ≤ sumN K g + K * d
  | 0, _ => Nat.zero_le _
  | K + 1, h => by
    have h1 := sumN_le (K := K) (fun k hk => h k (by omega))
    have h2 := h K (by omega)
    unfold sumN
    rw [Nat.succ_mul]
    omega
theorem sumN_eq {f g : Nat → Nat} : ∀ {K : Nat}, (∀ k, k < K → f k = g k) → sumN K f = sumN K g
  | 0, _ => rfl
  | K + 1, h => by
    unfold sumN
    rw [sumN_eq (K := K) (fun k hk => h k (by omega)), h K (by omega)]
theorem sumN_add {f g : Nat → Nat} : ∀ {K : Nat}, sumN K (fun k => f k + g k) = sumN K f + sumN K g
  | 0 => rfl
  | K + 1 => by
    have h := sumN_add (f := f) (g := g) (K := K)
    show sumN K (fun k => f k + g k) + (f K + g K) = sumN K f + f K + (sumN K g + g K)
    omega
theorem sumN_b {b : Nat} {f : Nat → Nat} : ∀ {K : Nat}, (∀ k, k < K → f k ≤ b) → sumN K f ≤ K * b
  | 0, _ => Nat.zero_le _
  | K + 1, h => by
    have h1 := sumN_b (K := K) (fun k hk => h k (by omega))
    have h2 := h K (by omega)
    unfold sumN
    rw [Nat.succ_mul]
    omega
theorem sumK_N {w : KV → Nat} {V : Nat → KV} : ∀ {K : Nat}, sumK K V w = sumN K (fun k => w (V k))
  | 0 => rfl
  | K + 1 => by
    unfold sumK sumN
    rw [sumK_N (K := K)]
/-- loops that touch one key a turn -/
theorem itr_out {α : Type} {f : Nat → α → α} {g : α → Nat → KV} (h : ∀ i a, ∃ v, g (f i a) = va_up (g a) i v) : ∀ (n i : Nat) (a : α) (k : Nat), (k < i ∨ i + n ≤ k) → g (itr f n i a) k = g a k
  | 0, _, _, _, _ => rfl
  | n + 1, i, a, k, hk => by
    have h1 := itr_out h n (i + 1) (f i a) k (by omega)
    obtain ⟨v, hv⟩ := h i a
    have h2 : g (f i a) k = g a k := by
      rw [hv, va_up_ne _ _ (by omega)]
    exact h1.trans h2
theorem itr_one {α : Type} {f : Nat → α → α} {g : α → Nat → KV} (h : ∀ i a, ∃ v, g (f i a) = va_up (g a) i v) : ∀ (n i : Nat) (a : α) (k : Nat), i ≤ k → k < i + n → ∃ b, g b k = g a k ∧ g (itr f n i a) k = g (f k b) k
  | 0, _, _, _, h1, h2 => absurd h2 (by omega)
  | n + 1, i, a, k, h1, h2 => by
    by_cases e : k = i
    · subst e
      exact ⟨a, rfl, itr_out h n (k + 1) (f k a) k (by omega)⟩
    · obtain ⟨b, b1, b2⟩ := itr_one h n (i + 1) (f i a) k (by omega) (by omega)
      obtain ⟨v, hv⟩ := h i a
      exact ⟨b, b1.trans (by rw [hv, va_up_ne _ _ e]), b2⟩
/-- which keys are closed while no contact bounces -/
def cq (fi he st : Int32) (i : Nat) (c : Int32) : Int32 :=
  if F_X7_has fi (nI i) = 0 then c else if st = 1 then c else if st = 2 then F_X7_with c (nI i) 1 else if F_X7_has he (nI i) = 0 then F_X7_with c (nI i) 0 else F_X7_with c (nI i) 1
def quiet (fi : Int32) (v : KV) (i : Nat) : Prop := F_X7_has fi (nI i) = 0 ∨ ¬ kst v = 0 ∨ kle v ≤ 0
theorem closed_q {fi he lu c : Int32} {i : Nat} {V : Nat → KV} (h : quiet fi (V i) i) : S_X7_closedNow_4 fi he i (c, lu, V) = (cq fi he (kst (V i)) i c, lu, V) := by
  unfold S_X7_closedNow_4 cq
  dsimp only
  by_cases h1 : F_X7_has fi (nI i) = 0
  · rw [if_pos h1, if_pos h1]
  · rw [if_neg h1, if_neg h1]
    by_cases h2 : kst (V i) = 1
    · rw [if_pos h2, if_pos h2]
    · rw [if_neg h2, if_neg h2]
      by_cases h3 : kst (V i) = 2
      · have h4 : ¬ kst (V i) = 0 := by rw [h3]; decide
        rw [if_pos h3, if_pos h3, if_neg h4]
      · rw [if_neg h3, if_neg h3]
        by_cases h4 : kst (V i) = 0
        · have h5 : kle (V i) ≤ 0 := (h.resolve_left h1).resolve_left (fun g => g h4)
          by_cases h6 : F_X7_has he (nI i) = 0
          · rw [if_pos h6, if_pos h6, if_pos h4, if_pos h5]
          · rw [if_neg h6, if_neg h6, if_pos h4, if_pos h5]
        · by_cases h6 : F_X7_has he (nI i) = 0
          · rw [if_pos h6, if_pos h6, if_neg h4]
          · rw [if_neg h6, if_neg h6, if_neg h4]
theorem closed_qi {fi he : Int32} {V W : Nat → KV} {K : Nat} (hV : ∀ k, k < K → quiet fi (V k) k) (hW : ∀ k, k < K → quiet fi (W k) k) (hs : ∀ k, k < K → kst (V k) = kst (W k)) : ∀ (n i : Nat) (c lu lu' : Int32), i + n ≤ K →
    (itr (fun i a => S_X7_closedNow_4 fi he i a) n i (c, lu, V)).2.2 = V ∧ (itr (fun i a => S_X7_closedNow_4 fi he i a) n i (c, lu, V)).1 = (itr (fun i a => S_X7_closedNow_4 fi he i a) n i (c, lu', W)).1
  | 0, _, _, _, _, _ => ⟨rfl, rfl⟩
  | n + 1, i, c, lu, lu', h => by
    have e1 : itr (fun i a => S_X7_closedNow_4 fi he i a) (n + 1) i (c, lu, V) = itr (fun i a => S_X7_closedNow_4 fi he i a) n (i + 1) (cq fi he (kst (V i)) i c, lu, V) := congrArg (itr (fun i a => S_X7_closedNow_4 fi he i a) n (i + 1)) (closed_q (hV i (by omega)))
    have e2 : itr (fun i a => S_X7_closedNow_4 fi he i a) (n + 1) i (c, lu', W) = itr (fun i a => S_X7_closedNow_4 fi he i a) n (i + 1) (cq fi he (kst (W i)) i c, lu', W) := congrArg (itr (fun i a => S_X7_closedNow_4 fi he i a) n (i + 1)) (closed_q (hW i (by omega)))
    rw [e1, e2, ← hs i (by omega)]
    exact closed_qi hV hW hs n (i + 1) _ lu lu' (by omega)
/-- one key in closedNow -/
theorem closed_1 {fi he : Int32} (i : Nat) (a : Int32 × Int32 × (Nat → KV)) : ∃ v, (S_X7_closedNow_4 fi he i a).2.2 = va_up a.2.2 i v ∧ kbo v = kbo (a.2.2 i) ∧ kst v = kst (a.2.2 i) ∧ kne v = kne (a.2.2 i) ∧ ((kle v = kle (a.2.2 i) ∧ quiet fi (a.2.2 i) i) ∨ (kle v = kle (a.2.2 i) - 1 ∧ ¬ kle (a.2.2 i) ≤ 0)) := by
  by_cases hq : quiet fi (a.2.2 i) i
  · refine ⟨a.2.2 i, ?_, rfl, rfl, rfl, Or.inl ⟨rfl, hq⟩⟩
    rw [show S_X7_closedNow_4 fi he i a = S_X7_closedNow_4 fi he i (a.1, a.2.1, a.2.2) from rfl, closed_q hq]
    exact va_up_id.symm
  · have h1 : ¬ F_X7_has fi (nI i) = 0 := fun h => hq (Or.inl h)
    have h2 : kst (a.2.2 i) = 0 := Classical.byContradiction (fun h => hq (Or.inr (Or.inl h)))
    have h3 : ¬ kle (a.2.2 i) ≤ 0 := fun h => hq (Or.inr (Or.inr h))
    have h4 : ¬ kst (a.2.2 i) = 1 := by rw [h2]; decide
    have h5 : ¬ kst (a.2.2 i) = 2 := by rw [h2]; decide
    unfold S_X7_closedNow_4
    rw [if_neg h1, if_neg h4, if_neg h5]
    by_cases h6 : F_X7_has he (nI i) = 0
    · rw [if_pos h6, if_pos h2, if_neg h3]
      split <;> exact ⟨_, rfl, rfl, rfl, rfl, Or.inr ⟨rfl, h3⟩⟩
    · rw [if_neg h6, if_pos h2, if_neg h3]
      split <;> exact ⟨_, rfl, rfl, rfl, rfl, Or.inr ⟨rfl, h3⟩⟩
theorem closed_k {fi he lu : Int32} {K k : Nat} {V : Nat → KV} (hk : k < K) : kbo ((F_X7_closedNow fi he lu K V).2.2 k) = kbo (V k) ∧ kst ((F_X7_closedNow fi he lu K V).2.2 k) = kst (V k) ∧ kne ((F_X7_closedNow fi he lu K V).2.2 k) = kne (V k) ∧ ((kle ((F_X7_closedNow fi he lu K V).2.2 k) = kle (V k) ∧ quiet fi (V k) k) ∨ (kle ((F_X7_closedNow fi he lu K V).2.2 k) = kle (V k) - 1 ∧ ¬ kle (V k) ≤ 0)) := by
  obtain ⟨b, b1, b2⟩ := itr_one (f := fun i a => S_X7_closedNow_4 fi he i a) (g := fun a => a.2.2) (fun i a => by obtain ⟨v, h, -⟩ := closed_1 (fi := fi) (he := he) i a; exact ⟨v, h⟩) K 0 (0, lu, V) k (Nat.zero_le _) (by omega)
  obtain ⟨v, h1, h2, h3, h4, h5⟩ := closed_1 (fi := fi) (he := he) k b
  have e : (F_X7_closedNow fi he lu K V).2.2 k = v := by
    show (itr (fun i a => S_X7_closedNow_4 fi he i a) K 0 (0, lu, V)).2.2 k = v
    refine b2.trans ?_
    show (S_X7_closedNow_4 fi he k b).2.2 k = v
    rw [h1, va_up_self]
  have e2 : b.2.2 k = V k := b1
  rw [e2] at h2 h3 h4 h5
  rw [e]
  exact ⟨h2, h3, h4, h5⟩
/-- one key in step -/
theorem step_1 {R C : Nat} {fi di he br pa gu : Int32} {sc : Nat} {lu : Int32} {K : Nat} {V : Nat → KV} (i : Nat) (a : Int32 × (Nat → KV) × Int32 × Int32 × Nat × Nat × (Nat → Int32)) : ∃ v, (S_X7_step_38 R C fi di he br pa gu sc lu K V i a).2.1 = va_up a.2.1 i v ∧ kbo v = kbo (a.2.1 i) ∧ kst v = kst (a.2.1 i) ∧ kle v = kle (a.2.1 i) ∧ (kne v = kne (a.2.1 i) ∨ (kne v = kne (a.2.1 i) + 1 ∧ ¬ F_X7_has (F_X7_seenOf R C fi br K ((F_X7_closedNow fi he lu K V).1) di) (nI i) = F_X6_isDown (kne (a.2.1 i)))) := by
  unfold S_X7_step_38
  (repeat' split) <;> exact ⟨_, rfl, rfl, rfl, rfl, by first | exact Or.inl rfl | exact Or.inr ⟨rfl, by assumption⟩⟩
/-- one key in a scan: what is kept, and when there is an event -/
theorem step_k {R C : Nat} {fi di he br pa gu : Int32} {sc : Nat} {lo lu : Int32} {K nh : Nat} {hf : Nat → Nat → Int32} {ml : Int32} {n cap : Nat} {fY : Nat → Int32} {V : Nat → KV} {k : Nat} (hk : k < K) :
    let V' := (F_X7_step R C fi di he br pa gu sc lo lu K nh hf ml n cap fY V).2.2.2.2.2.2.1
    kbo (V' k) = kbo (V k) ∧ kst (V' k) = kst (V k) ∧ ((kle (V' k) = kle (V k) ∧ quiet fi (V k) k) ∨ (kle (V' k) = kle (V k) - 1 ∧ ¬ kle (V k) ≤ 0)) ∧ (kne (V' k) = kne (V k) ∨ (kne (V' k) = kne (V k) + 1 ∧ ¬ F_X7_has (F_X7_seenOf R C fi br K ((F_X7_closedNow fi he lu K V).1) di) (nI k) = F_X6_isDown (kne (V k)))) := by
  intro V'
  obtain ⟨c1, c2, c3, c4⟩ := closed_k (fi := fi) (he := he) (lu := lu) (V := V) hk
  obtain ⟨b, b1, b2⟩ := itr_one (f := fun i a => S_X7_step_38 R C fi di he br pa gu sc lu K V i a) (g := fun a => a.2.1) (fun i a => by obtain ⟨v, h, -⟩ := step_1 (R := R) (C := C) (fi := fi) (di := di) (he := he) (br := br) (pa := pa) (gu := gu) (sc := sc) (lu := lu) (K := K) (V := V) i a; exact ⟨v, h⟩) K 0 (0, (F_X7_closedNow fi he lu K V).2.2, lo, ml, n, cap, fY) k (Nat.zero_le _) (by omega)
  obtain ⟨v, h1, h2, h3, h4, h5⟩ := step_1 (R := R) (C := C) (fi := fi) (di := di) (he := he) (br := br) (pa := pa) (gu := gu) (sc := sc) (lu := lu) (K := K) (V := V) k b
  have e : V' k = v := by
    show (itr (fun i a => S_X7_step_38 R C fi di he br pa gu sc lu K V i a) K 0 (0, (F_X7_closedNow fi he lu K V).2.2, lo, ml, n, cap, fY)).2.1 k = v
    refine b2.trans ?_
    show (S_X7_step_38 R C fi di he br pa gu sc lu K V k b).2.1 k = v
    rw [h1, va_up_self]
  have e2 : b.2.1 k = (F_X7_closedNow fi he lu K V).2.2 k := b1
  rw [e2] at h2 h3 h4 h5
  rw [c1] at h2
  rw [c2] at h3
  rw [c3] at h5
  rw [e, h4]
  exact ⟨h2, h3, c4, h5⟩
theorem has_01 (s k : Int32) : F_X7_has s k = 0 ∨ F_X7_has s k = 1 := by
  unfold F_X7_has
  split
  · first | exact Or.inr rfl | exact Or.inl rfl
  · first | exact Or.inl rfl | exact Or.inr rfl
theorem down_m {n : Nat} (h : n ≤ 100000) : F_X6_isDown n = if n % 2 = 1 then 1 else 0 := by
  unfold F_X6_isDown
  have e0 : nI n - nI n / nI 2 * nI 2 = nI (n % 2) := pk_rem (by omega) (by decide) (by decide)
  have e : F_Jx4a65c_size_8abf5 n - F_Jx4a65c_size_8abf5 n / 2 * 2 = nI (n % 2) := e0
  rw [e]
  by_cases h1 : n % 2 = 1
  · rw [if_pos h1, h1, if_pos (show nI 1 = 1 from rfl)]
  · have h2 : n % 2 = 0 := by omega
    rw [if_neg h1, h2, if_neg (show ¬ nI 0 = 1 by decide)]
theorem down_up {n : Nat} {s k : Int32} (h : n + 1 ≤ 100000) (hne : ¬ F_X7_has s k = F_X6_isDown n) : F_X7_has s k = F_X6_isDown (n + 1) := by
  rw [down_m (by omega)] at hne
  rw [down_m h]
  rcases has_01 s k with e | e <;> rw [e] at hne ⊢
  · by_cases h1 : n % 2 = 1
    · rw [if_neg (by omega)]
    · rw [if_neg h1] at hne
      exact absurd rfl hne
  · by_cases h1 : n % 2 = 1
    · rw [if_pos h1] at hne
      exact absurd rfl hne
    · rw [if_pos (by omega)]
/-- the contacts still to bounce -/
def LB (fi : Int32) (K : Nat) (V : Nat → KV) (L : Nat) : Prop := ∀ k, k < K → quiet fi (V k) k ∨ ∃ l : Nat, l ≤ L ∧ kle (V k) = nI l
def mis (s : Int32) (V : Nat → KV) (k : Nat) : Nat := if F_X7_has s (nI k) = F_X6_isDown (kne (V k)) then 0 else 1
theorem mis_1 {s : Int32} {V : Nat → KV} {k : Nat} : mis s V k ≤ 1 := by
  unfold mis
  split <;> omega
theorem quiet_kept {fi : Int32} {v v' : KV} {k : Nat} (h : quiet fi v k) (h1 : kst v' = kst v) (h2 : (kle v' = kle v ∧ quiet fi v k) ∨ (kle v' = kle v - 1 ∧ ¬ kle v ≤ 0)) : quiet fi v' k := by
  rcases h with h | h | h
  · exact Or.inl h
  · exact Or.inr (Or.inl (by rw [h1]; exact h))
  · rcases h2 with h2 | h2
    · exact Or.inr (Or.inr (by rw [h2.1]; exact h))
    · exact absurd h h2.2
theorem LB_0 {fi : Int32} {K : Nat} {V : Nat → KV} (h : LB fi K V 0) : ∀ k, k < K → quiet fi (V k) k := fun k hk => by
  rcases h k hk with h | ⟨l, h1, h2⟩
  · exact h
  · refine Or.inr (Or.inr ?_)
    rw [h2, show l = 0 by omega]
    decide
abbrev T54 : Type := Int32 × Nat × Int32 × Int32 × Int32 × Int32 × (Nat → KV) × Int32 × Nat × Nat × (Nat → Int32) × (Nat → Nat → Int32)
section
variable {R C : Nat} {fi di he br pa gu : Int32} {K nh : Nat}
theorem scan_q : ∀ (n i : Nat) (a : T54) (s : Int32), (∀ k, k < K → quiet fi (a.2.2.2.2.2.2.1 k) k) → (∀ k, k < K → kne (a.2.2.2.2.2.2.1 k) + n ≤ 100000) → s = F_X7_seenOf R C fi br K ((F_X7_closedNow fi he a.2.2.2.2.1 K a.2.2.2.2.2.2.1).1) di →
    sumN K (fun k => kne ((itr (fun i a => S_X7_scan_54 R C fi di he br pa gu K nh i a) n i a).2.2.2.2.2.2.1 k) + mis s (itr (fun i a => S_X7_scan_54 R C fi di he br pa gu K nh i a) n i a).2.2.2.2.2.2.1 k) ≤ sumN K (fun k => kne (a.2.2.2.2.2.2.1 k) + mis s a.2.2.2.2.2.2.1 k)
  | 0, _, _, _, _, _, _ => Nat.le_refl _
  | n + 1, i, a, s, hq, hb, hs => by
    have hk := fun k (hk : k < K) => step_k (R := R) (C := C) (fi := fi) (di := di) (he := he) (br := br) (pa := pa) (gu := gu) (sc := a.2.1) (lo := a.2.2.2.2.2.1) (lu := a.2.2.2.2.1) (nh := nh) (hf := a.2.2.2.2.2.2.2.2.2.2.2) (ml := a.2.2.2.2.2.2.2.1) (n := a.2.2.2.2.2.2.2.2.1) (cap := a.2.2.2.2.2.2.2.2.2.1) (fY := a.2.2.2.2.2.2.2.2.2.2.1) (V := a.2.2.2.2.2.2.1) hk
    have hq' : ∀ k, k < K → quiet fi ((S_X7_scan_54 R C fi di he br pa gu K nh i a).2.2.2.2.2.2.1 k) k := fun k h => quiet_kept (hq k h) (hk k h).2.1 (hk k h).2.2.1
    have hb' : ∀ k, k < K → kne ((S_X7_scan_54 R C fi di he br pa gu K nh i a).2.2.2.2.2.2.1 k) + n ≤ 100000 := fun k h => by
      have h1 := hb k h
      rcases (hk k h).2.2.2 with e | e
      · have e' : kne ((S_X7_scan_54 R C fi di he br pa gu K nh i a).2.2.2.2.2.2.1 k) = kne (a.2.2.2.2.2.2.1 k) := e
        omega
      · have e' : kne ((S_X7_scan_54 R C fi di he br pa gu K nh i a).2.2.2.2.2.2.1 k) = kne (a.2.2.2.2.2.2.1 k) + 1 := e.1
        omega
    have hs' : s = F_X7_seenOf R C fi br K ((F_X7_closedNow fi he (S_X7_scan_54 R C fi di he br pa gu K nh i a).2.2.2.2.1 K (S_X7_scan_54 R C fi di he br pa gu K nh i a).2.2.2.2.2.2.1).1) di := by
      rw [hs]
      congr 1
      exact (closed_qi hq hq' (fun k h => (hk k h).2.1.symm) K 0 0 a.2.2.2.2.1 (S_X7_scan_54 R C fi di he br pa gu K nh i a).2.2.2.2.1 (by omega)).2
    refine Nat.le_trans (scan_q n (i + 1) (S_X7_scan_54 R C fi di he br pa gu K nh i a) s hq' hb' hs') ?_
    have h0 := sumN_le (d := 0) (K := K) (f := fun k => kne ((S_X7_scan_54 R C fi di he br pa gu K nh i a).2.2.2.2.2.2.1 k) + mis s (S_X7_scan_54 R C fi di he br pa gu K nh i a).2.2.2.2.2.2.1 k) (g := fun k => kne (a.2.2.2.2.2.2.1 k) + mis s a.2.2.2.2.2.2.1 k) (fun k h => by
      have h1 := hb k h
      rcases (hk k h).2.2.2 with e | ⟨e, e9⟩
      · have e' : kne ((S_X7_scan_54 R C fi di he br pa gu K nh i a).2.2.2.2.2.2.1 k) = kne (a.2.2.2.2.2.2.1 k) := e
        show kne ((S_X7_scan_54 R C fi di he br pa gu K nh i a).2.2.2.2.2.2.1 k) + mis s _ k ≤ kne (a.2.2.2.2.2.2.1 k) + mis s _ k + 0
        unfold mis
        rw [e']
        exact Nat.le_refl _
      · have e' : kne ((S_X7_scan_54 R C fi di he br pa gu K nh i a).2.2.2.2.2.2.1 k) = kne (a.2.2.2.2.2.2.1 k) + 1 := e
        rw [← hs] at e9
        show kne ((S_X7_scan_54 R C fi di he br pa gu K nh i a).2.2.2.2.2.2.1 k) + mis s _ k ≤ kne (a.2.2.2.2.2.2.1 k) + mis s _ k + 0
        unfold mis
        rw [e', if_pos (down_up (by omega) e9), if_neg e9]
        omega)
    simpa using h0
theorem scan_L : ∀ (n i : Nat) (a : T54) (L : Nat), LB fi K a.2.2.2.2.2.2.1 L → (∀ k, k < K → kne (a.2.2.2.2.2.2.1 k) + n ≤ 100000) → sumN K (fun k => kne ((itr (fun i a => S_X7_scan_54 R C fi di he br pa gu K nh i a) n i a).2.2.2.2.2.2.1 k)) ≤ sumN K (fun k => kne (a.2.2.2.2.2.2.1 k)) + K * (L + 1)
  | n, i, a, 0, hL, hb => by
    have h1 := scan_q (R := R) (C := C) (fi := fi) (di := di) (he := he) (br := br) (pa := pa) (gu := gu) (K := K) (nh := nh) n i a _ (LB_0 hL) hb rfl
    rw [sumN_add, sumN_add] at h1
    have h2 := sumN_b (b := 1) (K := K) (f := mis (F_X7_seenOf R C fi br K ((F_X7_closedNow fi he a.2.2.2.2.1 K a.2.2.2.2.2.2.1).1) di) a.2.2.2.2.2.2.1) (fun k _ => mis_1)
    have h3 : sumN K (fun k => mis (F_X7_seenOf R C fi br K ((F_X7_closedNow fi he a.2.2.2.2.1 K a.2.2.2.2.2.2.1).1) di) a.2.2.2.2.2.2.1 k) ≤ K * 1 := h2
    omega
  | 0, i, a, L + 1, hL, hb => Nat.le_add_right _ _
  | n + 1, i, a, L + 1, hL, hb => by
    have hk := fun k (hk : k < K) => step_k (R := R) (C := C) (fi := fi) (di := di) (he := he) (br := br) (pa := pa) (gu := gu) (sc := a.2.1) (lo := a.2.2.2.2.2.1) (lu := a.2.2.2.2.1) (nh := nh) (hf := a.2.2.2.2.2.2.2.2.2.2.2) (ml := a.2.2.2.2.2.2.2.1) (n := a.2.2.2.2.2.2.2.2.1) (cap := a.2.2.2.2.2.2.2.2.2.1) (fY := a.2.2.2.2.2.2.2.2.2.2.1) (V := a.2.2.2.2.2.2.1) hk
    have hL' : LB fi K (S_X7_scan_54 R C fi di he br pa gu K nh i a).2.2.2.2.2.2.1 L := fun k h => by
      rcases hL k h with q | ⟨l, l1, l2⟩
      · exact Or.inl (quiet_kept q (hk k h).2.1 (hk k h).2.2.1)
      · rcases (hk k h).2.2.1 with q | q
        · exact Or.inl (quiet_kept q.2 (hk k h).2.1 (Or.inl q))
        · refine Or.inr ⟨l - 1, by omega, ?_⟩
          have l0 : 0 < l := by
            rcases Nat.eq_zero_or_pos l with e | e
            · rw [l2, e] at q
              exact absurd (show nI 0 ≤ 0 by decide) q.2
            · exact e
          refine q.1.trans ?_
          rw [l2]
          exact nI_m1 l0
    have hb' : ∀ k, k < K → kne ((S_X7_scan_54 R C fi di he br pa gu K nh i a).2.2.2.2.2.2.1 k) + n ≤ 100000 := fun k h => by
      have h1 := hb k h
      rcases (hk k h).2.2.2 with e | e
      · have e' : kne ((S_X7_scan_54 R C fi di he br pa gu K nh i a).2.2.2.2.2.2.1 k) = kne (a.2.2.2.2.2.2.1 k) := e
        omega
      · have e' : kne ((S_X7_scan_54 R C fi di he br pa gu K nh i a).2.2.2.2.2.2.1 k) = kne (a.2.2.2.2.2.2.1 k) + 1 := e.1
        omega
    have h2 : sumN K (fun k => kne ((itr (fun i a => S_X7_scan_54 R C fi di he br pa gu K nh i a) (n + 1) i a).2.2.2.2.2.2.1 k)) ≤ sumN K (fun k => kne ((S_X7_scan_54 R C fi di he br pa gu K nh i a).2.2.2.2.2.2.1 k)) + K * (L + 1) := scan_L n (i + 1) (S_X7_scan_54 R C fi di he br pa gu K nh i a) L hL' hb'
    have h3 := sumN_le (d := 1) (K := K) (f := fun k => kne ((S_X7_scan_54 R C fi di he br pa gu K nh i a).2.2.2.2.2.2.1 k)) (g := fun k => kne (a.2.2.2.2.2.2.1 k)) (fun k h => by
      rcases (hk k h).2.2.2 with e | e
      · exact Nat.le_trans (Nat.le_of_eq e) (Nat.le_add_right _ _)
      · exact Nat.le_of_eq e.1)
    have h4 : K * (L + 1 + 1) = K * (L + 1) + K * 1 := Nat.mul_add K (L + 1) 1
    omega
end
section
variable {R C : Nat} {fi di he br pa gu : Int32} {sc : Nat} {cl se lo lu : Int32} {K nh : Nat} {hf : Nat → Nat → Int32} {ml : Int32} {n cap : Nat} {fY : Nat → Int32} {V : Nat → KV} {x1 : Int32}
theorem scan_V (h1 : (F_X7_start (if (F_X7_isIn x1 1 50) = 0 then (1 : Int32) else (0 : Int32)) 1).1 = 0) (h2 : (F_X7_refuse ((F_X7_start (if (F_X7_isIn x1 1 50) = 0 then (1 : Int32) else (0 : Int32)) 1).2) (if ((nI sc) + x1) ≤ 2000 then (0 : Int32) else (1 : Int32)) 2).1 = 0) : (F_X7_scan R C fi di he br pa gu sc cl se lo lu K nh hf ml n cap fY V x1).2.2.2.2.2.2.2.1 = (itr (fun i a => S_X7_scan_54 R C fi di he br pa gu K nh i a) x1.toNatClampNeg 0 (0, sc, cl, se, lu, lo, V, ml, n, cap, fY, hf)).2.2.2.2.2.2.1 := by
  unfold F_X7_scan
  rw [if_pos h1, if_pos h2]
theorem scan_V1 (h1 : ¬ (F_X7_start (if (F_X7_isIn x1 1 50) = 0 then (1 : Int32) else (0 : Int32)) 1).1 = 0) : (F_X7_scan R C fi di he br pa gu sc cl se lo lu K nh hf ml n cap fY V x1).2 = ((F_X7_start (if (F_X7_isIn x1 1 50) = 0 then (1 : Int32) else (0 : Int32)) 1).2, sc, cl, se, lu, lo, V, ml, n, cap, fY, hf) := by
  unfold F_X7_scan
  rw [if_neg h1]
theorem scan_V2 (h1 : (F_X7_start (if (F_X7_isIn x1 1 50) = 0 then (1 : Int32) else (0 : Int32)) 1).1 = 0) (h2 : ¬ (F_X7_refuse ((F_X7_start (if (F_X7_isIn x1 1 50) = 0 then (1 : Int32) else (0 : Int32)) 1).2) (if ((nI sc) + x1) ≤ 2000 then (0 : Int32) else (1 : Int32)) 2).1 = 0) : (F_X7_scan R C fi di he br pa gu sc cl se lo lu K nh hf ml n cap fY V x1).2 = ((F_X7_refuse ((F_X7_start (if (F_X7_isIn x1 1 50) = 0 then (1 : Int32) else (0 : Int32)) 1).2) (if ((nI sc) + x1) ≤ 2000 then (0 : Int32) else (1 : Int32)) 2).2, sc, cl, se, lu, lo, V, ml, n, cap, fY, hf) := by
  unfold F_X7_scan
  rw [if_pos h1, if_neg h2]
/-- what a call of scan can add to the events -/
theorem scan_ev (hK : K ≤ 25) (hL : LB fi K V 5) (hb : ∀ k, k < K → kne (V k) ≤ 2000) : sumK K (F_X7_scan R C fi di he br pa gu sc cl se lo lu K nh hf ml n cap fY V x1).2.2.2.2.2.2.2.1 kne ≤ sumK K V kne + 150 := by
  by_cases h1 : (F_X7_start (if (F_X7_isIn x1 1 50) = 0 then (1 : Int32) else (0 : Int32)) 1).1 = 0
  · by_cases h2 : (F_X7_refuse ((F_X7_start (if (F_X7_isIn x1 1 50) = 0 then (1 : Int32) else (0 : Int32)) 1).2) (if ((nI sc) + x1) ≤ 2000 then (0 : Int32) else (1 : Int32)) 2).1 = 0
    · obtain ⟨h3, h4⟩ := in_1 (b := 50) (by omega) (by decide) (isin_0 (st_0 (no_01 _) h1))
      rw [scan_V h1 h2, sumK_N, sumK_N]
      have h5 := scan_L (R := R) (C := C) (fi := fi) (di := di) (he := he) (br := br) (pa := pa) (gu := gu) (K := K) (nh := nh) x1.toNatClampNeg 0 (0, sc, cl, se, lu, lo, V, ml, n, cap, fY, hf) 5 hL (fun k h => Nat.le_trans (Nat.add_le_add (hb k h) h3.2) (by decide))
      have h6 : K * (5 + 1) ≤ 150 := by omega
      exact Nat.le_trans h5 (Nat.add_le_add_left h6 _)
    · have e : (F_X7_scan R C fi di he br pa gu sc cl se lo lu K nh hf ml n cap fY V x1).2.2.2.2.2.2.2.1 = V := congrArg (fun z => z.2.2.2.2.2.2.1) (scan_V2 h1 h2)
      rw [e]
      exact Nat.le_add_right _ _
  · have e : (F_X7_scan R C fi di he br pa gu sc cl se lo lu K nh hf ml n cap fY V x1).2.2.2.2.2.2.2.1 = V := congrArg (fun z => z.2.2.2.2.2.2.1) (scan_V1 h1)
    rw [e]
    exact Nat.le_add_right _ _
end
