/-- how many of the first n bits a set has -/
def cn (y : Int32) : Nat → Nat
  | 0 => 0
  | n + 1 => cn y n + (if bt y n = true then 1 else 0)
theorem cn_le (y : Int32) : ∀ n, cn y n ≤ n := by
  intro n
  induction n with
  | zero => exact Nat.le_refl _
  | succ n ih =>
    rw [cn]
    by_cases h : bt y n = true
    · rw [if_pos h]; omega
    · rw [if_neg h]; omega
theorem erase_len {n : Nat} {l : List Nat} (hl : l.Nodup) : (l.erase n).Nodup ∧ (∀ x ∈ l.erase n, x ∈ l ∧ x ≠ n) ∧ (n ∈ l → l.length = (l.erase n).length + 1) ∧ (n ∉ l → l.length = (l.erase n).length) := by
  refine ⟨hl.erase n, fun x hx => ⟨List.mem_of_mem_erase hx, fun e => by rw [e] at hx; exact (List.Nodup.not_mem_erase hl) hx⟩, ?_, ?_⟩
  · intro h
    have h4 := List.length_erase (a := n) (l := l)
    have h5 : 0 < l.length := List.length_pos_of_mem h
    rw [if_pos h] at h4; omega
  · intro h
    have h4 := List.length_erase (a := n) (l := l)
    rw [if_neg h] at h4; omega
theorem cn_ge (y : Int32) : ∀ (n : Nat) (l : List Nat), l.Nodup → (∀ x ∈ l, x < n ∧ bt y x = true) → l.length ≤ cn y n := by
  intro n
  induction n with
  | zero =>
    intro l _ h
    cases l with
    | nil => exact Nat.le_refl _
    | cons x l => exact absurd (h x (by simp)).1 (Nat.not_lt_zero _)
  | succ n ih =>
    intro l hl h
    obtain ⟨e1, e2, e3, e4⟩ := erase_len (n := n) hl
    have h1 := ih (l.erase n) e1 (fun x hx => by
      obtain ⟨h2, h3⟩ := e2 x hx
      have h4 := h x h2
      exact ⟨by omega, h4.2⟩)
    rw [cn]
    by_cases hn : n ∈ l
    · rw [if_pos (h n hn).2, e3 hn]; omega
    · rw [e4 hn]; omega
theorem cn_up (y : Int32) : ∀ (n : Nat) (l : List Nat), l.Nodup → (∀ x, x < n → bt y x = true → x ∈ l) → cn y n ≤ l.length := by
  intro n
  induction n with
  | zero => intro l _ _; exact Nat.zero_le _
  | succ n ih =>
    intro l hl h
    obtain ⟨e1, e2, e3, e4⟩ := erase_len (n := n) hl
    have h1 := ih (l.erase n) e1 (fun x hx hb => by
      rw [List.mem_erase_of_ne (by omega)]
      exact h x (by omega) hb)
    rw [cn]
    by_cases hb : bt y n = true
    · rw [if_pos hb, e3 (h n (by omega) hb)]; omega
    · rw [if_neg hb]
      by_cases hn : n ∈ l
      · rw [e3 hn]; omega
      · rw [e4 hn]; omega
theorem cn_mono {x y : Int32} (h : ∀ j, bt x j = true → bt y j = true) : ∀ n, cn x n ≤ cn y n := by
  intro n
  induction n with
  | zero => exact Nat.le_refl _
  | succ n ih =>
    rw [cn, cn]
    by_cases hb : bt x n = true
    · rw [if_pos hb, if_pos (h n hb)]; omega
    · rw [if_neg hb]; omega
theorem cn_lt {x y : Int32} (h : ∀ j, bt x j = true → bt y j = true) {k : Nat} (hx : bt x k = false) (hy : bt y k = true) : ∀ n, k < n → cn x n < cn y n := by
  intro n
  induction n with
  | zero => intro hk; exact absurd hk (Nat.not_lt_zero _)
  | succ n ih =>
    intro hk
    rw [cn, cn]
    by_cases e : k = n
    · subst e
      have := cn_mono h k
      rw [hx, hy, if_neg (by decide), if_pos rfl]; omega
    · have := ih (by omega)
      by_cases hb : bt x n = true
      · rw [if_pos hb, if_pos (h n hb)]; omega
      · rw [if_neg hb]; omega
/-- a set that grows at most 32 times -/
theorem grow_s {was made made2 : Int32} {i : Nat} (h : was = made ∨ i ≤ cn made 32) (hne : ¬ was = made) (hup : ∀ j, bt made j = true → bt made2 j = true) : made = made2 ∨ i + 1 ≤ cn made2 32 := by
  by_cases e : made = made2
  · exact Or.inl e
  · right
    have h1 := h.resolve_left hne
    have h2 : ∃ k, k < 32 ∧ bt made k ≠ bt made2 k := by
      refine Classical.byContradiction fun hn => e (bt_ext fun j hj => Classical.byContradiction fun h3 => hn ⟨j, hj, h3⟩)
    obtain ⟨k, hk, hb⟩ := h2
    have h3 : bt made k = false := by
      cases h4 : bt made k with
      | false => rfl
      | true => exact absurd (h4.trans (hup k h4).symm) hb
    have h5 : bt made2 k = true := by
      cases h6 : bt made2 k with
      | true => rfl
      | false => exact absurd (h3.trans h6.symm) hb
    have := cn_lt hup h3 h5 32 hk
    omega
theorem grow_z {was made : Int32} {i : Nat} (hi : i = 33) (h : was = made ∨ i ≤ cn made 32) : was = made := by
  rcases h with h | h
  · exact h
  · have := cn_le made 32
    omega
theorem itr_up {f : Nat → Int32 → Int32} (h : ∀ i a j, bt a j = true → bt (f i a) j = true) : ∀ (n i : Nat) (a : Int32) (j : Nat), bt a j = true → bt (itr f n i a) j = true := by
  intro n
  induction n with
  | zero => intro i a j hj; exact hj
  | succ n ih => intro i a j hj; exact ih (i + 1) (f i a) j (h i a j hj)
theorem nI_nz {C : Nat} (h : 0 < C) (hC : C ≤ 5) : ¬ nI C = 0 := by
  intro h2
  have h3 := congrArg Int32.toNatClampNeg h2
  rw [nI_clamp (by omega)] at h3
  have h4 : (0 : Int32).toNatClampNeg = 0 := by decide
  omega
