/-- how many of the first n bits a set has -/
def cn (y : Int32) : Nat → Nat
  | 0 => 0
  | n + 1 => cn y n + (if bt y n = true then 1 else 0)
theorem cn_le (y : Int32) : ∀ n, cn y n ≤ n := by
  intro n
  induction n with
  | zero => exact Nat.le_refl _
  | succ n ih =>
    rw [cn]
    by_cases h : bt y n = true
    · rw [if_pos h]; omega
    · rw [if_neg h]; omega
theorem erase_len {n : Nat} {l : List Nat} (hl : l.Nodup) : (l.erase n).Nodup ∧ (∀ x ∈ l.erase n, x ∈ l ∧ x ≠ n) ∧ (n ∈ l → l.length = (l.erase n).length + 1) ∧ (n ∉ l → l.length = (l.erase n).length) := by
  refine ⟨hl.erase n, fun x hx => ⟨List.mem_of_mem_erase hx, fun e => by rw [e] at hx; exact (List.Nodup.not_mem_erase hl) hx⟩, ?_, ?_⟩
  · intro h
    have h4 := List.length_erase (a := n) (l := l)
    have h5 : 0 < l.length := List.length_pos_of_mem h
    rw [if_pos h] at h4; omega
  · intro h
    have h4 := List.length_erase (a := n) (l := l)
    rw [if_neg h] at h4; omega
theorem cn_ge (y : Int32) : ∀ (n : Nat) (l : List Nat), l.Nodup → (∀ x ∈ l, x < n ∧ bt y x = true) → l.length ≤ cn y n := by
  intro n
  induction n with
  | zero =>
    intro l _ h
    cases l with
    | nil => exact Nat.le_refl _
    | cons x l => exact absurd (h x (by simp)).1 (Nat.not_lt_zero _)
  | succ n ih =>
    intro l hl h
    obtain ⟨e1, e2, e3, e4⟩ := erase_len (n := n) hl
    have h1 := ih (l.erase n) e1 (fun x hx => by
      obtain ⟨h2, h3⟩ := e2 x hx
      have h4 := h x h2
      exact ⟨by omega, h4.2⟩)
    rw [cn]
    by_cases hn : n ∈ l
    · rw [if_pos (h n hn).2, e3 hn]; omega
    · rw [e4 hn]; omega
theorem cn_up (y : Int32) : ∀ (n : Nat) (l : List Nat), l.Nodup → (∀ x, x < n → bt y x = true → x ∈ l) → cn y n ≤ l.length := by
  intro n
  induction n with
  | zero => intro l _ _; exact Nat.zero_le _
  | succ n ih =>
    intro l hl h
    obtain ⟨e1, e2, e3, e4⟩ := erase_len (n := n) hl
    have h1 := ih (l.erase n) e1 (fun x hx hb => by
      rw [List.mem_erase_of_ne (by omega)]
      exact h x (by omega) hb)
    rw [cn]
    by_cases hb : bt y n = true
    · rw [if_pos hb, e3 (h n (by omega) hb)]; omega
    · rw [if_neg hb]
      by_cases hn : n ∈ l
      · rw [e3 hn]; omega
      · rw [e4 hn]; omega
/-- the set of some keys -/
def mk (l : List Nat) : Int32 := l.foldr (fun k y => y ||| ((1 : Int32) <<< (nI k &&& 31))) 0
theorem mk_bt : ∀ (l : List Nat), (∀ x ∈ l, x < 32) → ∀ j, j < 32 → (bt (mk l) j = true ↔ j ∈ l) := by
  intro l
  induction l with
  | nil => intro _ j _; rw [mk, List.foldr_nil, bt_0]; simp
  | cons k l ih =>
    intro h j hj
    show bt (mk l ||| ((1 : Int32) <<< (nI k &&& 31))) j = true ↔ _
    rw [bt_or, bt_bit (h k (by simp)) hj, Bool.or_eq_true, ih (fun x hx => h x (List.mem_cons_of_mem _ hx)) j hj, List.mem_cons, decide_eq_true_eq]
    exact Or.comm
/-- the keys of pairs of a row and a column are as different as the pairs -/
theorem pair_inj {C r c r' c' : Nat} (hc : c < C) (hc' : c' < C) (h : r * C + c = r' * C + c') : (r, c) = (r', c') := by
  have h1 : (r * C + c) / C = r := by rw [Nat.mul_comm, Nat.mul_add_div (by omega), Nat.div_eq_of_lt hc]; rfl
  have h2 : (r' * C + c') / C = r' := by rw [Nat.mul_comm, Nat.mul_add_div (by omega), Nat.div_eq_of_lt hc']; rfl
  have h3 : r = r' := by rw [← h1, ← h2, h]
  subst h3
  have h4 : c = c' := by omega
  rw [h4]
theorem nodup_keys {C : Nat} : ∀ (L : List (Nat × Nat)), L.Nodup → (∀ p ∈ L, p.2 < C) → (L.map (fun p => p.1 * C + p.2)).Nodup := by
  intro L
  induction L with
  | nil => intro _ _; exact List.nodup_nil
  | cons q L ih =>
    intro h hp
    rw [List.nodup_cons] at h
    rw [List.map_cons, List.nodup_cons]
    refine ⟨?_, ih h.2 (fun p hq => hp p (List.mem_cons_of_mem _ hq))⟩
    intro hm
    obtain ⟨p, h1, h2⟩ := List.mem_map.mp hm
    have h3 := pair_inj (hp p (List.mem_cons_of_mem _ h1)) (hp q (by simp)) h2
    apply h.1
    have h4 : p = q := h3
    rw [← h4]; exact h1
/-- a set of bits below K is a number below 2^K -/
theorem set_nat {K : Nat} (hK : K ≤ 25) {y : Int32} (h : ∀ j, bt y j = true → j < K) : ∃ i, i < 2 ^ K ∧ nI i = y := by
  refine ⟨y.toBitVec.toNat, ?_, ?_⟩
  · apply Nat.lt_pow_two_of_testBit
    intro i hi
    cases hb : y.toBitVec.toNat.testBit i with
    | false => rfl
    | true =>
      have h1 : bt y i = true := hb
      have h2 := h i h1
      omega
  · apply Int32.toBitVec_inj.mp
    unfold nI
    rw [Int32.toBitVec_ofNat', BitVec.ofNat_toNat, BitVec.setWidth_eq]
theorem nat_bt {K i : Nat} (hK : K ≤ 25) (hi : i < 2 ^ K) (j : Nat) (h : bt (nI i) j = true) : j < K := by
  unfold bt nI at h
  rw [Int32.toBitVec_ofNat'] at h
  rw [BitVec.getLsbD_ofNat, Bool.and_eq_true] at h
  rcases Nat.lt_or_ge j K with q | q
  · exact q
  · rw [Nat.testBit_lt_two_pow (Nat.lt_of_lt_of_le hi (Nat.pow_le_pow_right (by decide) q))] at h
    exact absurd h.2 (by decide)
/-- the law's count of a set's keys -/
theorem one_bit {y : Int32} {i : Nat} (hi : i < 32) : (y >>> (nI i &&& 31)) &&& 1 = nI (if bt y i = true then 1 else 0) := by
  refine bt_ext (fun j hj => ?_)
  rw [bt_and, bt_1]
  by_cases h2 : j = 0
  · subst h2
    rw [bt_shr y hi (by omega), Nat.zero_add]
    by_cases hb : bt y i = true
    · rw [if_pos hb, hb]; rfl
    · rw [if_neg hb, Bool.not_eq_true _ |>.mp hb]; rfl
  · by_cases hb : bt y i = true
    · rw [if_pos hb, show nI 1 = (1 : Int32) from rfl, bt_1]; simp [h2]
    · rw [if_neg hb, show nI 0 = (0 : Int32) from rfl, bt_0]; simp [h2]
theorem cnt_itr {fi : Int32} {K i0 : Nat} (hK : K ≤ 25) : ∀ (n i : Nat) (a : Nat), i + n = K → itr (fun i a => S_L_isTheorem_57 fi i0 i a) n i (nI a) = nI (a + (cn ((nI i0) &&& fi) K - cn ((nI i0) &&& fi) i)) := by
  have hmono : ∀ m i, cn ((nI i0) &&& fi) i ≤ cn ((nI i0) &&& fi) (i + m) := by
    intro m
    induction m with
    | zero => intro i; exact Nat.le_refl _
    | succ m ih => intro i; exact Nat.le_trans (ih i) (by rw [← Nat.add_assoc, cn]; omega)
  intro n
  induction n with
  | zero =>
    intro i a hi
    have h1 : i = K := by omega
    subst h1
    rw [Nat.sub_self]; rfl
  | succ n ih =>
    intro i a hi
    show itr _ n (i + 1) (S_L_isTheorem_57 fi i0 i (nI a)) = _
    have h2 : S_L_isTheorem_57 fi i0 i (nI a) = nI (a + (if bt ((nI i0) &&& fi) i = true then 1 else 0)) := by
      unfold S_L_isTheorem_57
      rw [one_bit (by omega)]
      exact (Int32.ofNat_add _ _).symm
    have h3 := hmono n (i + 1)
    rw [h2, ih (i + 1) _ (by omega)]
    rw [show i + 1 + n = K by omega] at h3
    congr 1
    rw [cn] at h3 ⊢
    omega
theorem cnt_eq {fi : Int32} {K i0 : Nat} (hK : K ≤ 25) : itr (fun i a => S_L_isTheorem_57 fi i0 i a) K 0 0 = nI (cn ((nI i0) &&& fi) K) := by
  have h := cnt_itr (fi := fi) (i0 := i0) hK K 0 0 (by omega)
  rw [show cn ((nI i0) &&& fi) 0 = 0 from rfl, Nat.zero_add, Nat.sub_zero] at h
  exact h
