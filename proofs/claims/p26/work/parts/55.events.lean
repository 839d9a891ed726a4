theorem sm_upd {e : Nat → Nat} {k : Nat} : ∀ K, sm (fun j => if j = k then e j + 1 else e j) K = sm e K + (if k < K then 1 else 0) := by
  intro K
  induction K with
  | zero => rw [if_neg (Nat.not_lt_zero _)]; rfl
  | succ K ih =>
    rw [sm, sm, ih]
    by_cases h : K = k
    · subst h
      rw [if_pos rfl, if_neg (Nat.lt_irrefl _), if_pos (Nat.lt_succ_self _)]; omega
    · rw [if_neg h]
      by_cases h2 : k < K
      · rw [if_pos h2, if_pos (by omega)]; omega
      · rw [if_neg h2, if_neg (by omega)]; omega
/-- the events are what they should be: no key had more than b of them, none later than s -/
def EVI (K : Nat) (b : Nat → Nat) (s : Nat) (fE : Nat → Int32) (dn ea : Int32) (fG fLE : Nat → Int32) : Prop :=
  (∃ e : Nat → Nat, (∀ k, k < K → fE k = nI (e k) ∧ e k ≤ b k ∧ e k % 2 = if bt dn k = true then 1 else 0) ∧ ea = nI (sm e K)) ∧
  (∀ k, k < K → (fG k = -1 ↔ bt dn k = false)) ∧ (∀ k, k < K → ∃ a, a ≤ s ∧ fLE k = nI a)
theorem EVI_le {K s s' : Nat} {b b' : Nat → Nat} {fE fG fLE : Nat → Int32} {dn ea : Int32} (h : EVI K b s fE dn ea fG fLE) (hb : ∀ k, k < K → b k ≤ b' k) (hs : s ≤ s') : EVI K b' s' fE dn ea fG fLE := by
  obtain ⟨⟨e, h1, h2⟩, h3, h4⟩ := h
  refine ⟨⟨e, fun k hk => ?_, h2⟩, h3, fun k hk => ?_⟩
  · obtain ⟨g1, g2, g3⟩ := h1 k hk
    exact ⟨g1, Nat.le_trans g2 (hb k hk), g3⟩
  · obtain ⟨a, g1, g2⟩ := h4 k hk
    exact ⟨a, by omega, g2⟩
theorem flip_bt {x : Int32} {k j : Nat} (hk : k < 32) (hj : j < 32) : bt (x ^^^ ((1 : Int32) <<< (nI k &&& 31))) j = (bt x j ^^ decide (j = k)) := by
  rw [bt_xor, bt_bit hk hj]
/-- an event more -/
theorem EVI_change {K s : Nat} {b : Nat → Nat} {fE fG fLE : Nat → Int32} {dn ea v : Int32} {k : Nat} (hK : K ≤ 25) (hk : k < K) (h : EVI K b s fE dn ea fG fLE) (hv : v = -1 ↔ bt dn k = true) :
    EVI K (fun j => if j = k then b j + 1 else b j) s (upd fE k (fE k + 1)) (dn ^^^ ((1 : Int32) <<< (nI k &&& 31))) (ea + 1) (upd fG k v) (upd fLE k (nI s)) := by
  obtain ⟨⟨e, h1, h2⟩, h3, h4⟩ := h
  refine ⟨⟨fun j => if j = k then e j + 1 else e j, fun j hj => ?_, ?_⟩, fun j hj => ?_, fun j hj => ?_⟩
  · obtain ⟨g1, g2, g3⟩ := h1 j hj
    show upd fE k (fE k + 1) j = nI (if j = k then e j + 1 else e j) ∧ (if j = k then e j + 1 else e j) ≤ (if j = k then b j + 1 else b j) ∧ (if j = k then e j + 1 else e j) % 2 = _
    rw [flip_bt (by omega) (by omega), upd]
    by_cases hjk : j = k
    · subst hjk
      simp only [if_true]
      rw [g1]
      refine ⟨(Int32.ofNat_add _ _).symm, by omega, ?_⟩
      cases hb : bt dn j with
      | true => rw [hb, if_pos rfl] at g3; rw [if_neg (by decide)]; omega
      | false => rw [hb, if_neg (by decide)] at g3; rw [if_pos (by decide)]; omega
    · simp only [if_neg hjk]
      rw [decide_eq_false hjk, Bool.xor_false]
      exact ⟨g1, g2, g3⟩
  · rw [sm_upd, if_pos hk, h2]; exact (Int32.ofNat_add _ _).symm
  · rw [flip_bt (by omega) (by omega), upd]
    by_cases hjk : j = k
    · subst hjk
      rw [if_pos rfl, decide_eq_true rfl, hv]
      cases bt dn j <;> decide
    · rw [if_neg hjk, decide_eq_false hjk, Bool.xor_false]; exact h3 j hj
  · rw [upd]
    by_cases hjk : j = k
    · rw [if_pos hjk]; exact ⟨s, Nat.le_refl s, rfl⟩
    · rw [if_neg hjk]; exact h4 j hj
/-- the code of a press is no -1 -/
theorem press_code {fC fG : Nat → Int32} {k : Nat} (hk : k < 25) (hcd : ∀ j, j < 75 → ∃ c : Nat, c ≤ 31 ∧ fC j = nI c) : ¬ T_X1_press_14 fC fG k = -1 := by
  unfold T_X1_press_14
  have h : ∃ p, p < 75 ∧ (F_X1_layerNow fG * 25 + nI k).toNatClampNeg = p := by
    rcases layer_3 fG with q | q | q
    · rw [q]; exact ⟨k, by omega, by rw [show (0 : Int32) * 25 = nI 0 from rfl, show nI 0 + nI k = nI (0 + k) from (Int32.ofNat_add _ _).symm, nI_clamp (by omega)]; omega⟩
    · rw [q]; exact ⟨25 + k, by omega, by rw [show (1 : Int32) * 25 = nI 25 from rfl, show nI 25 + nI k = nI (25 + k) from (Int32.ofNat_add _ _).symm, nI_clamp (by omega)]⟩
    · rw [q]; exact ⟨50 + k, by omega, by rw [show (2 : Int32) * 25 = nI 50 from rfl, show nI 50 + nI k = nI (50 + k) from (Int32.ofNat_add _ _).symm, nI_clamp (by omega)]⟩
  obtain ⟨p, h1, h2⟩ := h
  obtain ⟨c, h3, h4⟩ := hcd p h1
  rw [h2, h4]
  exact nI_ne_m1 (by omega)
theorem type_lo {lo : Int32} {n cap : Nat} {fY : Nat → Int32} {x1 : Int32} : (F_X1_type lo n cap fY x1).1 = lo ∨ (F_X1_type lo n cap fY x1).1 = lo + 1 := by
  unfold F_X1_type
  by_cases h : 60 ≤ nI n
  · rw [if_pos h]; exact Or.inr rfl
  · rw [if_neg h]
    by_cases h2 : n < cap
    · rw [if_pos h2]; exact Or.inl rfl
    · rw [if_neg h2]; exact Or.inl rfl
theorem press_got {lo : Int32} {fC fG fI : Nat → Int32} {ml : Int32} {n cap : Nat} {fY : Nat → Int32} {k : Nat} {x2 : Int32} : (F_X1_press lo fC fG fI ml n cap fY k x2).1 = upd fG k (T_X1_press_14 fC fG k) ∧ ((F_X1_press lo fC fG fI ml n cap fY k x2).2.2.1 = lo ∨ (F_X1_press lo fC fG fI ml n cap fY k x2).2.2.1 = lo + 1) := by
  unfold F_X1_press
  by_cases h1 : 26 ≤ T_X1_press_14 fC fG k
  · rw [if_pos h1]
    by_cases h2 : T_X1_press_14 fC fG k = 26
    · rw [if_pos h2]; exact ⟨rfl, type_lo⟩
    · rw [if_neg h2]
      by_cases h3 : T_X1_press_14 fC fG k = 27
      · rw [if_pos h3]
        by_cases h4 : nI n ≤ 0
        · rw [if_pos h4]; exact ⟨rfl, Or.inl rfl⟩
        · rw [if_neg h4]; exact ⟨rfl, Or.inl rfl⟩
      · rw [if_neg h3]; exact ⟨rfl, Or.inl rfl⟩
  · rw [if_neg h1]
    by_cases h2 : F_X1_isDownWith (upd fG k (T_X1_press_14 fC fG k)) 28 = 0
    · rw [if_pos h2]; exact ⟨rfl, type_lo⟩
    · rw [if_neg h2]; exact ⟨rfl, type_lo⟩
