theorem mask_nn (x : Int32) : ¬ (x &&& 2147483647) < 0 := by
  rw [Int32.lt_iff_toInt_lt]
  have h0 : (0 : Int32).toInt = 0 := by decide
  rw [h0]
  have h1 : (x &&& 2147483647).toBitVec.msb = false := by
    rw [show (x &&& 2147483647).toBitVec = x.toBitVec &&& 2147483647#32 from rfl, BitVec.msb_and, show (2147483647#32).msb = false from by decide, Bool.and_false]
  rw [BitVec.msb_eq_toInt] at h1
  exact of_decide_eq_false h1
/-- what below gives lies below -/
theorem below_nI (x : Int32) {n : Nat} (h0 : 0 < n) (hn : n < 2 ^ 31) : ∃ r, r < n ∧ F_L_below x (nI n) = nI r := by
  obtain ⟨a, ha, e⟩ := nI_of (mask_nn x)
  unfold F_L_below
  rw [e]
  have hd : a / n < 2 ^ 31 := Nat.lt_of_le_of_lt (Nat.div_le_self a n) ha
  have h2 : nI a / nI n = nI (a / n) := by
    apply Int32.toInt_inj.mp
    rw [Int32.toInt_div, nI_toInt ha, nI_toInt hn, nI_toInt hd, ← Int.ofNat_tdiv]
    generalize a / n = d at hd
    exact Int.bmod_eq_of_le (by omega) (by omega)
  refine ⟨a % n, Nat.mod_lt _ h0, ?_⟩
  rw [h2, pk_mul]
  have h3 : nI a = nI (a % n) + nI (a / n * n) := by
    rw [nI_add]
    have h4 : a % n + a / n * n = a := by rw [Nat.mul_comm]; exact Nat.mod_add_div a n
    rw [h4]
  rw [h3, Int32.add_sub_cancel]
theorem rem16 : ∀ i : Nat, i < 40 → ¬ (nI i - nI i / 16 * 16) < 0 := by decide +kernel
theorem two_nn : ∀ i : Nat, i < 25 → ¬ (2 + nI i) < 0 := by decide +kernel
theorem two_nI (x : Int32) {n : Nat} (h0 : 0 < n) (hn : n < 100) : ∃ r, 2 ≤ r ∧ r ≤ n + 1 ∧ 2 + F_L_below x (nI n) = nI r := by
  obtain ⟨r, h1, h2⟩ := below_nI x h0 (by omega : n < 2 ^ 31)
  exact ⟨2 + r, by omega, by omega, by rw [h2, show (2 : Int32) = nI 2 from rfl, nI_add]⟩
theorem size_ok {r : Nat} (h : 2 ≤ r) (h5 : r ≤ 5) : ¬ F_X4_isSize (nI r) = 0 := by
  rcases (show r = 2 ∨ r = 3 ∨ r = 4 ∨ r = 5 by omega) with rfl | rfl | rfl | rfl <;> decide +kernel
theorem E_lay_ok {a c : Nat} (h1 : 2 ≤ a) (h2 : a ≤ 5) (h3 : 2 ≤ c) (h4 : c ≤ 5) : E_X4_lay (nI a) (nI c) = 0 := by
  unfold E_X4_lay; rw [if_neg (size_ok h1 h2), if_neg (size_ok h3 h4)]
theorem E_key_law {K k : Nat} {x2 y : Int32} (hK : K ≤ 25) (hk : k < K) : E_X4_key K (nI k) x2 (F_L_below y 4) 0 = 0 := by
  obtain ⟨r, h1, h2⟩ := below_nI y (n := 4) (by decide) (by decide)
  have h3 : F_L_below y 4 = nI r := h2
  unfold E_X4_key
  rw [if_neg (by rw [hasKey_yes hk hK]; decide), h3]
  rcases (show r = 0 ∨ r = 1 ∨ r = 2 ∨ r = 3 by omega) with rfl | rfl | rfl | rfl <;> (by_cases h : x2 = 0 <;> simp [h] <;> decide)
/-- the board's size: at most 9 keys -/
theorem nine {r c : Nat} (h1 : 2 ≤ r) (h2 : r ≤ 4) (h4 : c ≤ 4) (ha : r = 4 → c ≤ 2) (hb : r = 3 → c ≤ 3) : r * c ≤ 9 := by
  rcases (show r = 2 ∨ r = 3 ∨ r = 4 by omega) with rfl | rfl | rfl
  · omega
  · have := hb rfl; omega
  · have := ha rfl; omega
theorem pow_nine {K : Nat} (h : K ≤ 9) : 2 ^ K ≤ 512 := Nat.pow_le_pow_right (by decide : 0 < 2) h
theorem bd_ok {R C K : Nat} {fi di li : Int32} (hK : K ≤ 25) : ¬ F_X4_bestDiode R C K fi di li = (-1) → ¬ F_X3_hasKey K (F_X4_bestDiode R C K fi di li) = 0 := by
  intro h
  rcases best_spec (R := R) (C := C) (fi := fi) (di := di) (li := li) hK with q | ⟨k, h1, h2, -, -⟩
  · exact absurd q h
  · exact (hasKey_iff hK _).mpr ⟨k, h1, h2⟩
theorem s1_ok {R C : Nat} {fi br li : Int32} (hK : R * C ≤ 25) (hL : Live R C fi br li) : ¬ F_X3_isSet (R * C) (fi >>> (1 &&& 31)) = 0 := (isSet_bits hK _).mpr (bits_shr hK hL.1)
theorem s2_ok {R C : Nat} {fi br li : Int32} (hK : R * C ≤ 25) (hL : Live R C fi br li) : ∀ i, i < R * C → ¬ F_X3_isSet (R * C) ((fi >>> (1 &&& 31)) ||| ((1 : Int32) <<< ((nI i) &&& 31))) = 0 := fun _ hi => (isSet_bits hK _).mpr (bits_or hi hK (bits_shr hK hL.1))
theorem i32_tr {x y z : Int32} (h : x ≤ y) (h2 : y ≤ z) : x ≤ z := by
  rw [Int32.le_iff_toInt_le] at *; omega
/-- no counter lies below 0 -/
theorem now_nn {t sc : Nat} {pa gu cl : Int32} {R C : Nat} {fi di br li he lu dn ea lo : Int32} {Ch : Nat} {ct rf : Int32} {n cap : Nat} {fY fM fE fLE fC fG fL : Nat → Int32} (h : WI t sc pa gu cl R C fi br li he dn ea lo Ch ct rf n cap fY fM fE fLE fC fG fL) (ht : t < 100) : ∀ j, j < 5 → (fun _ => (0 : Int32)) j ≤ (T_now sc pa gu rf R C (R * C) fi di br li lu ea lo Ch ct fG) j := by
  have hz : ∀ n : Nat, n < 2 ^ 31 → (0 : Int32) ≤ nI n := fun n hn => nI_le (a := 0) (Nat.zero_le n) hn
  obtain ⟨⟨h1, h2, h3, h4, h5⟩, ⟨h6, h7, h8, h9⟩, -, ⟨l, l1, l2⟩, ⟨c, c1, c2⟩, r, r1, r2⟩ := h
  obtain ⟨e, e1, e2⟩ := EVI_ea h8
  have he : e ≤ 25 * 2000 := Nat.le_trans e1 (Nat.mul_le_mul (Nat.mul_le_mul h1 h2) h7)
  intro j hj
  rcases (show j = 0 ∨ j = 1 ∨ j = 2 ∨ j = 3 ∨ j = 4 by omega) with rfl | rfl | rfl | rfl | rfl
  · rw [now_0]; exact hz _ (by omega)
  · rw [now_1, e2]; exact hz _ (by omega)
  · rw [now_2, c2]; exact hz _ (by omega)
  · rw [now_3, l2]; exact hz _ (by omega)
  · rw [now_4, r2]; exact hz _ (by omega)
theorem lay_1 {he dn ea lo : Int32} {Ch : Nat} {ct ml : Int32} {n : Nat} {fB fS fN fM fCn fE fLE fC fG fI : Nat → Int32} {a c : Nat} (h1 : 2 ≤ a) (h2 : a ≤ 5) (h3 : 2 ≤ c) (h4 : c ≤ 5) : (F_X4_lay he dn ea lo Ch ct ml n fB fS fN fM fCn fE fLE fC fG fI (nI a) (nI c)).1 = nI (a * c) := by
  unfold F_X4_lay
  rw [if_neg (size_ok h1 h2), if_neg (size_ok h3 h4), nI_clamp (by omega), nI_clamp (by omega)]
theorem gi_SX {own : String} {idx : Nat} {y : MethodName} {b : Cond} (h1 : Cond.methodLink own idx y ∈ lwAll) (h2 : Cond.static y ∈ lwAll) (h4 : Cond.initialized y.cls ∈ lwAll) (h5 : b ∈ lwAll) : GoodIn lwAll (va_wsS own idx y (b :: lwAll)) :=
  gi_cons h1 (gi_cons h2 (gi_cons h4 (gi_sub h5)))
theorem anew_n : (F_X4_startAnew 0 0 (fun _ => 0) (fun _ => 0) (fun _ => 0) (fun _ => 0) (fun _ => 0) (fun _ => 0) (fun _ => 0) (fun _ => 0) (fun _ => 0) (fun _ => 0)).2.2.2.2.2.2.2.2.2.2.2.2.2.2.1 = 0 := by
  unfold F_X4_startAnew
  show (F_X1_startAnew (fun _ => 0) (fun _ => 0) (fun _ => 0) 0 0).2.2.2.2.1 = 0
  unfold F_X1_startAnew
  show (F_J4_setLength_d00df 0 0 0).2 = 0
  unfold F_J4_setLength_d00df F_J5_setLength_d00df
  rw [if_pos (by decide)]
