theorem gi_SX {own : String} {idx : Nat} {y : MethodName} {b : Cond} (h1 : Cond.methodLink own idx y ∈ lwAll) (h2 : Cond.static y ∈ lwAll) (h4 : Cond.initialized y.cls ∈ lwAll) (h5 : b ∈ lwAll) : GoodIn lwAll (va_wsS own idx y (b :: lwAll)) :=
  gi_cons h1 (gi_cons h2 (gi_cons h4 (gi_sub h5)))
theorem sPre_mk {D : va_G} {wc : va_W} {s : State} {H : Heap} {A : Nat → Prop} {av : List Value} (hstr : ∃ sa, vk_R "RowscanModel" 271 "" sa s) (hI : lwI D (va_A wc H.size) s H) (hP : va_P D vwCl wc H) (hK : va_K D vwCl (lwTY2 D) s) (hD : va_D A wc) (hN : (∀ w ∈ lwNest, va_Nw w s) ∧ lwTx s) (hZ : lwZ (va_A wc H.size) s H) : ∀ U : State, U.heap = H → s.WarmedH U.vm → va_Pc av (sPre D (lwTY2 D) wc H.size) av.toArray U :=
  fun U hU hW => by
    obtain ⟨h0, h1⟩ := rPre_mk (av := av) hI hP hK hD hN hZ U hU hW
    obtain ⟨sa, h2⟩ := hstr
    exact ⟨h0, h1, sa, vk_R.warm hW h2⟩
theorem and31 (x : Int32) : ∃ w, w < 32 ∧ x &&& 31 = nI w := by
  have h1 : (x &&& 31).toBitVec.toNat < 32 := by
    rw [show (x &&& 31).toBitVec = x.toBitVec &&& 31#32 from rfl, BitVec.toNat_and]
    exact Nat.lt_of_le_of_lt Nat.and_le_right (by decide)
  refine ⟨(x &&& 31).toBitVec.toNat, h1, ?_⟩
  apply Int32.toBitVec_inj.mp
  apply BitVec.eq_of_toNat_eq
  show (x &&& 31).toBitVec.toNat = (BitVec.ofNat 32 (x &&& 31).toBitVec.toNat).toNat
  rw [BitVec.toNat_ofNat]
  omega

theorem lay_e0 {R : Nat} {C : Nat} {fi : Int32} {di : Int32} {he : Int32} {br : Int32} {pa : Int32} {gu : Int32} {sc : Nat} {cl : Int32} {se : Int32} {lo : Int32} {km : Int32} {K : Nat} {kn : Nat} {hm : Int32} {nh : Nat} {ml : Int32} {n : Nat} {V : Nat → KV} {x1 : Int32} {x2 : Int32} : (F_X7_lay R C fi di he br pa gu sc cl se lo km K kn hm nh ml n V x1 x2).2.2.2.2.2.2.2.2.2.2.2.2.2.2.2.1 = (F_X7_lay R C fi di he br pa gu sc cl se lo km K kn hm nh ml n V x1 x2).2.2.2.2.2.2.2.2.2.2.2.2.2.2.2.2.2.2.2.2.2.1 := by
  unfold F_X7_lay
  (repeat' split) <;> rfl

theorem lay_e1 {R : Nat} {C : Nat} {fi : Int32} {di : Int32} {he : Int32} {br : Int32} {pa : Int32} {gu : Int32} {sc : Nat} {cl : Int32} {se : Int32} {lo : Int32} {km : Int32} {K : Nat} {kn : Nat} {hm : Int32} {nh : Nat} {ml : Int32} {n : Nat} {V : Nat → KV} {x1 : Int32} {x2 : Int32} : (F_X7_lay R C fi di he br pa gu sc cl se lo km K kn hm nh ml n V x1 x2).2.2.2.2.2.2.2.2.2.2.2.2.2.2.2.2.2.2.1 = (F_X7_lay R C fi di he br pa gu sc cl se lo km K kn hm nh ml n V x1 x2).2.2.2.2.2.2.2.2.2.2.2.2.2.2.2.2.2.2.2.2.2.2.2 := by
  unfold F_X7_lay
  (repeat' split) <;> rfl

theorem chord_e0 {K : Nat} {hm : Int32} {nh : Nat} {hcp : Nat} {hf : Nat → Nat → Int32} {x1 : Int32} {x2 : Int32} : (F_X7_chord K hm nh hcp hf x1 x2).2.2.2.1 = (F_X7_chord K hm nh hcp hf x1 x2).2.2.2.2.2.1 := by
  unfold F_X7_chord
  (repeat' split) <;> rfl

theorem chord_cap {K : Nat} {hm : Int32} {nh : Nat} {hcp : Nat} {hf : Nat → Nat → Int32} {x1 : Int32} {x2 : Int32} (h1 : nh ≤ hcp) (h2 : hcp ≤ 40) (h3 : nh ≤ 6) (h4 : hcp ≠ 0 → 10 ≤ hcp) : (F_X7_chord K hm nh hcp hf x1 x2).2.2.2.2.1 ≤ 40 := by
  unfold F_X7_chord
  (repeat' split) <;> first | exact h2 | exact (add_cap h1 h2 (by omega) h4).2.1

theorem lgc_self (x : Int64) : lg_cmp x x = 0 := Int32.le_antisymm ((lg_cmp_le x x).mpr (Int64.le_refl x)) ((lg_cmp_ge x x).mpr (Int64.le_refl x))

theorem lay_acc (x1 x2 : Int32) : (E_X4_lay x1 x2 = 0 ∧ ¬ F_X7_isIn x1 2 5 = 0 ∧ ¬ F_X7_isIn x2 2 5 = 0) ∨ (¬ E_X4_lay x1 x2 = 0 ∧ (F_X7_isIn x1 2 5 = 0 ∨ (¬ F_X7_isIn x1 2 5 = 0 ∧ F_X7_isIn x2 2 5 = 0))) := by
  have e : E_X4_lay x1 x2 = if F_X7_isIn x1 2 5 = 0 then 1 else if F_X7_isIn x2 2 5 = 0 then 1 else 0 := rfl
  by_cases h1 : F_X7_isIn x1 2 5 = 0
  · refine Or.inr ⟨?_, Or.inl h1⟩
    rw [e, if_pos h1]
    decide
  · by_cases h2 : F_X7_isIn x2 2 5 = 0
    · refine Or.inr ⟨?_, Or.inr ⟨h1, h2⟩⟩
      rw [e, if_neg h1, if_pos h2]
      decide
    · refine Or.inl ⟨?_, h1, h2⟩
      rw [e, if_neg h1, if_neg h2]

theorem lay4_acc {x1 x2 : Int32} (h : E_X4_lay x1 x2 = 0) : ¬ F_X4_isSize x1 = 0 ∧ ¬ F_X4_isSize x2 = 0 := by
  unfold E_X4_lay at h
  by_cases h1 : F_X4_isSize x1 = 0
  · rw [if_pos h1] at h; exact absurd h (by decide)
  · rw [if_neg h1] at h
    by_cases h2 : F_X4_isSize x2 = 0
    · rw [if_pos h2] at h; exact absurd h (by decide)
    · exact ⟨h1, h2⟩

/-! the class's count of bits and the reference's -/
def pcf : Nat → Nat → Nat
  | 0, _ => 0
  | f + 1, n => n % 2 + pcf f (n / 2)
theorem pcf_0 : ∀ f, pcf f 0 = 0
  | 0 => rfl
  | f + 1 => by
    show 0 % 2 + pcf f (0 / 2) = 0
    rw [show 0 / 2 = 0 from rfl, pcf_0 f]
theorem pcf_add : ∀ (a b n : Nat), pcf (a + b) n = pcf a n + pcf b (n / 2 ^ a)
  | 0, b, n => by
    rw [Nat.zero_add, Nat.pow_zero, Nat.div_one]
    exact (Nat.zero_add _).symm
  | a + 1, b, n => by
    rw [show a + 1 + b = (a + b) + 1 by omega]
    show n % 2 + pcf (a + b) (n / 2) = n % 2 + pcf a (n / 2) + pcf b (n / 2 ^ (a + 1))
    rw [pcf_add a b (n / 2), Nat.div_div_eq_div_mul, Nat.pow_succ', Nat.add_assoc]
theorem pcf_mod : ∀ (f n : Nat), pcf f (n % 2 ^ f) = pcf f n
  | 0, _ => rfl
  | f + 1, n => by
    show (n % 2 ^ (f + 1)) % 2 + pcf f (n % 2 ^ (f + 1) / 2) = n % 2 + pcf f (n / 2)
    rw [Nat.pow_succ', Nat.mod_mul_right_mod, Nat.mod_mul_right_div_self, pcf_mod f (n / 2)]
theorem many_L : ∀ (f i m n : Nat), n < 2 ^ 31 → L_X7_many_4 f i (nI m, nI n) = nI (m + pcf f n)
  | 0, _, _, _, _ => rfl
  | f + 1, i, m, n, h => by
    show (if nI n ≤ 0 then nI m else L_X7_many_4 f (i + 1) (nI m + (nI n - nI n / 2 * 2), nI n / 2)) = _
    by_cases h0 : nI n ≤ 0
    · rw [if_pos h0]
      have h1 : n = 0 := by
        rw [Int32.le_iff_toInt_le, nI_toInt h] at h0
        have e0 : (0 : Int32).toInt = 0 := by decide
        rw [e0] at h0
        omega
      rw [h1, pcf_0]
      rfl
    · rw [if_neg h0, show (2 : Int32) = nI 2 from rfl, pk_rem h (by decide) (by decide), pk_div h (by decide) (by decide), nI_add, many_L f (i + 1) (m + n % 2) (n / 2) (by omega)]
      show nI (m + n % 2 + pcf f (n / 2)) = nI (m + (n % 2 + pcf f (n / 2)))
      rw [Nat.add_assoc]
theorem many_pc {n : Nat} (h : n < 2 ^ 31) : F_X7_many (nI n) = nI (pcf 31 n) := by
  have h1 := many_L 31 0 0 n h
  rw [Nat.zero_add] at h1
  exact h1
theorem and_nI (a b : Nat) : nI a &&& nI b = nI (a &&& b) := by
  apply Int32.toBitVec_inj.mp
  apply BitVec.eq_of_toNat_eq
  rw [Int32.toBitVec_and, BitVec.toNat_and]
  show a % 2 ^ 32 &&& b % 2 ^ 32 = (a &&& b) % 2 ^ 32
  rw [Nat.and_mod_two_pow]
theorem and_split (j : Nat) {a b m M : Nat} (ha : a < 2 ^ j) (hm : m < 2 ^ j) : (a + 2 ^ j * b) &&& (m + 2 ^ j * M) = (a &&& m) + 2 ^ j * (b &&& M) := by
  have h1 : ((a + 2 ^ j * b) &&& (m + 2 ^ j * M)) % 2 ^ j = a &&& m := by
    rw [Nat.and_mod_two_pow, Nat.add_mul_mod_self_left, Nat.add_mul_mod_self_left, Nat.mod_eq_of_lt ha, Nat.mod_eq_of_lt hm]
  have h2 : ((a + 2 ^ j * b) &&& (m + 2 ^ j * M)) / 2 ^ j = b &&& M := by
    rw [Nat.and_div_two_pow, Nat.add_mul_div_left _ _ (Nat.two_pow_pos j), Nat.add_mul_div_left _ _ (Nat.two_pow_pos j), Nat.div_eq_of_lt ha, Nat.div_eq_of_lt hm, Nat.zero_add, Nat.zero_add]
  have h3 := Nat.mod_add_div ((a + 2 ^ j * b) &&& (m + 2 ^ j * M)) (2 ^ j)
  rw [h1, h2] at h3
  exact h3.symm
def A16 (x : Nat) : Nat := x - (x / 2 &&& 21845)
def B16 (x : Nat) : Nat := (A16 x &&& 13107) + (A16 x / 4 &&& 13107)
def C16 (x : Nat) : Nat := (B16 x + B16 x / 16) &&& 3855
def A8 (x : Nat) : Nat := x - (x / 2 &&& 85)
def B8 (x : Nat) : Nat := (A8 x &&& 51) + (A8 x / 4 &&& 51)
def C8 (x : Nat) : Nat := (B8 x + B8 x / 16) &&& 15
theorem B8_eq (x : Nat) : B8 x = (A8 x &&& 51) + (A8 x / 4 &&& 51) := rfl
theorem C8_eq (x : Nat) : C8 x = (B8 x + B8 x / 16) &&& 15 := rfl
theorem B16_eq (x : Nat) : B16 x = (A16 x &&& 13107) + (A16 x / 4 &&& 13107) := rfl
theorem C16_eq (x : Nat) : C16 x = (B16 x + B16 x / 16) &&& 3855 := rfl
theorem all_8 : ∀ a, a < 256 → C8 a = pcf 8 a ∧ C8 a ≤ 8 ∧ B8 a % 16 ≤ 4 ∧ B8 a ≤ 68 := by decide +kernel
theorem mA {lo hi : Nat} (h : lo < 256) : (lo + 256 * hi) - ((lo + 256 * hi) / 2 &&& 21845) = A8 lo + 256 * (hi - (hi / 2 &&& 85)) := by
  have h1 : (lo + 256 * hi) / 2 = (lo / 2 + 2 ^ 7 * (hi % 2)) + 2 ^ 8 * (hi / 2) := by omega
  have h2 : (lo / 2 + 2 ^ 7 * (hi % 2)) &&& (85 + 2 ^ 7 * 0) = (lo / 2 &&& 85) + 2 ^ 7 * (hi % 2 &&& 0) := and_split 7 (by omega) (by decide)
  have h3 : ((lo / 2 + 2 ^ 7 * (hi % 2)) + 2 ^ 8 * (hi / 2)) &&& (85 + 2 ^ 8 * 85) = ((lo / 2 + 2 ^ 7 * (hi % 2)) &&& 85) + 2 ^ 8 * (hi / 2 &&& 85) := and_split 8 (by omega) (by decide)
  simp only [Nat.and_zero, Nat.mul_zero, Nat.add_zero] at h2
  rw [h1, show (21845 : Nat) = 85 + 2 ^ 8 * 85 from rfl, h3, h2]
  unfold A8
  have g1 : lo / 2 &&& 85 ≤ lo / 2 := Nat.and_le_left
  have g2 : hi / 2 &&& 85 ≤ hi / 2 := Nat.and_le_left
  omega
theorem mB {l h : Nat} (hl : l < 256) : ((l + 256 * h) &&& 13107) + ((l + 256 * h) / 4 &&& 13107) = ((l &&& 51) + (l / 4 &&& 51)) + 256 * ((h &&& 51) + (h / 4 &&& 51)) := by
  have h0 : (l + 2 ^ 8 * h) &&& (51 + 2 ^ 8 * 51) = (l &&& 51) + 2 ^ 8 * (h &&& 51) := and_split 8 (by omega) (by decide)
  have h1 : (l + 256 * h) / 4 = (l / 4 + 2 ^ 6 * (h % 4)) + 2 ^ 8 * (h / 4) := by omega
  have h2 : (l / 4 + 2 ^ 6 * (h % 4)) &&& (51 + 2 ^ 6 * 0) = (l / 4 &&& 51) + 2 ^ 6 * (h % 4 &&& 0) := and_split 6 (by omega) (by decide)
  have h3 : ((l / 4 + 2 ^ 6 * (h % 4)) + 2 ^ 8 * (h / 4)) &&& (51 + 2 ^ 8 * 51) = ((l / 4 + 2 ^ 6 * (h % 4)) &&& 51) + 2 ^ 8 * (h / 4 &&& 51) := and_split 8 (by omega) (by decide)
  simp only [Nat.and_zero, Nat.mul_zero, Nat.add_zero] at h2
  have e : (13107 : Nat) = 51 + 2 ^ 8 * 51 := rfl
  have e2 : l + 256 * h = l + 2 ^ 8 * h := rfl
  rw [h1, e, h3, h2, e2, h0]
  omega
theorem mC {l h : Nat} (hl : l ≤ 68) (hq : h % 16 ≤ 4) : ((l + 256 * h) + (l + 256 * h) / 16) &&& 3855 = ((l + l / 16) &&& 15) + 256 * ((h + h / 16) &&& 15) := by
  have h1 : (l + 256 * h) + (l + 256 * h) / 16 = (l + l / 16 + 2 ^ 4 * (h % 16)) + 2 ^ 8 * (h + h / 16) := by omega
  have h3 : ((l + l / 16 + 2 ^ 4 * (h % 16)) + 2 ^ 8 * (h + h / 16)) &&& (15 + 2 ^ 8 * 15) = ((l + l / 16 + 2 ^ 4 * (h % 16)) &&& 15) + 2 ^ 8 * ((h + h / 16) &&& 15) := and_split 8 (by omega) (by decide)
  have h4 : ((l + l / 16) % 16 + 2 ^ 4 * ((l + l / 16) / 16 + h % 16)) &&& (15 + 2 ^ 4 * 0) = ((l + l / 16) % 16 &&& 15) + 2 ^ 4 * (((l + l / 16) / 16 + h % 16) &&& 0) := and_split 4 (by omega) (by decide)
  have h5 : ((l + l / 16) % 16 + 2 ^ 4 * ((l + l / 16) / 16)) &&& (15 + 2 ^ 4 * 0) = ((l + l / 16) % 16 &&& 15) + 2 ^ 4 * (((l + l / 16) / 16) &&& 0) := and_split 4 (by omega) (by decide)
  simp only [Nat.and_zero, Nat.mul_zero, Nat.add_zero] at h4 h5
  have e4 : (l + l / 16) % 16 + 2 ^ 4 * ((l + l / 16) / 16 + h % 16) = l + l / 16 + 2 ^ 4 * (h % 16) := by omega
  have e5 : (l + l / 16) % 16 + 2 ^ 4 * ((l + l / 16) / 16) = l + l / 16 := by omega
  rw [e4] at h4
  rw [e5] at h5
  rw [h1, show (3855 : Nat) = 15 + 2 ^ 8 * 15 from rfl, h3, h4, h5]
theorem c16 {x : Nat} (h : x < 65536) : C16 x % 256 + C16 x / 256 = pcf 16 x ∧ C16 x / 256 ≤ 8 ∧ C16 x % 256 ≤ 8 ∧ B16 x % 16 ≤ 4 ∧ B16 x ≤ 17476 := by
  obtain ⟨a, b, h1, h2, rfl⟩ : ∃ a b, a < 256 ∧ b < 256 ∧ x = a + 256 * b := ⟨x % 256, x / 256, by omega, by omega, by omega⟩
  obtain ⟨p1, p2, p3, p4⟩ := all_8 a h1
  obtain ⟨q1, q2, q3, q4⟩ := all_8 b h2
  have e1 : A16 (a + 256 * b) = A8 a + 256 * A8 b := mA h1
  have e2 : B16 (a + 256 * b) = B8 a + 256 * B8 b := by
    unfold B16
    rw [e1, mB (l := A8 a) (show A8 a < 256 from Nat.lt_of_le_of_lt (Nat.sub_le _ _) h1), B8_eq, B8_eq]
  have e3 : C16 (a + 256 * b) = C8 a + 256 * C8 b := by
    unfold C16
    rw [e2, mC p4 q3, C8_eq, C8_eq]
  have e4 : pcf 16 (a + 256 * b) = pcf 8 a + pcf 8 b := by
    rw [show (16 : Nat) = 8 + 8 from rfl, pcf_add 8 8, ← pcf_mod 8 (a + 256 * b), show (2 : Nat) ^ 8 = 256 from rfl, Nat.add_mul_mod_self_left, Nat.mod_eq_of_lt h1, show (a + 256 * b) / 256 = b by omega]
  rw [e2, e3, e4, ← p1, ← q1]
  omega
theorem A16_le (x : Nat) : A16 x ≤ x := Nat.sub_le _ _
theorem nA {lo hi : Nat} (h : lo < 65536) : (lo + 65536 * hi) - ((lo + 65536 * hi) / 2 &&& 1431655765) = A16 lo + 65536 * A16 hi := by
  have h1 : (lo + 65536 * hi) / 2 = (lo / 2 + 2 ^ 15 * (hi % 2)) + 2 ^ 16 * (hi / 2) := by omega
  have h2 : (lo / 2 + 2 ^ 15 * (hi % 2)) &&& (21845 + 2 ^ 15 * 0) = (lo / 2 &&& 21845) + 2 ^ 15 * (hi % 2 &&& 0) := and_split 15 (by omega) (by decide)
  have h3 : ((lo / 2 + 2 ^ 15 * (hi % 2)) + 2 ^ 16 * (hi / 2)) &&& (21845 + 2 ^ 16 * 21845) = ((lo / 2 + 2 ^ 15 * (hi % 2)) &&& 21845) + 2 ^ 16 * (hi / 2 &&& 21845) := and_split 16 (by omega) (by decide)
  simp only [Nat.and_zero, Nat.mul_zero, Nat.add_zero] at h2
  rw [h1, show (1431655765 : Nat) = 21845 + 2 ^ 16 * 21845 from rfl, h3, h2]
  unfold A16
  have g1 : lo / 2 &&& 21845 ≤ lo / 2 := Nat.and_le_left
  have g2 : hi / 2 &&& 21845 ≤ hi / 2 := Nat.and_le_left
  omega
theorem nB {l h : Nat} (hl : l < 65536) : ((l + 65536 * h) &&& 858993459) + ((l + 65536 * h) / 4 &&& 858993459) = ((l &&& 13107) + (l / 4 &&& 13107)) + 65536 * ((h &&& 13107) + (h / 4 &&& 13107)) := by
  have h0 : (l + 2 ^ 16 * h) &&& (13107 + 2 ^ 16 * 13107) = (l &&& 13107) + 2 ^ 16 * (h &&& 13107) := and_split 16 (by omega) (by decide)
  have h1 : (l + 65536 * h) / 4 = (l / 4 + 2 ^ 14 * (h % 4)) + 2 ^ 16 * (h / 4) := by omega
  have h2 : (l / 4 + 2 ^ 14 * (h % 4)) &&& (13107 + 2 ^ 14 * 0) = (l / 4 &&& 13107) + 2 ^ 14 * (h % 4 &&& 0) := and_split 14 (by omega) (by decide)
  have h3 : ((l / 4 + 2 ^ 14 * (h % 4)) + 2 ^ 16 * (h / 4)) &&& (13107 + 2 ^ 16 * 13107) = ((l / 4 + 2 ^ 14 * (h % 4)) &&& 13107) + 2 ^ 16 * (h / 4 &&& 13107) := and_split 16 (by omega) (by decide)
  simp only [Nat.and_zero, Nat.mul_zero, Nat.add_zero] at h2
  have e : (858993459 : Nat) = 13107 + 2 ^ 16 * 13107 := rfl
  have e2 : l + 65536 * h = l + 2 ^ 16 * h := rfl
  rw [h1, e, h3, h2, e2, h0]
  omega
theorem nC {l h : Nat} (hl : l ≤ 17476) (hq : h % 16 ≤ 4) : ((l + 65536 * h) + (l + 65536 * h) / 16) &&& 252645135 = ((l + l / 16) &&& 3855) + 65536 * ((h + h / 16) &&& 3855) := by
  have h1 : (l + 65536 * h) + (l + 65536 * h) / 16 = (l + l / 16 + 2 ^ 12 * (h % 16)) + 2 ^ 16 * (h + h / 16) := by omega
  have h3 : ((l + l / 16 + 2 ^ 12 * (h % 16)) + 2 ^ 16 * (h + h / 16)) &&& (3855 + 2 ^ 16 * 3855) = ((l + l / 16 + 2 ^ 12 * (h % 16)) &&& 3855) + 2 ^ 16 * ((h + h / 16) &&& 3855) := and_split 16 (by omega) (by decide)
  have h4 : ((l + l / 16) % 4096 + 2 ^ 12 * ((l + l / 16) / 4096 + h % 16)) &&& (3855 + 2 ^ 12 * 0) = ((l + l / 16) % 4096 &&& 3855) + 2 ^ 12 * (((l + l / 16) / 4096 + h % 16) &&& 0) := and_split 12 (by omega) (by decide)
  have h5 : ((l + l / 16) % 4096 + 2 ^ 12 * ((l + l / 16) / 4096)) &&& (3855 + 2 ^ 12 * 0) = ((l + l / 16) % 4096 &&& 3855) + 2 ^ 12 * (((l + l / 16) / 4096) &&& 0) := and_split 12 (by omega) (by decide)
  simp only [Nat.and_zero, Nat.mul_zero, Nat.add_zero] at h4 h5
  have e4 : (l + l / 16) % 4096 + 2 ^ 12 * ((l + l / 16) / 4096 + h % 16) = l + l / 16 + 2 ^ 12 * (h % 16) := by omega
  have e5 : (l + l / 16) % 4096 + 2 ^ 12 * ((l + l / 16) / 4096) = l + l / 16 := by omega
  rw [e4] at h4
  rw [e5] at h5
  rw [h1, show (252645135 : Nat) = 3855 + 2 ^ 16 * 3855 from rfl, h3, h4, h5]
theorem sum_1 {u v U V : Nat} (h1 : u ≤ 8) (h2 : v ≤ 8) (h3 : U ≤ 8) (h4 : V ≤ 8) : (u + 256 * v + 65536 * (U + 256 * V)) / 256 = v + 256 * U + 65536 * V := by omega
theorem sum_2 {u v U V : Nat} (h1 : u ≤ 8) (h2 : v ≤ 8) (h3 : U ≤ 8) (h4 : V ≤ 8) : (u + 256 * v + 65536 * (U + 256 * V) + (v + 256 * U + 65536 * V)) / 65536 = U + V + 256 * V := by omega
theorem sum_3 {u v U V : Nat} (h1 : u ≤ 8) (h2 : v ≤ 8) (h3 : U ≤ 8) (h4 : V ≤ 8) : (u + 256 * v + 65536 * (U + 256 * V) + (v + 256 * U + 65536 * V) + (U + V + 256 * V)) % 64 = u + v + (U + V) := by
  have e : u + 256 * v + 65536 * (U + 256 * V) + (v + 256 * U + 65536 * V) + (U + V + 256 * V) = (u + v + (U + V)) + 64 * (4 * v + 1024 * U + 262144 * V + 4 * U + 1024 * V + 4 * V) := by omega
  rw [e, Nat.add_mul_mod_self_left]
  exact Nat.mod_eq_of_lt (by omega)
theorem bit_pc {n : Nat} (h : n < 2 ^ 31) : F_J6_bitCount_0f7a4 (nI n) = nI (pcf 31 n) := by
  obtain ⟨lo, hi, h1, h2, rfl⟩ : ∃ lo hi, lo < 65536 ∧ hi < 32768 ∧ n = lo + 65536 * hi := ⟨n % 65536, n / 65536, by omega, by omega, by omega⟩
  obtain ⟨p1, p2, p3, p4, p5⟩ := c16 h1
  obtain ⟨q1, q2, q3, q4, q5⟩ := c16 (show hi < 65536 by omega)
  have hAl := A16_le lo
  have hAh := A16_le hi
  have t9 : T_J6_bitCount_0f7a4_9 (nI (lo + 65536 * hi)) = nI (A16 lo + 65536 * A16 hi) := by
    unfold T_J6_bitCount_0f7a4_9
    rw [pk_ushrN (by omega) 1 1 (by decide), show (1431655765 : Int32) = nI 1431655765 from rfl, and_nI, pk_sub (Nat.le_trans Nat.and_le_left (by omega)), Nat.pow_one, nA h1]
  have t23 : T_J6_bitCount_0f7a4_23 (nI (lo + 65536 * hi)) = nI (B16 lo + 65536 * B16 hi) := by
    unfold T_J6_bitCount_0f7a4_23
    rw [t9, pk_ushrN (by omega) 2 2 (by decide), show (858993459 : Int32) = nI 858993459 from rfl, and_nI, and_nI, nI_add, show (2 : Nat) ^ 2 = 4 from rfl, nB (by omega), B16_eq, B16_eq]
  have t33 : T_J6_bitCount_0f7a4_33 (nI (lo + 65536 * hi)) = nI (C16 lo + 65536 * C16 hi) := by
    unfold T_J6_bitCount_0f7a4_33
    rw [t23, pk_ushrN (by omega) 4 4 (by decide), nI_add, show (252645135 : Int32) = nI 252645135 from rfl, and_nI, show (2 : Nat) ^ 4 = 16 from rfl, nC p5 q4, C16_eq, C16_eq]
  have hc : C16 lo = C16 lo % 256 + 256 * (C16 lo / 256) := (Nat.mod_add_div _ _).symm
  have hd : C16 hi = C16 hi % 256 + 256 * (C16 hi / 256) := (Nat.mod_add_div _ _).symm
  generalize C16 lo % 256 = u at *
  generalize C16 lo / 256 = v at *
  generalize C16 hi % 256 = U at *
  generalize C16 hi / 256 = V at *
  rw [hc, hd] at t33
  have t40 : T_J6_bitCount_0f7a4_40 (nI (lo + 65536 * hi)) = nI (u + 256 * v + 65536 * (U + 256 * V) + (v + 256 * U + 65536 * V)) := by
    unfold T_J6_bitCount_0f7a4_40
    rw [t33, pk_ushrN (by omega) 8 8 (by decide), nI_add, show (2 : Nat) ^ 8 = 256 from rfl, sum_1 p3 p2 q3 q2]
  have t47 : T_J6_bitCount_0f7a4_47 (nI (lo + 65536 * hi)) = nI (u + 256 * v + 65536 * (U + 256 * V) + (v + 256 * U + 65536 * V) + (U + V + 256 * V)) := by
    unfold T_J6_bitCount_0f7a4_47
    rw [t40, pk_ushrN (by omega) 16 16 (by decide), nI_add, show (2 : Nat) ^ 16 = 65536 from rfl, sum_2 p3 p2 q3 q2]
  unfold F_J6_bitCount_0f7a4
  rw [t47, pk_andN (by omega) 6 (by decide), show (2 : Nat) ^ 6 = 64 from rfl, sum_3 p3 p2 q3 q2, p1, q1]
  refine congrArg nI ?_
  rw [show (31 : Nat) = 16 + 15 from rfl, pcf_add 16 15, ← pcf_mod 16 (lo + 65536 * hi), show (2 : Nat) ^ 16 = 65536 from rfl, Nat.add_mul_mod_self_left, Nat.mod_eq_of_lt h1, show (lo + 65536 * hi) / 65536 = hi by omega]
  refine congrArg (pcf 16 lo + ·) ?_
  have h9 := pcf_add 15 1 hi
  rw [Nat.div_eq_of_lt (show hi < 2 ^ 15 by omega)] at h9
  exact h9.trans (by rw [pcf_0]; rfl)
theorem bit_many {n : Nat} (h : n < 2 ^ 31) : F_J6_bitCount_0f7a4 (nI n) = F_X7_many (nI n) := (bit_pc h).trans (many_pc h).symm
theorem bit_manyx {x : Int32} (h : 0 ≤ x) : F_J6_bitCount_0f7a4 x = F_X7_many x := by
  obtain ⟨j, hj, rfl⟩ := nI_of (x := x) (fun h2 => by
    rw [Int32.le_iff_toInt_le] at h
    rw [Int32.lt_iff_toInt_lt] at h2
    omega)
  exact bit_many hj

theorem has_hold (x k : Int32) : F_X4_holds x k = F_X7_has x k := rfl
theorem in_iff (x : Int32) (a b : Int32) : (F_X7_isIn x a b = 0 ∧ (x < a ∨ (¬ x < a ∧ b < x))) ∨ (¬ F_X7_isIn x a b = 0 ∧ ¬ x < a ∧ ¬ b < x) := by
  unfold F_X7_isIn
  by_cases h1 : x < a
  · rw [if_pos h1]; exact Or.inl ⟨rfl, Or.inl h1⟩
  · rw [if_neg h1]
    by_cases h2 : b < x
    · rw [if_pos h2]; exact Or.inl ⟨rfl, Or.inr ⟨h1, h2⟩⟩
    · rw [if_neg h2]; exact Or.inr ⟨by decide, h1, h2⟩
theorem key_iff {K : Nat} {x : Int32} (hK : K ≤ 25) (h0 : 0 < K) : (F_X3_hasKey K x = 0 ∧ ¬ F_X7_isNoKey K x = 0) ∨ (¬ F_X3_hasKey K x = 0 ∧ F_X7_isNoKey K x = 0 ∧ ∃ k, k < K ∧ x = nI k) := by
  unfold F_X3_hasKey F_X7_isNoKey
  rw [show F_Jx4a65c_size_8abf5 K - 1 = nI (K - 1) from nI_m1 h0]
  rcases in_iff x 0 (nI (K - 1)) with ⟨a1, a2 | ⟨a2, a3⟩⟩ | ⟨a1, a2, a3⟩
  · rw [if_pos a2, if_pos a1]; exact Or.inl ⟨rfl, by decide⟩
  · have h1 : nI K ≤ x := by
      rw [Int32.lt_iff_toInt_lt, nI_toInt (by omega)] at a3
      rw [Int32.le_iff_toInt_le, nI_toInt (by omega)]
      omega
    rw [if_neg a2, if_pos h1, if_pos a1]; exact Or.inl ⟨rfl, by decide⟩
  · have h1 : ¬ nI K ≤ x := by
      rw [Int32.lt_iff_toInt_lt, nI_toInt (by omega)] at a3
      rw [Int32.le_iff_toInt_le, nI_toInt (by omega)]
      omega
    obtain ⟨j, hj, rfl⟩ := nI_of a2
    rw [if_neg a2, if_neg h1, if_neg a1]
    refine Or.inr ⟨by decide, rfl, j, ?_, rfl⟩
    rcases Nat.lt_or_ge j K with q | q
    · exact q
    · exact absurd (nI_le q hj) h1
theorem i_nI (x : Int32) : x = nI x.toBitVec.toNat := by
  apply Int32.toBitVec_inj.mp
  apply BitVec.eq_of_toNat_eq
  show x.toBitVec.toNat = (BitVec.ofNat 32 x.toBitVec.toNat).toNat
  rw [BitVec.toNat_ofNat]
  omega
theorem shl25 : ∀ k, k < 26 → (1 : Int32) <<< (nI k &&& 31) = nI (2 ^ k) := by decide +kernel
theorem or_nI (a b : Nat) : nI a ||| nI b = nI (a ||| b) := by
  apply Int32.toBitVec_inj.mp
  apply BitVec.eq_of_toNat_eq
  rw [Int32.toBitVec_or, BitVec.toNat_or]
  show a % 2 ^ 32 ||| b % 2 ^ 32 = (a ||| b) % 2 ^ 32
  rw [Nat.or_mod_two_pow]
theorem with25 {x x2 : Int32} {k : Nat} (hx : ∃ b, b < 2 ^ 25 ∧ x = nI b) (hk : k < 25) : ∃ b, b < 2 ^ 25 ∧ F_X7_with x (nI k) x2 = nI b := by
  obtain ⟨b, hb, rfl⟩ := hx
  unfold F_X7_with
  by_cases h : x2 = 0
  · rw [if_pos h]
    refine ⟨(nI b &&& (((1 : Int32) <<< (nI k &&& 31)) ^^^ (-1))).toBitVec.toNat, ?_, i_nI _⟩
    rw [Int32.toBitVec_and, BitVec.toNat_and]
    refine Nat.lt_of_le_of_lt Nat.and_le_left ?_
    show b % 2 ^ 32 < 2 ^ 25
    rw [Nat.mod_eq_of_lt (by omega)]
    exact hb
  · rw [if_neg h, shl25 k (by omega), or_nI]
    exact ⟨_, Nat.or_lt_two_pow hb (Nat.pow_lt_pow_right (by decide) hk), rfl⟩
theorem hold_01 (x k : Int32) : F_X4_holds x k = 0 ∨ F_X4_holds x k = 1 := has_01 x k
theorem xor_with {he x2 : Int32} {k : Nat} (hk : k < 25) (h2 : x2 = 0 ∨ x2 = 1) (hne : ¬ F_X4_holds he (nI k) = x2) : he ^^^ ((1 : Int32) <<< (nI k &&& 31)) = F_X7_with he (nI k) x2 := by
  unfold F_X7_with
  rcases h2 with rfl | rfl
  · have hb : bt he k = true := by
      cases e : bt he k with
      | true => rfl
      | false => exact absurd ((holds_iff (by omega)).mpr e) hne
    rw [if_pos rfl]
    apply bt_ext
    intro j hj
    rw [bt_xor, bt_and, bt_not _ hj, bt_bit (by omega) hj]
    by_cases e : j = k
    · subst e; simp [hb]
    · simp [e]
  · have hb : bt he k = false := (holds_iff (by omega)).mp ((hold_01 he (nI k)).resolve_right hne)
    rw [if_neg (by decide)]
    apply bt_ext
    intro j hj
    rw [bt_xor, bt_or, bt_bit (by omega) hj]
    by_cases e : j = k
    · subst e; simp [hb]
    · simp [e]
theorem move_w {fB fN fM : Nat → Int32} {he x2 x3 : Int32} {k : Nat} (hk : k < 25) (h2 : x2 = 0 ∨ x2 = 1) : (F_X0_move fB fN fM he k x2 x3).1 = if F_X7_has he (nI k) = x2 then he else F_X7_with he (nI k) x2 := by
  unfold F_X0_move
  by_cases h : F_X4_holds he (nI k) = x2
  · rw [if_pos h, if_pos (show F_X7_has he (nI k) = x2 from h)]
  · rw [if_neg h, if_neg (show ¬ F_X7_has he (nI k) = x2 from h)]
    exact xor_with hk h2 h
theorem fit_w {R C : Nat} {fi di br x1 x2 x3 : Int32} : (F_X3_fit R C fi di br x1 x2 x3).1 = F_X7_with fi x1 x2 := by
  unfold F_X3_fit F_X7_with
  by_cases h : x2 = 0
  · rw [if_pos h, if_pos h]
    by_cases h3 : x3 = 0
    · rw [if_pos h3]; rfl
    · rw [if_neg h3]; rfl
  · rw [if_neg h, if_neg h]
    by_cases h3 : x3 = 0
    · rw [if_pos h3]; rfl
    · rw [if_neg h3]; rfl
theorem key_acc {K : Nat} {x1 x2 x4 x5 : Int32} (hK : K ≤ 25) (h0 : 0 < K) :
    (E_X4_key K x1 x2 x4 x5 = 2 ∧ ¬ F_X7_isNoKey K x1 = 0) ∨ (F_X7_isNoKey K x1 = 0 ∧ ∃ k, k < K ∧ x1 = nI k ∧ ((E_X4_key K x1 x2 x4 x5 = 1 ∧ (F_X7_isIn x4 0 5 = 0 ∨ (¬ F_X7_isIn x4 0 5 = 0 ∧ F_X7_isIn x5 0 2 = 0))) ∨ (E_X4_key K x1 x2 x4 x5 = 0 ∧ ¬ F_X7_isIn x4 0 5 = 0 ∧ ¬ F_X7_isIn x5 0 2 = 0))) := by
  unfold E_X4_key
  rcases key_iff (x := x1) hK h0 with ⟨a1, a2⟩ | ⟨a1, a2, k, a3, a4⟩
  · rw [if_pos a1]; exact Or.inl ⟨rfl, a2⟩
  · rw [if_neg a1]
    refine Or.inr ⟨a2, k, a3, a4, ?_⟩
    rcases in_iff x4 0 5 with ⟨b1, b2 | ⟨b2, b3⟩⟩ | ⟨b1, b2, b3⟩
    · rw [if_pos b2]; exact Or.inl ⟨rfl, Or.inl b1⟩
    · rw [if_neg b2, if_pos b3]; exact Or.inl ⟨rfl, Or.inl b1⟩
    · rw [if_neg b2, if_neg b3]
      rcases in_iff x5 0 2 with ⟨c1, c2 | ⟨c2, c3⟩⟩ | ⟨c1, c2, c3⟩
      · rw [if_pos c2]; exact Or.inl ⟨rfl, Or.inr ⟨b1, c1⟩⟩
      · rw [if_neg c2, if_neg (Int32.not_le.mpr c3)]; exact Or.inl ⟨rfl, Or.inr ⟨b1, c1⟩⟩
      · rw [if_neg c2, if_pos (Int32.not_lt.mp c3)]
        refine Or.inr ⟨?_, b1, c1⟩
        split <;> rfl

theorem key4 {sc : Nat} {R : Nat} {C : Nat} {K : Nat} {fi : Int32} {di : Int32} {br : Int32} {li : Int32} {he : Int32} {fB : Nat → Int32} {fS : Nat → Int32} {fN : Nat → Int32} {fM : Nat → Int32} {x1 : Int32} {x2 : Int32} {x3 : Int32} {x4 : Int32} {x5 : Int32} (h : E_X4_key K x1 x2 x4 x5 = 0) : (F_X4_key sc R C K fi di br li he fB fS fN fM x1 x2 x3 x4 x5).1 = F_J6_bitCount_0f7a4 (F_X7_with fi x1 x2) ∧ (F_X4_key sc R C K fi di br li he fB fS fN fM x1 x2 x3 x4 x5).2.1 = F_X7_with fi x1 x2 ∧ (F_X4_key sc R C K fi di br li he fB fS fN fM x1 x2 x3 x4 x5).2.2.2.2.2.2.1 = if x2 = 0 then (F_X0_move (upd fB x1.toNatClampNeg x4) fN fM he x1.toNatClampNeg 0 (nI sc)).1 else he := by
  unfold E_X4_key at h
  unfold F_X4_key
  by_cases h1 : F_X3_hasKey K x1 = 0
  · rw [if_pos h1] at h; exact absurd h (by decide)
  · rw [if_neg h1] at h ⊢
    by_cases h2 : x4 < 0
    · rw [if_pos h2] at h; exact absurd h (by decide)
    · rw [if_neg h2] at h ⊢
      by_cases h3 : 5 < x4
      · rw [if_pos h3] at h; exact absurd h (by decide)
      · rw [if_neg h3] at h ⊢
        by_cases h4 : x5 < 0
        · rw [if_pos h4] at h; exact absurd h (by decide)
        · rw [if_neg h4] at h ⊢
          by_cases h5 : x5 ≤ 2
          · rw [if_pos h5]
            by_cases h6 : x2 = 0
            · rw [if_pos h6, if_pos h6]
              exact ⟨congrArg F_J6_bitCount_0f7a4 fit_w, fit_w, rfl⟩
            · rw [if_neg h6, if_neg h6]
              exact ⟨congrArg F_J6_bitCount_0f7a4 fit_w, fit_w, rfl⟩
          · rw [if_neg h5] at h; exact absurd h (by decide)
theorem keym_acc {fi : Int32} {di : Int32} {he : Int32} {sc : Nat} {K : Nat} {V : Nat → KV} {x1 : Int32} {x2 : Int32} {x3 : Int32} {x4 : Int32} {x5 : Int32} (h1 : F_X7_isNoKey K x1 = 0) (h2 : ¬ F_X7_isIn x4 0 5 = 0) (h3 : ¬ F_X7_isIn x5 0 2 = 0) : (F_X7_key fi di he sc K V x1 x2 x3 x4 x5).1 = F_X7_many (F_X7_with fi x1 x2) ∧ (F_X7_key fi di he sc K V x1 x2 x3 x4 x5).2.1 = (F_X7_refuse ((F_X7_start (F_X7_isNoKey K x1) 1).2) 0 2).2 ∧ (F_X7_key fi di he sc K V x1 x2 x3 x4 x5).2.2.1 = F_X7_with fi x1 x2 ∧ (F_X7_key fi di he sc K V x1 x2 x3 x4 x5).2.2.2.2.1 = if x2 = 0 then (if F_X7_has he x1 = 0 then he else F_X7_with he (nI x1.toNatClampNeg) 0) else he := by
  have hs : (F_X7_start (F_X7_isNoKey K x1) 1).1 = 0 := by rw [h1]; decide
  unfold F_X7_key
  rw [if_pos hs, if_neg h2, if_neg h3]
  by_cases h6 : x2 = 0
  · rw [if_pos h6, if_pos h6]
    by_cases h7 : F_X7_has he x1 = 0
    · rw [if_pos h7, if_pos h7]; exact ⟨rfl, rfl, rfl, rfl⟩
    · rw [if_neg h7, if_neg h7]; exact ⟨rfl, rfl, rfl, rfl⟩
  · rw [if_neg h6, if_neg h6]; exact ⟨rfl, rfl, rfl, rfl⟩
theorem keym_ref {fi : Int32} {di : Int32} {he : Int32} {sc : Nat} {K : Nat} {V : Nat → KV} {x1 : Int32} {x2 : Int32} {x3 : Int32} {x4 : Int32} {x5 : Int32} (h1 : F_X7_isNoKey K x1 = 0) (h2 : F_X7_isIn x4 0 5 = 0 ∨ (¬ F_X7_isIn x4 0 5 = 0 ∧ F_X7_isIn x5 0 2 = 0)) : (F_X7_key fi di he sc K V x1 x2 x3 x4 x5).2.1 = (F_X7_refuse ((F_X7_start (F_X7_isNoKey K x1) 1).2) 1 2).2 ∧ (F_X7_key fi di he sc K V x1 x2 x3 x4 x5).2.2.1 = fi ∧ (F_X7_key fi di he sc K V x1 x2 x3 x4 x5).2.2.2.2.1 = he := by
  have hs : (F_X7_start (F_X7_isNoKey K x1) 1).1 = 0 := by rw [h1]; decide
  unfold F_X7_key
  rcases h2 with h2 | ⟨h2, h3⟩
  · rw [if_pos hs, if_pos h2]; exact ⟨rfl, rfl, rfl⟩
  · rw [if_pos hs, if_neg h2, if_pos h3]; exact ⟨rfl, rfl, rfl⟩
theorem keym_no {fi : Int32} {di : Int32} {he : Int32} {sc : Nat} {K : Nat} {V : Nat → KV} {x1 : Int32} {x2 : Int32} {x3 : Int32} {x4 : Int32} {x5 : Int32} (h1 : ¬ F_X7_isNoKey K x1 = 0) : (F_X7_key fi di he sc K V x1 x2 x3 x4 x5).2.1 = 1 ∧ (F_X7_key fi di he sc K V x1 x2 x3 x4 x5).2.2.1 = fi ∧ (F_X7_key fi di he sc K V x1 x2 x3 x4 x5).2.2.2.2.1 = he := by
  have h2 : F_X7_isNoKey K x1 = 1 := (nk_01 K x1).resolve_left h1
  have hs : ¬ (F_X7_start (F_X7_isNoKey K x1) 1).1 = 0 := by rw [h2]; decide
  unfold F_X7_key
  rw [if_neg hs]
  refine ⟨?_, rfl, rfl⟩
  show (F_X7_start (F_X7_isNoKey K x1) 1).2 = 1
  rw [h2]
  decide

/-- key leaves what is fitted and what is held alike on both sides -/
theorem key_eq {sc : Nat} {R : Nat} {C : Nat} {K : Nat} {fi : Int32} {di : Int32} {br : Int32} {li : Int32} {he : Int32} {fB : Nat → Int32} {fS : Nat → Int32} {fN : Nat → Int32} {fM : Nat → Int32} {x1 : Int32} {x2 : Int32} {x3 : Int32} {x4 : Int32} {x5 : Int32} {mfi : Int32} {mdi : Int32} {mhe : Int32} {msc : Nat} {mK : Nat} {mV : Nat → KV} (hK : K ≤ 25) (h0 : 0 < mK) (hx2 : x2 = 0 ∨ x2 = 1) (h : he = mhe ∧ fi = mfi ∧ K = mK ∧ (∃ b, b < 2 ^ 25 ∧ he = nI b) ∧ ∃ b, b < 2 ^ 25 ∧ fi = nI b) : (F_L_key sc R C K fi di br li he fB fS fN fM x1 x2 x3 x4 x5).2.2.2.2.2.1 = (F_X7_key mfi mdi mhe msc mK mV x1 x2 x3 x4 x5).2.2.2.2.1 ∧ (F_L_key sc R C K fi di br li he fB fS fN fM x1 x2 x3 x4 x5).1 = (F_X7_key mfi mdi mhe msc mK mV x1 x2 x3 x4 x5).2.2.1 ∧ (∃ b, b < 2 ^ 25 ∧ (F_L_key sc R C K fi di br li he fB fS fN fM x1 x2 x3 x4 x5).2.2.2.2.2.1 = nI b) ∧ ∃ b, b < 2 ^ 25 ∧ (F_L_key sc R C K fi di br li he fB fS fN fM x1 x2 x3 x4 x5).1 = nI b := by
  obtain ⟨e1, e2, e3, hb, hf⟩ := h
  subst e1
  subst e2
  subst e3
  rcases key_acc (x1 := x1) (x2 := x2) (x4 := x4) (x5 := x5) hK h0 with ⟨g0, g1⟩ | ⟨g1, k, g2, g3, ⟨g0, g4⟩ | ⟨g0, g4, g5⟩⟩
  · obtain ⟨-, m2, m3⟩ := keym_no (fi := fi) (di := mdi) (he := he) (sc := msc) (V := mV) (x2 := x2) (x3 := x3) (x4 := x4) (x5 := x5) g1
    have f1 : (F_L_key sc R C K fi di br li he fB fS fN fM x1 x2 x3 x4 x5).2.2.2.2.2.1 = he ∧ (F_L_key sc R C K fi di br li he fB fS fN fM x1 x2 x3 x4 x5).1 = fi := by unfold F_L_key; rw [if_neg (show ¬ E_X4_key K x1 x2 x4 x5 = 0 by rw [g0]; decide)]; exact ⟨rfl, rfl⟩
    rw [f1.1, f1.2, m2, m3]
    exact ⟨rfl, rfl, hb, hf⟩
  · obtain ⟨-, m2, m3⟩ := keym_ref (fi := fi) (di := mdi) (he := he) (sc := msc) (V := mV) (x2 := x2) (x3 := x3) (x4 := x4) (x5 := x5) g1 g4
    have f1 : (F_L_key sc R C K fi di br li he fB fS fN fM x1 x2 x3 x4 x5).2.2.2.2.2.1 = he ∧ (F_L_key sc R C K fi di br li he fB fS fN fM x1 x2 x3 x4 x5).1 = fi := by unfold F_L_key; rw [if_neg (show ¬ E_X4_key K x1 x2 x4 x5 = 0 by rw [g0]; decide)]; exact ⟨rfl, rfl⟩
    rw [f1.1, f1.2, m2, m3]
    exact ⟨rfl, rfl, hb, hf⟩
  · obtain ⟨-, -, m2, m3⟩ := keym_acc (fi := fi) (di := mdi) (he := he) (sc := msc) (V := mV) (x2 := x2) (x3 := x3) (x4 := x4) (x5 := x5) g1 g4 g5
    obtain ⟨-, l1, l2⟩ := key4 (sc := sc) (R := R) (C := C) (fi := fi) (di := di) (br := br) (li := li) (he := he) (fB := fB) (fS := fS) (fN := fN) (fM := fM) (x3 := x3) g0
    have f1 : (F_L_key sc R C K fi di br li he fB fS fN fM x1 x2 x3 x4 x5).2.2.2.2.2.1 = (F_X4_key sc R C K fi di br li he fB fS fN fM x1 x2 x3 x4 x5).2.2.2.2.2.2.1 ∧ (F_L_key sc R C K fi di br li he fB fS fN fM x1 x2 x3 x4 x5).1 = (F_X4_key sc R C K fi di br li he fB fS fN fM x1 x2 x3 x4 x5).2.1 := by unfold F_L_key; rw [if_pos g0]; exact ⟨rfl, rfl⟩
    subst g3
    rw [nI_clamp (by omega)] at l2 m3
    have hw : (if x2 = 0 then (F_X0_move (upd fB k x4) fN fM he k 0 (nI sc)).1 else he) = if x2 = 0 then (if F_X7_has he (nI k) = 0 then he else F_X7_with he (nI k) 0) else he := by
      by_cases h6 : x2 = 0
      · rw [if_pos h6, if_pos h6, move_w (by omega) (Or.inl rfl)]
      · rw [if_neg h6, if_neg h6]
    rw [f1.1, f1.2, l1, l2, m2, m3, hw]
    refine ⟨rfl, rfl, ?_, with25 hf (by omega)⟩
    by_cases h6 : x2 = 0
    · rw [if_pos h6]
      by_cases h7 : F_X7_has he (nI k) = 0
      · rw [if_pos h7]; exact hb
      · rw [if_neg h7]; exact with25 hb (by omega)
    · rw [if_neg h6]; exact hb

/-! what a set of closed keys shows: both sides are the closure of each row -/
theorem mul_nI : ∀ i, i < 6 → ∀ C, C < 6 → nI i * nI C = nI (i * C) := by decide +kernel
theorem mask_b : ∀ C, C < 6 → ∀ j, j < 32 → bt (((1 : Int32) <<< (nI C &&& 31)) - 1) j = decide (j < C) := by decide +kernel
theorem rc_lt {R C r c : Nat} (hR : R ≤ 5) (hC : C ≤ 5) (hr : r < R) (hc : c < C) : r * C + c < 25 := by
  have h1 : r * C ≤ 4 * C := Nat.mul_le_mul_right C (by omega)
  omega
theorem bt_col {C : Nat} (hC : C ≤ 5) (x : Int32) {r : Nat} (hr : r < 5) (c : Nat) : bt (F_X3_columnsOf C x (nI r)) c = (decide (c < C) && bt x (r * C + c)) := by
  unfold F_X3_columnsOf
  by_cases h32 : c < 32
  · rw [bt_and, mask_b C (by omega) c h32, mul_nI r (by omega) C (by omega)]
    by_cases hc : c < C
    · have h1 := rc_lt (R := 5) (by omega) hC hr hc
      rw [bt_shr x (by omega) (by omega), Nat.add_comm c (r * C), Bool.and_comm]
    · rw [decide_eq_false hc, Bool.and_false, Bool.false_and]
  · rw [bt_big _ (by omega), decide_eq_false (by omega), Bool.false_and]
theorem col_ne {C : Nat} (hC : C ≤ 5) {x a : Int32} {r : Nat} (hr : r < 5) : ¬ (F_X3_columnsOf C x (nI r)) &&& a = 0 ↔ ∃ c, c < C ∧ bt x (r * C + c) = true ∧ bt a c = true := by
  constructor
  · intro h
    refine Classical.byContradiction fun hn => h (bt_zero.mpr fun j hj => ?_)
    rw [bt_and, bt_col hC x hr]
    cases e : (decide (j < C) && bt x (r * C + j)) && bt a j with
    | false => rfl
    | true =>
      simp only [Bool.and_eq_true, decide_eq_true_eq] at e
      exact absurd ⟨j, e.1.1, e.1.2, e.2⟩ hn
  · rintro ⟨c, h1, h2, h3⟩ h
    have h4 := bt_zero.mp h c (by omega)
    rw [bt_and, bt_col hC x hr, h2, h3, decide_eq_true h1] at h4
    exact absurd h4 (by decide)
/-- the columns that a row comes to -/
def rch (R C : Nat) (fo ba : Int32) (r c : Nat) : Prop := ∀ P : Nat → Prop, (∀ c, c < C → bt fo (r * C + c) = true → P c) → (∀ i c d, i < R → P d → bt ba (i * C + d) = true → c < C → bt fo (i * C + c) = true → P c) → P c
theorem rch.base {R C : Nat} {fo ba : Int32} {r c : Nat} (h1 : c < C) (h2 : bt fo (r * C + c) = true) : rch R C fo ba r c := fun _ hb _ => hb c h1 h2
theorem rch.step {R C : Nat} {fo ba : Int32} {r i c d : Nat} (h1 : i < R) (h2 : rch R C fo ba r d) (h3 : bt ba (i * C + d) = true) (h4 : c < C) (h5 : bt fo (i * C + c) = true) : rch R C fo ba r c := fun P hb hs => hs i c d h1 (h2 P hb hs) h3 h4 h5
theorem rch.ind {R C : Nat} {fo ba : Int32} {r : Nat} {P : Nat → Prop} (hb : ∀ c, c < C → bt fo (r * C + c) = true → P c) (hs : ∀ i c d, i < R → rch R C fo ba r d → bt ba (i * C + d) = true → c < C → bt fo (i * C + c) = true → P d → P c) {c : Nat} (h : rch R C fo ba r c) : P c :=
  (h (fun c => rch R C fo ba r c ∧ P c) (fun c h1 h2 => ⟨.base h1 h2, hb c h1 h2⟩) (fun i c d h1 h2 h3 h4 h5 => ⟨.step h1 h2.1 h3 h4 h5, hs i c d h1 h2.1 h3 h4 h5 h2.2⟩)).2
theorem rch_lt {R C : Nat} {fo ba : Int32} {r c : Nat} (h : rch R C fo ba r c) : c < C := h (fun c => c < C) (fun _ h _ => h) (fun _ _ _ _ _ _ h _ => h)
theorem rch_first {R C : Nat} {fo ba : Int32} {r c : Nat} (h : rch R C fo ba r c) : ∃ d, d < C ∧ bt fo (r * C + d) = true := h (fun _ => ∃ d, d < C ∧ bt fo (r * C + d) = true) (fun c h1 h2 => ⟨c, h1, h2⟩) (fun _ _ _ _ h _ _ _ => h)
/-- sets taken in where a test says so -/
theorem itr_or {p : Nat → Prop} [∀ i, Decidable (p i)] {v : Nat → Int32} : ∀ (n i : Nat) (a : Int32) (j : Nat), bt (itr (fun i a => if p i then a else a ||| v i) n i a) j = true ↔ bt a j = true ∨ ∃ k, i ≤ k ∧ k < i + n ∧ ¬ p k ∧ bt (v k) j = true := by
  intro n
  induction n with
  | zero =>
    intro i a j
    constructor
    · exact fun h => Or.inl h
    · rintro (h | ⟨k, h1, h2, -⟩)
      · exact h
      · omega
  | succ n ih =>
    intro i a j
    refine (ih (i + 1) (if p i then a else a ||| v i) j).trans ?_
    by_cases hp : p i
    · rw [if_pos hp]
      constructor
      · rintro (h | ⟨k, h1, h2, h3, h4⟩)
        · exact Or.inl h
        · exact Or.inr ⟨k, by omega, by omega, h3, h4⟩
      · rintro (h | ⟨k, h1, h2, h3, h4⟩)
        · exact Or.inl h
        · by_cases e : k = i
          · subst e; exact absurd hp h3
          · exact Or.inr ⟨k, by omega, by omega, h3, h4⟩
    · rw [if_neg hp, bt_or]
      constructor
      · rintro (h | ⟨k, h1, h2, h3, h4⟩)
        · rcases (Bool.or_eq_true _ _).mp h with h | h
          · exact Or.inl h
          · exact Or.inr ⟨i, by omega, by omega, hp, h⟩
        · exact Or.inr ⟨k, by omega, by omega, h3, h4⟩
      · rintro (h | ⟨k, h1, h2, h3, h4⟩)
        · exact Or.inl (by rw [h, Bool.true_or])
        · by_cases e : k = i
          · subst e; exact Or.inl (by rw [h4, Bool.or_true])
          · exact Or.inr ⟨k, by omega, by omega, h3, h4⟩
/-- how many of the first n hold -/
def ct (p : Nat → Bool) : Nat → Nat
  | 0 => 0
  | n + 1 => ct p n + (if p n = true then 1 else 0)
theorem ct_le (p : Nat → Bool) : ∀ n, ct p n ≤ n
  | 0 => Nat.le_refl _
  | n + 1 => by
    have := ct_le p n
    rw [ct]
    split <;> omega
theorem ct_all {p : Nat → Bool} : ∀ {n : Nat}, ct p n = n → ∀ i, i < n → p i = true
  | 0, _, i, hi => absurd hi (Nat.not_lt_zero _)
  | n + 1, h, i, hi => by
    have h1 := ct_le p n
    rw [ct] at h
    by_cases hp : p n = true
    · rw [if_pos hp] at h
      by_cases e : i = n
      · rw [e]; exact hp
      · exact ct_all (n := n) (by omega) i (by omega)
    · rw [if_neg hp] at h; omega
theorem ct_mono {p q : Nat → Bool} (h : ∀ i, p i = true → q i = true) : ∀ n, ct p n ≤ ct q n
  | 0 => Nat.le_refl _
  | n + 1 => by
    have := ct_mono h n
    rw [ct, ct]
    by_cases hp : p n = true
    · rw [if_pos hp, if_pos (h n hp)]; omega
    · rw [if_neg hp]; omega
theorem ct_lt {p q : Nat → Bool} (h : ∀ i, p i = true → q i = true) {k : Nat} (hp : ¬ p k = true) (hq : q k = true) : ∀ n, k < n → ct p n < ct q n
  | 0, hk => absurd hk (Nat.not_lt_zero _)
  | n + 1, hk => by
    rw [ct, ct]
    by_cases e : k = n
    · subst e
      have := ct_mono h k
      rw [if_neg hp, if_pos hq]; omega
    · have := ct_lt h hp hq n (by omega)
      by_cases h2 : p n = true
      · rw [if_pos h2, if_pos (h n h2)]; omega
      · rw [if_neg h2]; omega
section
variable {R C : Nat} {fo ba : Int32}
/-- one step of the spread -/
theorem spr_1 (hR : R ≤ 5) (hC : C ≤ 5) (a : Int32) (c : Nat) : bt (itr (fun i b => S_X3_spread_20 C fo ba a i b) R 0 a) c = true ↔ bt a c = true ∨ ∃ i, i < R ∧ (∃ d, d < C ∧ bt ba (i * C + d) = true ∧ bt a d = true) ∧ c < C ∧ bt fo (i * C + c) = true := by
  refine (itr_or (p := fun i => (F_X3_columnsOf C ba (nI i)) &&& a = 0) (v := fun i => F_X3_columnsOf C fo (nI i)) R 0 a c).trans ?_
  constructor
  · rintro (h | ⟨k, -, h2, h3, h4⟩)
    · exact Or.inl h
    · rw [bt_col hC fo (by omega), Bool.and_eq_true, decide_eq_true_eq] at h4
      exact Or.inr ⟨k, by omega, (col_ne hC (by omega)).mp h3, h4.1, h4.2⟩
  · rintro (h | ⟨k, h2, h3, h4, h5⟩)
    · exact Or.inl h
    · refine Or.inr ⟨k, Nat.zero_le _, by omega, (col_ne hC (by omega)).mpr h3, ?_⟩
      rw [bt_col hC fo (by omega), h5, decide_eq_true h4]; rfl
/-- rows that have given all they have -/
def dnR (C : Nat) (fo ba a : Int32) (i : Nat) : Bool := decide (¬ (F_X3_columnsOf C ba (nI i)) &&& a = 0 ∧ ∀ c, c < C → bt fo (i * C + c) = true → bt a c = true)
theorem dnR_iff (hC : C ≤ 5) {a : Int32} {i : Nat} (hi : i < 5) : dnR C fo ba a i = true ↔ (∃ d, d < C ∧ bt ba (i * C + d) = true ∧ bt a d = true) ∧ ∀ c, c < C → bt fo (i * C + c) = true → bt a c = true := by
  unfold dnR
  rw [decide_eq_true_eq, col_ne hC hi]
def clR (R C : Nat) (fo ba a : Int32) : Prop := ∀ i, i < R → (∃ d, d < C ∧ bt ba (i * C + d) = true ∧ bt a d = true) → ∀ c, c < C → bt fo (i * C + c) = true → bt a c = true
theorem spr_cl (hR : R ≤ 5) (hC : C ≤ 5) : ∀ (n k : Nat) (a : Int32), R ≤ ct (fun i => decide (i < R) && dnR C fo ba a i) R + n → clR R C fo ba (L_X3_spread_6 R C fo ba n k a) ∧ (∀ c, bt a c = true → bt (L_X3_spread_6 R C fo ba n k a) c = true) := by
  intro n
  induction n with
  | zero =>
    intro k a h
    have h1 := ct_le (fun i => decide (i < R) && dnR C fo ba a i) R
    refine ⟨fun i hi _ c hc hf => ?_, fun c h => h⟩
    have h2 := ct_all (p := fun i => decide (i < R) && dnR C fo ba a i) (n := R) (by omega) i hi
    have h3 : dnR C fo ba a i = true := by
      have h4 : (decide (i < R) && dnR C fo ba a i) = true := h2
      rw [Bool.and_eq_true] at h4
      exact h4.2
    exact ((dnR_iff hC (by omega)).mp h3).2 c hc hf
  | succ n ih =>
    intro k a h
    have hs := spr_1 (fo := fo) (ba := ba) hR hC a
    have hu : ∀ c, bt a c = true → bt (itr (fun i b => S_X3_spread_20 C fo ba a i b) R 0 a) c = true := fun c hc => (hs c).mpr (Or.inl hc)
    show clR R C fo ba (if (itr (fun i b => S_X3_spread_20 C fo ba a i b) R 0 a) = a then a else L_X3_spread_6 R C fo ba n (k + 1) (itr (fun i b => S_X3_spread_20 C fo ba a i b) R 0 a)) ∧ ∀ c, bt a c = true → bt (if (itr (fun i b => S_X3_spread_20 C fo ba a i b) R 0 a) = a then a else L_X3_spread_6 R C fo ba n (k + 1) (itr (fun i b => S_X3_spread_20 C fo ba a i b) R 0 a)) c = true
    generalize (itr (fun i b => S_X3_spread_20 C fo ba a i b) R 0 a) = a' at hs hu ⊢
    by_cases he : a' = a
    · rw [if_pos he]
      refine ⟨fun i hi hd c hc hf => ?_, fun c h => h⟩
      have h1 := (hs c).mpr (Or.inr ⟨i, hi, hd, hc, hf⟩)
      rw [he] at h1
      exact h1
    · rw [if_neg he]
      have hne : ∃ c, bt a' c = true ∧ ¬ bt a c = true := by
        refine Classical.byContradiction fun hn => he (bt_ext fun j _ => ?_)
        cases e : bt a' j with
        | true =>
          cases e2 : bt a j with
          | true => rfl
          | false => exact absurd ⟨j, e, by rw [e2]; decide⟩ hn
        | false =>
          cases e2 : bt a j with
          | false => rfl
          | true => rw [hu j e2] at e; exact absurd e (by decide)
      obtain ⟨c, c1, c2⟩ := hne
      obtain ⟨i, i1, i2, i3, i4⟩ := ((hs c).mp c1).resolve_left c2
      have hall : ∀ c, c < C → bt fo (i * C + c) = true → bt a' c = true := fun c hc hf => (hs c).mpr (Or.inr ⟨i, i1, i2, hc, hf⟩)
      have h5 : ct (fun i => decide (i < R) && dnR C fo ba a i) R < ct (fun i => decide (i < R) && dnR C fo ba a' i) R := by
        refine ct_lt (fun q hq => ?_) (k := i) ?_ ?_ R i1
        · have hq : (decide (q < R) && dnR C fo ba a q) = true := hq
          rw [Bool.and_eq_true, decide_eq_true_eq] at hq
          obtain ⟨q1, q2⟩ := hq
          obtain ⟨⟨d, d1, d2, d3⟩, q3⟩ := (dnR_iff hC (by omega)).mp q2
          show (decide (q < R) && dnR C fo ba a' q) = true
          rw [decide_eq_true q1, (dnR_iff hC (by omega)).mpr ⟨⟨d, d1, d2, hu d d3⟩, fun c hc hf => hu c (q3 c hc hf)⟩]
          rfl
        · intro hq
          have hq : (decide (i < R) && dnR C fo ba a i) = true := hq
          rw [Bool.and_eq_true] at hq
          exact c2 (((dnR_iff hC (by omega)).mp hq.2).2 c i3 i4)
        · obtain ⟨d, d1, d2, d3⟩ := i2
          show (decide (i < R) && dnR C fo ba a' i) = true
          rw [decide_eq_true i1, (dnR_iff hC (by omega)).mpr ⟨⟨d, d1, d2, hu d d3⟩, hall⟩]
          rfl
      obtain ⟨r1, r2⟩ := ih (k + 1) a' (by omega)
      exact ⟨r1, fun c hc => r2 c (hu c hc)⟩
theorem spr_sd (hR : R ≤ 5) (hC : C ≤ 5) {P : Nat → Prop} (hP : ∀ i d c, i < R → P d → bt ba (i * C + d) = true → c < C → bt fo (i * C + c) = true → P c) : ∀ (n k : Nat) (a : Int32), (∀ c, bt a c = true → P c) → ∀ c, bt (L_X3_spread_6 R C fo ba n k a) c = true → P c := by
  intro n
  induction n with
  | zero => exact fun k a h => h
  | succ n ih =>
    intro k a h
    show ∀ c, bt (if (itr (fun i b => S_X3_spread_20 C fo ba a i b) R 0 a) = a then a else L_X3_spread_6 R C fo ba n (k + 1) (itr (fun i b => S_X3_spread_20 C fo ba a i b) R 0 a)) c = true → P c
    by_cases he : (itr (fun i b => S_X3_spread_20 C fo ba a i b) R 0 a) = a
    · rw [if_pos he]; exact h
    · rw [if_neg he]
      refine ih (k + 1) _ (fun c hc => ?_)
      rcases (spr_1 hR hC a c).mp hc with h1 | ⟨i, i1, ⟨d, d1, d2, d3⟩, i3, i4⟩
      · exact h c h1
      · exact hP i d c i1 (h d d3) d2 i3 i4
theorem spread_iff (hR : R ≤ 5) (hC : C ≤ 5) {r : Nat} (hr : r < R) (c : Nat) : bt (F_X3_spread R C (F_X3_columnsOf C fo (nI r)) fo ba R) c = true ↔ rch R C fo ba r c := by
  unfold F_X3_spread
  have hf : ∀ c, bt (F_X3_columnsOf C fo (nI r)) c = true ↔ c < C ∧ bt fo (r * C + c) = true := fun c => by
    rw [bt_col hC fo (by omega), Bool.and_eq_true, decide_eq_true_eq]
  obtain ⟨h1, h2⟩ := spr_cl (fo := fo) (ba := ba) hR hC R 0 (F_X3_columnsOf C fo (nI r)) (by omega)
  constructor
  · exact spr_sd hR hC (P := rch R C fo ba r) (fun i d c hi hd hb hc hf => .step hi hd hb hc hf) R 0 _ (fun c hc => .base ((hf c).mp hc).1 ((hf c).mp hc).2) c
  · intro h
    exact rch.ind (P := fun c => bt (L_X3_spread_6 R C fo ba R 0 (F_X3_columnsOf C fo (nI r))) c = true) (fun c q1 q2 => h2 _ ((hf _).mpr ⟨q1, q2⟩)) (fun i c d q1 q2 q3 q4 q5 ih => h1 _ q1 ⟨_, rch_lt q2, q3, ih⟩ _ q4 q5) h
end
theorem shl_or {C : Nat} (hC : C ≤ 5) {i : Nat} (hi : i < 5) (x : Int32) (j : Nat) : bt (x <<< (((nI i) * (nI C)) &&& 31)) j = (decide (j < 32) && (decide (i * C ≤ j) && bt x (j - i * C))) := by
  have h1 : i * C ≤ 4 * C := Nat.mul_le_mul_right C (by omega)
  rw [mul_nI i (by omega) C (by omega), bt_shl x (by omega) j]
section
variable {R C : Nat} {fo ba : Int32}
/-- the class's board seen -/
theorem seenI_iff (hR : R ≤ 5) (hC : C ≤ 5) (j : Nat) : bt (itr (fun i a => if F_X3_columnsOf C fo (nI i) = 0 then a else a ||| ((F_X3_spread R C (F_X3_columnsOf C fo (nI i)) fo ba R) <<< (((nI i) * (nI C)) &&& 31))) R 0 0) j = true ↔ ∃ r c, r < R ∧ j = r * C + c ∧ rch R C fo ba r c := by
  refine (itr_or (p := fun i => F_X3_columnsOf C fo (nI i) = 0) (v := fun i => (F_X3_spread R C (F_X3_columnsOf C fo (nI i)) fo ba R) <<< (((nI i) * (nI C)) &&& 31)) R 0 0 j).trans ?_
  constructor
  · rintro (h | ⟨i, -, h2, h3, h4⟩)
    · rw [bt_0] at h; exact absurd h (by decide)
    · rw [shl_or hC (by omega), Bool.and_eq_true, Bool.and_eq_true, decide_eq_true_eq, decide_eq_true_eq] at h4
      exact ⟨i, j - i * C, by omega, by omega, (spread_iff hR hC (by omega) _).mp h4.2.2⟩
  · rintro ⟨r, c, h1, rfl, h3⟩
    have hc := rch_lt h3
    have h4 := rc_lt hR hC h1 hc
    refine Or.inr ⟨r, Nat.zero_le _, by omega, fun e => ?_, ?_⟩
    · obtain ⟨d, d1, d2⟩ := rch_first h3
      have h5 := bt_col hC fo (r := r) (by omega) d
      rw [e, bt_0, decide_eq_true d1, d2] at h5
      exact absurd h5 (by decide)
    · rw [shl_or hC (by omega), decide_eq_true (by omega), decide_eq_true (Nat.le_add_right _ _), Nat.add_sub_cancel_left, (spread_iff hR hC h1 c).mpr h3]
      rfl
end
theorem itr_fix {f : Nat → Int32 → Int32} (h : ∀ i a j, bt a j = true → bt (f i a) j = true) : ∀ (n i : Nat) (a : Int32), itr f n i a = a → ∀ k, i ≤ k → k < i + n → f k a = a := by
  intro n
  induction n with
  | zero => intro i a _ k h1 h2; omega
  | succ n ih =>
    intro i a he k h1 h2
    have he : itr f n (i + 1) (f i a) = a := he
    have h3 : f i a = a := by
      refine bt_ext fun j _ => ?_
      cases e : bt (f i a) j with
      | true =>
        have h4 := itr_up h n (i + 1) (f i a) j e
        rw [he] at h4
        exact h4.symm
      | false =>
        cases e2 : bt a j with
        | false => rfl
        | true => rw [h i a j e2] at e; exact absurd e (by decide)
    by_cases e : k = i
    · rw [e]; exact h3
    · rw [h3] at he
      exact ih (i + 1) a he k (by omega) (by omega)
theorem s46_up {R C : Nat} {fi br : Int32} {K : Nat} {x1 x2 : Int32} {i1 : Nat} : ∀ i2 a j, bt a j = true → bt (S_X7_seenOf_46 R C fi br K x1 x2 i1 i2 a) j = true := fun i2 a j hj => by
  unfold S_X7_seenOf_46
  split
  · exact hj
  · rw [bt_or, hj, Bool.true_or]
/-- the reference's board seen stands still at the end -/
theorem seenL_fix {R C : Nat} {fi br : Int32} {K : Nat} {x1 x2 : Int32} : ∀ (n i : Nat) (a b : Int32), i + n = 33 → (b = a ∨ i ≤ cn a 32) → (∀ P : Int32 → Prop, P a → (∀ c, P c → P (itr (fun i a => S_X7_seenOf_34 R C fi br K x1 x2 i a) R 0 c)) → (b = a → itr (fun i a => S_X7_seenOf_34 R C fi br K x1 x2 i a) R 0 a = a) → ∃ m, L_X7_seenOf_20 R C fi br K x1 x2 n i (a, b) = m &&& fi ∧ P m ∧ itr (fun i a => S_X7_seenOf_34 R C fi br K x1 x2 i a) R 0 m = m) := by
  intro n
  induction n with
  | zero =>
    intro i a b hi hb P hPa _ hfx
    have e : b = a := grow_z (by omega) hb
    exact ⟨a, rfl, hPa, hfx e⟩
  | succ n ih =>
    intro i a b hi hb P hPa hPs hfx
    show ∃ m, (if b = a then a &&& fi else L_X7_seenOf_20 R C fi br K x1 x2 n (i + 1) ((itr (fun i a => S_X7_seenOf_34 R C fi br K x1 x2 i a) R 0 a), a)) = m &&& fi ∧ _
    by_cases e : b = a
    · rw [if_pos e]; exact ⟨a, rfl, hPa, hfx e⟩
    · rw [if_neg e]
      refine ih (i + 1) _ a (by omega) (grow_s hb e (sn_up a)) P (hPs a hPa) hPs (fun e2 => ?_)
      rw [← e2]
      exact e2.symm
theorem itr_keepB {α : Type} {f : Nat → α → α} (P : α → Prop) : ∀ (n i : Nat) (a : α), (∀ k a, i ≤ k → k < i + n → P a → P (f k a)) → P a → P (itr f n i a) := by
  intro n
  induction n with
  | zero => intro i a _ h; exact h
  | succ n ih =>
    intro i a hs h
    exact ih (i + 1) (f i a) (fun k a h1 h2 => hs k a (by omega) (by omega)) (hs i a (by omega) (by omega) h)
theorem rc_inj {C r c r' c' : Nat} (h : r * C + c = r' * C + c') (hc : c < C) (hc' : c' < C) : r = r' ∧ c = c' := by
  have h1 : (r * C + c) / C = r := by rw [Nat.mul_comm, Nat.mul_add_div (by omega), Nat.div_eq_of_lt hc]; rfl
  have h2 : (r' * C + c') / C = r' := by rw [Nat.mul_comm, Nat.mul_add_div (by omega), Nat.div_eq_of_lt hc']; rfl
  have h3 : r = r' := by rw [← h1, ← h2, h]
  subst h3
  exact ⟨rfl, by omega⟩
section
variable {R C : Nat} {fi br : Int32} {K : Nat} {x1 x2 : Int32}
theorem s46_sd (hR : R ≤ 5) (hC : C ≤ 5) {fo ba : Int32} (hfo : fo = T_X7_seenOf_6 R C fi br K x1) (hba : ba = T_X7_seenOf_12 R C fi br K x1 x2) {i1 i2 : Nat} (h1 : i1 < R) (h2 : i2 < R) {a : Int32} (ha : ∀ j, bt a j = true → ∃ r c, r < R ∧ j = r * C + c ∧ rch R C fo ba r c) (j : Nat) (hj : bt (S_X7_seenOf_46 R C fi br K x1 x2 i1 i2 a) j = true) : ∃ r c, r < R ∧ j = r * C + c ∧ rch R C fo ba r c := by
  unfold S_X7_seenOf_46 at hj
  rw [← hfo, ← hba] at hj
  by_cases hp : (F_X7_rowOf C a (nI i1)) &&& (F_X7_rowOf C ba (nI i2)) = 0
  · rw [if_pos hp] at hj; exact ha j hj
  · rw [if_neg hp, bt_or, Bool.or_eq_true] at hj
    rcases hj with hj | hj
    · exact ha j hj
    · rw [shl_or hC (by omega), Bool.and_eq_true, Bool.and_eq_true, decide_eq_true_eq, decide_eq_true_eq] at hj
      obtain ⟨-, q1, q2⟩ := hj
      have q3 : bt (F_X3_columnsOf C fo (nI i2)) (j - i1 * C) = true := q2
      rw [bt_col hC fo (by omega), Bool.and_eq_true, decide_eq_true_eq] at q3
      obtain ⟨d, d1, d2, d3⟩ := (col_ne hC (x := a) (a := F_X3_columnsOf C ba (nI i2)) (by omega)).mp hp
      rw [bt_col hC ba (by omega), Bool.and_eq_true] at d3
      obtain ⟨r, c, r1, r2, r3⟩ := ha _ d2
      obtain ⟨e1, e2⟩ := rc_inj r2 d1 (rch_lt r3)
      subst e1
      subst e2
      exact ⟨i1, j - i1 * C, h1, by omega, .step h2 r3 d3.2 q3.1 q3.2⟩
theorem seenO_iff (hR : R ≤ 5) (hC : C ≤ 5) {fo ba : Int32} (hfo : fo = T_X7_seenOf_6 R C fi br K x1) (hba : ba = T_X7_seenOf_12 R C fi br K x1 x2) (hb : ∀ j, bt fo j = true → ∃ r c, r < R ∧ c < C ∧ j = r * C + c) : ∃ m, F_X7_seenOf R C fi br K x1 x2 = m &&& fi ∧ ∀ j, bt m j = true ↔ ∃ r c, r < R ∧ j = r * C + c ∧ rch R C fo ba r c := by
  obtain ⟨m, h1, ⟨h2, h2b⟩, h3⟩ := seenL_fix (R := R) (C := C) (fi := fi) (br := br) (K := K) (x1 := x1) (x2 := x2) 33 0 fo (-1) rfl (Or.inr (Nat.zero_le _)) (fun m => (∀ j, bt m j = true → ∃ r c, r < R ∧ j = r * C + c ∧ rch R C fo ba r c) ∧ ∀ j, bt fo j = true → bt m j = true)
    ⟨fun j hj => by
      obtain ⟨r, c, r1, c1, rfl⟩ := hb j hj
      exact ⟨r, c, r1, rfl, .base c1 hj⟩, fun j h => h⟩
    (fun m hm => ⟨itr_keepB (f := fun i a => S_X7_seenOf_34 R C fi br K x1 x2 i a) (fun m => ∀ j, bt m j = true → ∃ r c, r < R ∧ j = r * C + c ∧ rch R C fo ba r c) R 0 m (fun i a _ hi ha =>
        itr_keepB (f := fun i2 a => S_X7_seenOf_46 R C fi br K x1 x2 i i2 a) (fun m => ∀ j, bt m j = true → ∃ r c, r < R ∧ j = r * C + c ∧ rch R C fo ba r c) R 0 a (fun i2 a _ hi2 ha => s46_sd hR hC hfo hba (by omega) (by omega) ha) ha) hm.1, fun j hj => sn_up m j (hm.2 j hj)⟩)
    (fun e => by
      have h9 := hb 31 (by rw [← e]; exact bt_m1 (by omega))
      obtain ⟨r, c, r1, c1, e9⟩ := h9
      have := rc_lt hR hC r1 c1
      omega)
  refine ⟨m, ?_, fun j => ⟨h2 j, ?_⟩⟩
  · unfold F_X7_seenOf
    rw [← hfo]
    exact h1
  · rintro ⟨r, c, r1, rfl, hr⟩
    have f1 : ∀ i2, i2 < R → S_X7_seenOf_46 R C fi br K x1 x2 r i2 m = m := fun i2 hi2 => by
      have g1 := itr_fix (f := fun i a => S_X7_seenOf_34 R C fi br K x1 x2 i a) (fun i1 a1 j hj => itr_up (fun i2 a2 j hj => s46_up i2 a2 j hj) R 0 a1 j hj) R 0 m h3 r (Nat.zero_le _) (by omega)
      exact itr_fix (f := fun i a => S_X7_seenOf_46 R C fi br K x1 x2 r i a) s46_up R 0 m g1 i2 (Nat.zero_le _) (by omega)
    refine rch.ind (P := fun c => bt m (r * C + c) = true) (fun c q1 q2 => h2b _ q2) (fun i c d q1 q2 q3 q4 q5 ih => ?_) hr
    · show bt m (r * C + c) = true
      rw [← f1 i q1]
      unfold S_X7_seenOf_46
      rw [← hfo, ← hba]
      have hp : ¬ (F_X7_rowOf C m (nI r)) &&& (F_X7_rowOf C ba (nI i)) = 0 := (col_ne hC (x := m) (a := F_X3_columnsOf C ba (nI i)) (by omega)).mpr ⟨d, rch_lt q2, ih, by rw [bt_col hC ba (by omega), decide_eq_true (rch_lt q2), q3]; rfl⟩
      rw [if_neg hp, bt_or]
      have h4 := rc_lt hR hC r1 q4
      have h5 : bt ((F_X7_rowOf C fo (nI i)) <<< (((nI r) * (nI C)) &&& 31)) (r * C + c) = true := by
        rw [shl_or hC (by omega), decide_eq_true (by omega), decide_eq_true (Nat.le_add_right _ _), Nat.add_sub_cancel_left]
        show (true && (true && bt (F_X3_columnsOf C fo (nI i)) c)) = true
        rw [bt_col hC fo (by omega), decide_eq_true q4, q5]
        rfl
      rw [h5, Bool.or_true]
end
theorem itr_orB {f : Nat → Int32 → Int32} {Q : Nat → Nat → Prop} : ∀ (n i : Nat) (a : Int32), (∀ k a j, i ≤ k → k < i + n → j < 32 → (bt (f k a) j = true ↔ bt a j = true ∨ Q k j)) → ∀ j, j < 32 → (bt (itr f n i a) j = true ↔ bt a j = true ∨ ∃ k, i ≤ k ∧ k < i + n ∧ Q k j) := by
  intro n
  induction n with
  | zero =>
    intro i a _ j _
    constructor
    · exact fun h => Or.inl h
    · rintro (h | ⟨k, h1, h2, -⟩)
      · exact h
      · omega
  | succ n ih =>
    intro i a h j hj
    refine (ih (i + 1) (f i a) (fun k a j h1 h2 h3 => h k a j (by omega) (by omega) h3) j hj).trans ?_
    rw [h i a j (Nat.le_refl _) (by omega) hj]
    constructor
    · rintro ((h1 | h1) | ⟨k, h1, h2, h3⟩)
      · exact Or.inl h1
      · exact Or.inr ⟨i, by omega, by omega, h1⟩
      · exact Or.inr ⟨k, by omega, by omega, h3⟩
    · rintro (h1 | ⟨k, h1, h2, h3⟩)
      · exact Or.inl (Or.inl h1)
      · by_cases e : k = i
        · subst e; exact Or.inl (Or.inr h3)
        · exact Or.inr ⟨k, by omega, by omega, h3⟩
theorem itr_andB {f : Nat → Int32 → Int32} {Q : Nat → Prop} : ∀ (n i : Nat) (a : Int32), (∀ k a j, i ≤ k → k < i + n → j < 32 → (bt (f k a) j = true ↔ bt a j = true ∧ (j = k → Q k))) → ∀ j, j < 32 → (bt (itr f n i a) j = true ↔ bt a j = true ∧ (i ≤ j → j < i + n → Q j)) := by
  intro n
  induction n with
  | zero =>
    intro i a _ j _
    exact ⟨fun h => ⟨h, fun h1 h2 => by omega⟩, fun h => h.1⟩
  | succ n ih =>
    intro i a h j hj
    refine (ih (i + 1) (f i a) (fun k a j h1 h2 h3 => h k a j (by omega) (by omega) h3) j hj).trans ?_
    rw [h i a j (Nat.le_refl _) (by omega) hj]
    constructor
    · rintro ⟨⟨h1, h2⟩, h3⟩
      refine ⟨h1, fun q1 q2 => ?_⟩
      by_cases e : j = i
      · have := h2 e; rw [e]; exact this
      · exact h3 (by omega) (by omega)
    · rintro ⟨h1, h2⟩
      exact ⟨⟨h1, fun e => by rw [← e]; exact h2 (by omega) (by omega)⟩, fun q1 q2 => h2 (by omega) (by omega)⟩
theorem has_iff {x : Int32} {k : Nat} (hk : k < 32) : F_X7_has x (nI k) = 0 ↔ bt x k = false := holds_iff hk
theorem with0_b {a : Int32} {i j : Nat} (hi : i < 32) (hj : j < 32) : bt (F_X7_with a (nI i) 0) j = true ↔ bt a j = true ∧ ¬ j = i := by
  unfold F_X7_with
  rw [if_pos rfl, bt_and, bt_not _ hj, bt_bit hi hj, Bool.and_eq_true, Bool.not_eq_true', decide_eq_false_iff_not]
theorem rc_div {R C j : Nat} (h : j < R * C) : j / C < R ∧ j % C < C ∧ j = j / C * C + j % C := by
  have hC : 0 < C := Nat.pos_of_ne_zero fun e => by rw [e, Nat.mul_zero] at h; exact absurd h (Nat.not_lt_zero _)
  refine ⟨(Nat.div_lt_iff_lt_mul hC).mpr h, Nat.mod_lt _ hC, ?_⟩
  have := Nat.div_add_mod j C
  rw [Nat.mul_comm] at this
  exact this.symm
theorem rc_mod {C r c : Nat} (hc : c < C) : (r * C + c) / C = r ∧ (r * C + c) % C = c := by
  refine ⟨?_, ?_⟩
  · rw [Nat.mul_comm, Nat.mul_add_div (by omega), Nat.div_eq_of_lt hc]; rfl
  · rw [Nat.mul_comm, Nat.mul_add_mod, Nat.mod_eq_of_lt hc]
section
variable {R C K : Nat} {fi br : Int32}
theorem able_iff (hR : R ≤ 5) (hC : C ≤ 5) (h0 : 0 < C) (hK : K = R * C) (hf : ∀ j, bt fi j = true → j < K) {j : Nat} (hj : j < 32) : bt (F_X7_able R C fi br K) j = true ↔ ∃ r c, r < R ∧ c < C ∧ j = r * C + c ∧ bt br r = false ∧ bt br (R + c) = false ∧ bt fi j = true := by
  have hk : K ≤ 25 := by rw [hK]; exact Nat.mul_le_mul hR hC
  refine (itr_andB (f := fun i a => S_X7_able_7 R C br i a) (Q := fun i => bt br (i / C) = false ∧ bt br (R + i % C) = false) K 0 fi (fun i a j _ h2 hj => ?_) j hj).trans ?_
  · obtain ⟨d1, d2, -⟩ := rc_div (R := R) (C := C) (j := i) (by omega)
    have e1 : (nI i) / (nI C) = nI (i / C) := pk_div (by omega) (by omega) (by omega)
    have e2 : (nI i) - (nI i) / (nI C) * (nI C) = nI (i % C) := pk_rem (by omega) (by omega) (by omega)
    show bt (S_X7_able_7 R C br i a) j = true ↔ _
    unfold S_X7_able_7
    rw [e2, e1, show nI R + nI (i % C) = nI (R + i % C) from nI_add R (i % C)]
    by_cases h3 : F_X7_has br (nI (i / C)) = 0
    · rw [if_pos h3]
      have h4 := (has_iff (by omega)).mp h3
      by_cases h5 : F_X7_has br (nI (R + i % C)) = 0
      · rw [if_pos h5]
        have h6 := (has_iff (by omega)).mp h5
        exact ⟨fun h => ⟨h, fun _ => ⟨h4, h6⟩⟩, fun h => h.1⟩
      · rw [if_neg h5, with0_b (by omega) hj]
        have h6 : ¬ bt br (R + i % C) = false := fun h => h5 ((has_iff (by omega)).mpr h)
        exact ⟨fun h => ⟨h.1, fun e => absurd e h.2⟩, fun h => ⟨h.1, fun e => h6 (h.2 e).2⟩⟩
    · rw [if_neg h3, with0_b (by omega) hj]
      have h4 : ¬ bt br (i / C) = false := fun h => h3 ((has_iff (by omega)).mpr h)
      exact ⟨fun h => ⟨h.1, fun e => absurd e h.2⟩, fun h => ⟨h.1, fun e => h4 (h.2 e).1⟩⟩
  · constructor
    · rintro ⟨h1, h2⟩
      have h3 := hf j h1
      obtain ⟨d1, d2, d3⟩ := rc_div (R := R) (C := C) (j := j) (by omega)
      obtain ⟨b1, b2⟩ := h2 (Nat.zero_le _) (by omega)
      exact ⟨j / C, j % C, d1, d2, d3, b1, b2, h1⟩
    · rintro ⟨r, c, r1, c1, rfl, b1, b2, b3⟩
      obtain ⟨e1, e2⟩ := rc_mod (r := r) c1
      exact ⟨b3, fun _ _ => by show bt br ((r * C + c) / C) = false ∧ bt br (R + (r * C + c) % C) = false; rw [e1, e2]; exact ⟨b1, b2⟩⟩
theorem live_iff (hR : R ≤ 5) (hC : C ≤ 5) {j : Nat} (hj : j < 32) : bt (F_X3_findLive R C fi br) j = true ↔ ∃ r c, r < R ∧ c < C ∧ j = r * C + c ∧ bt br r = false ∧ bt br (R + c) = false ∧ bt fi j = true := by
  refine (itr_orB (f := fun i a => S_X3_findLive_7 R C fi br i a) (Q := fun r j => ∃ c, c < C ∧ j = r * C + c ∧ bt br r = false ∧ bt br (R + c) = false ∧ bt fi j = true) R 0 0 (fun r a j _ h2 hj => ?_) j hj).trans ?_
  · refine (itr_orB (f := fun i a => S_X3_findLive_17 R C fi br r i a) (Q := fun c j => j = r * C + c ∧ bt br r = false ∧ bt br (R + c) = false ∧ bt fi j = true) C 0 a (fun c a j _ h3 hj => ?_) j hj).trans ?_
    · have hr : r < R := by omega
      have hc : c < C := by omega
      have h25 := rc_lt hR hC hr hc
      show bt (S_X3_findLive_17 R C fi br r c a) j = true ↔ _
      unfold S_X3_findLive_17
      rw [mul_nI r (by omega) C (by omega), show nI (r * C) + nI c = nI (r * C + c) from nI_add _ _, show nI R + nI c = nI (R + c) from nI_add _ _]
      by_cases h4 : F_X4_holds br (nI r) = 0
      · have b4 := (holds_iff (by omega)).mp h4
        rw [if_pos h4]
        by_cases h5 : F_X4_holds br (nI (R + c)) = 0
        · have b5 := (holds_iff (by omega)).mp h5
          rw [if_pos h5]
          by_cases h6 : F_X4_holds fi (nI (r * C + c)) = 0
          · have b6 := (holds_iff (by omega)).mp h6
            rw [if_pos h6]
            exact ⟨fun h => Or.inl h, fun h => h.resolve_right (fun ⟨e, _, _, b⟩ => by rw [e, b6] at b; exact absurd b (by decide))⟩
          · have b6 : bt fi (r * C + c) = true := by
              cases e : bt fi (r * C + c) with
              | true => rfl
              | false => exact absurd ((holds_iff (by omega)).mpr e) h6
            rw [if_neg h6, bt_or, bt_bit (by omega) hj, Bool.or_eq_true, decide_eq_true_eq]
            exact ⟨fun h => h.imp id (fun e => ⟨e, b4, b5, by rw [e]; exact b6⟩), fun h => h.imp id (fun e => e.1)⟩
        · have b5 : ¬ bt br (R + c) = false := fun h => h5 ((holds_iff (by omega)).mpr h)
          rw [if_neg h5]
          have : (if F_X4_holds fi (nI (r * C + c)) = 0 then a else a) = a := by split <;> rfl
          rw [this]
          exact ⟨fun h => Or.inl h, fun h => h.resolve_right (fun ⟨_, _, b, _⟩ => b5 b)⟩
      · have b4 : ¬ bt br r = false := fun h => h4 ((holds_iff (by omega)).mpr h)
        rw [if_neg h4]
        have : (if F_X4_holds fi (nI (r * C + c)) = 0 then a else a) = a := by split <;> rfl
        rw [this]
        exact ⟨fun h => Or.inl h, fun h => h.resolve_right (fun ⟨_, b, _, _⟩ => b4 b)⟩
    · constructor
      · rintro (h | ⟨c, -, h1, h2⟩)
        · exact Or.inl h
        · exact Or.inr ⟨c, by omega, h2⟩
      · rintro (h | ⟨c, h1, h2⟩)
        · exact Or.inl h
        · exact Or.inr ⟨c, Nat.zero_le _, by omega, h2⟩
  · constructor
    · rintro (h | ⟨r, -, h1, c, h2, h3⟩)
      · rw [bt_0] at h; exact absurd h (by decide)
      · exact ⟨r, c, by omega, h2, h3⟩
    · rintro ⟨r, c, h1, h2, h3⟩
      exact Or.inr ⟨r, Nat.zero_le _, by omega, c, h2, h3⟩
/-- the class's live keys are the reference's able ones -/
theorem live_able (hR : R ≤ 5) (hC : C ≤ 5) (h0 : 0 < C) (hK : K = R * C) (hf : ∀ j, bt fi j = true → j < K) : F_X3_findLive R C fi br = F_X7_able R C fi br K := bt_ext fun j hj => by
  have h1 := live_iff (fi := fi) (br := br) hR hC hj
  have h2 := able_iff (fi := fi) (br := br) hR hC h0 hK hf hj
  have h3 := h1.trans h2.symm
  cases e : bt (F_X3_findLive R C fi br) j with
  | true => exact (h3.mp e).symm
  | false =>
    cases e2 : bt (F_X7_able R C fi br K) j with
    | false => rfl
    | true => rw [h3.mpr e2] at e; exact absurd e (by decide)
/-- what is seen, both sides -/
theorem seen_eq (hR : R ≤ 5) (hC : C ≤ 5) (h0 : 0 < C) (hK : K = R * C) (hf : ∀ j, bt fi j = true → j < K) {di li x1 : Int32} (hli : li = F_X3_findLive R C fi br) : F_X3_seenIf R C fi di li x1 = F_X7_seenOf R C fi br K x1 di := by
  subst hli
  have hla := live_able (br := br) hR hC h0 hK hf
  have e6 : T_X3_seenIf_6 (F_X3_findLive R C fi br) x1 = T_X7_seenOf_6 R C fi br K x1 := by
    show x1 &&& (F_X3_findLive R C fi br) = x1 &&& (F_X7_able R C fi br K)
    rw [hla]
  have e15 : T_X3_seenIf_15 di (F_X3_findLive R C fi br) x1 = T_X7_seenOf_12 R C fi br K x1 di := by
    show (T_X3_seenIf_6 (F_X3_findLive R C fi br) x1) &&& (di ^^^ (-1)) = (T_X7_seenOf_6 R C fi br K x1) &&& (di ^^^ (-1))
    rw [e6]
  obtain ⟨m, m1, m2⟩ := seenO_iff (R := R) (C := C) (fi := fi) (br := br) (K := K) (x1 := x1) (x2 := di) hR hC rfl rfl (fun j hj => by
    have hj32 : j < 32 := Nat.lt_of_not_le fun h => by rw [bt_big _ h] at hj; exact absurd hj (by decide)
    have hj : bt (x1 &&& (F_X7_able R C fi br K)) j = true := hj
    rw [bt_and, Bool.and_eq_true] at hj
    obtain ⟨r, c, h1, h2, h3, -⟩ := (able_iff hR hC h0 hK hf hj32).mp hj.2
    exact ⟨r, c, h1, h2, h3⟩)
  have hS : (fun i a => S_X3_seenIf_22 R C di (F_X3_findLive R C fi br) x1 i a) = fun i a => if F_X3_columnsOf C (T_X7_seenOf_6 R C fi br K x1) (nI i) = 0 then a else a ||| ((F_X3_spread R C (F_X3_columnsOf C (T_X7_seenOf_6 R C fi br K x1) (nI i)) (T_X7_seenOf_6 R C fi br K x1) (T_X7_seenOf_12 R C fi br K x1 di) R) <<< (((nI i) * (nI C)) &&& 31)) := by
    funext i a
    unfold S_X3_seenIf_22
    rw [e6, e15]
  rw [m1]
  unfold F_X3_seenIf
  refine congrArg (fun y => y &&& fi) (bt_ext fun j hj => ?_)
  rw [hS]
  have h3 := (seenI_iff (fo := T_X7_seenOf_6 R C fi br K x1) (ba := T_X7_seenOf_12 R C fi br K x1 di) hR hC j).trans (m2 j).symm
  cases e : bt m j with
  | true => exact h3.mpr e
  | false =>
    cases e2 : bt (itr (fun i a => if F_X3_columnsOf C (T_X7_seenOf_6 R C fi br K x1) (nI i) = 0 then a else a ||| ((F_X3_spread R C (F_X3_columnsOf C (T_X7_seenOf_6 R C fi br K x1) (nI i)) (T_X7_seenOf_6 R C fi br K x1) (T_X7_seenOf_12 R C fi br K x1 di) R) <<< (((nI i) * (nI C)) &&& 31))) R 0 0) j with
    | false => rfl
    | true => rw [h3.mp e2] at e; exact absurd e (by decide)
end

theorem smod25 : ∀ k, k < 26 → ((nI k &&& 31).toBitVec.smod 32).toNat = k := by decide +kernel

theorem set_iff {K : Nat} {x : Int32} (hK : K ≤ 25) : (F_X3_isSet K x = 0 ∧ ¬ F_X7_isNoSet K x = 0) ∨ (¬ F_X3_isSet K x = 0 ∧ F_X7_isNoSet K x = 0 ∧ 0 ≤ x) := by
  unfold F_X3_isSet F_X7_isNoSet
  by_cases h1 : x < 0
  · rw [if_pos h1, if_pos h1]
    exact Or.inl ⟨rfl, by decide⟩
  · obtain ⟨j, hj, rfl⟩ := nI_of h1
    have h2 : 2 ^ K ≤ 2 ^ 25 := Nat.pow_le_pow_right (by decide) hK
    have h3 : nI j >>> (F_Jx4a65c_size_8abf5 K &&& 31) = nI (j / 2 ^ K) := pk_shrN hj _ K (smod25 K (by omega))
    rw [if_neg h1, if_neg h1, shl25 K (by omega), h3]
    by_cases h4 : j < 2 ^ K
    · rw [if_neg (nI_ge h4 (by omega)), Nat.div_eq_of_lt h4, if_pos (show nI 0 = 0 from rfl)]
      exact Or.inr ⟨by decide, rfl, Int32.not_lt.mp h1⟩
    · have h5 : ¬ nI (j / 2 ^ K) = 0 := fun e => by
        have h6 := congrArg Int32.toInt e
        have h7 : j / 2 ^ K ≤ j := Nat.div_le_self _ _
        rw [nI_toInt (by omega), show (0 : Int32).toInt = 0 from by decide] at h6
        have h8 : 0 < j / 2 ^ K := Nat.div_pos (by omega) (Nat.two_pow_pos K)
        omega
      rw [if_pos (nI_le (by omega) hj), if_neg h5]
      exact Or.inl ⟨rfl, by decide⟩
/-- the wiring alike on both sides -/
def WQ (R C K mR mC mK : Nat) (fi di br li mfi mdi mbr : Int32) : Prop := R = mR ∧ C = mC ∧ K = mK ∧ fi = mfi ∧ di = mdi ∧ br = mbr ∧ li = F_X3_findLive R C fi br ∧ ∀ j, bt fi j = true → j < K
theorem lay_live : ∀ a, a < 6 → ∀ b, b < 6 → fitI (a * b) = F_X3_findLive a b (fitI (a * b)) 0 := by decide +kernel
theorem fit_b : ∀ k, k < 26 → ∀ j, j < 32 → bt (fitI k) j = decide (j < k) := by decide +kernel
theorem lay_w {sc : Nat} {pa : Int32} {gu : Int32} {cl : Int32} {se : Int32} {R : Nat} {C : Nat} {K : Nat} {fi : Int32} {di : Int32} {br : Int32} {li : Int32} {he : Int32} {dn : Int32} {ea : Int32} {lo : Int32} {Ch : Nat} {ct : Int32} {ml : Int32} {n : Nat} {fB : Nat → Int32} {fS : Nat → Int32} {fN : Nat → Int32} {fM : Nat → Int32} {fCn : Nat → Int32} {fE : Nat → Int32} {fLE : Nat → Int32} {fC : Nat → Int32} {fG : Nat → Int32} {fI : Nat → Int32} {x1 : Int32} {x2 : Int32} {mR : Nat} {mC : Nat} {mfi : Int32} {mdi : Int32} {mhe : Int32} {mbr : Int32} {mpa : Int32} {mgu : Int32} {msc : Nat} {mcl : Int32} {mse : Int32} {mlo : Int32} {mkm : Int32} {mK : Nat} {mkn : Nat} {mhm : Int32} {mnh : Nat} {mml : Int32} {mn : Nat} {mV : Nat → KV} (h : WQ R C K mR mC mK fi di br li mfi mdi mbr) : WQ ((F_L_lay sc pa gu cl se R C K fi di br li he dn ea lo Ch ct ml n fB fS fN fM fCn fE fLE fC fG fI x1 x2).2.2.2.2.2.2.2.2.2.2.2.2.2.2.2.2.2.2.1) ((F_L_lay sc pa gu cl se R C K fi di br li he dn ea lo Ch ct ml n fB fS fN fM fCn fE fLE fC fG fI x1 x2).2.2.2.2.2.2.2.2.2.2.2.2.2.2.2.2.2.2.2.1) ((F_L_lay sc pa gu cl se R C K fi di br li he dn ea lo Ch ct ml n fB fS fN fM fCn fE fLE fC fG fI x1 x2).2.2.2.2.2.2.2.2.2.2.2.2.2.2.2.2.2.2.2.2.1) ((F_X7_lay mR mC mfi mdi mhe mbr mpa mgu msc mcl mse mlo mkm mK mkn mhm mnh mml mn mV x1 x2).2.2.1) ((F_X7_lay mR mC mfi mdi mhe mbr mpa mgu msc mcl mse mlo mkm mK mkn mhm mnh mml mn mV x1 x2).2.2.2.1) ((F_X7_lay mR mC mfi mdi mhe mbr mpa mgu msc mcl mse mlo mkm mK mkn mhm mnh mml mn mV x1 x2).2.2.2.2.2.2.2.2.2.2.2.2.2.2.2.2.2.2.2.2.2.1) ((F_L_lay sc pa gu cl se R C K fi di br li he dn ea lo Ch ct ml n fB fS fN fM fCn fE fLE fC fG fI x1 x2).2.2.2.2.2.2.2.2.2.2.2.2.2.2.2.2.2.2.2.2.2.1) ((F_L_lay sc pa gu cl se R C K fi di br li he dn ea lo Ch ct ml n fB fS fN fM fCn fE fLE fC fG fI x1 x2).2.2.2.2.2.2.2.2.2.2.2.2.2.2.2.2.2.2.2.2.2.2.1) ((F_L_lay sc pa gu cl se R C K fi di br li he dn ea lo Ch ct ml n fB fS fN fM fCn fE fLE fC fG fI x1 x2).2.2.2.2.2.2.2.2.2.2.2.2.2.2.2.2.2.2.2.2.2.2.2.1) ((F_L_lay sc pa gu cl se R C K fi di br li he dn ea lo Ch ct ml n fB fS fN fM fCn fE fLE fC fG fI x1 x2).2.2.2.2.2.2.2.2.2.2.2.2.2.2.2.2.2.2.2.2.2.2.2.2.1) ((F_X7_lay mR mC mfi mdi mhe mbr mpa mgu msc mcl mse mlo mkm mK mkn mhm mnh mml mn mV x1 x2).2.2.2.2.1) ((F_X7_lay mR mC mfi mdi mhe mbr mpa mgu msc mcl mse mlo mkm mK mkn mhm mnh mml mn mV x1 x2).2.2.2.2.2.1) ((F_X7_lay mR mC mfi mdi mhe mbr mpa mgu msc mcl mse mlo mkm mK mkn mhm mnh mml mn mV x1 x2).2.2.2.2.2.2.2.1) := by
  rcases lay_acc x1 x2 with ⟨h0, h1, h2⟩ | ⟨h0, h12⟩
  · obtain ⟨a1, a2, -⟩ := in_2 h1
    obtain ⟨b1, b2, -⟩ := in_2 h2
    have hk : x1.toNatClampNeg * x2.toNatClampNeg ≤ 25 := Nat.mul_le_mul a2 b2
    unfold F_L_lay F_X7_lay
    rw [if_pos h0, if_neg h1, if_neg h2]
    refine ⟨rfl, rfl, rfl, rfl, rfl, rfl, lay_live _ (by omega) _ (by omega), fun j hj => ?_⟩
    have hj : bt (fitI (x1.toNatClampNeg * x2.toNatClampNeg)) j = true := hj
    have h32 : j < 32 := Nat.lt_of_not_le fun q => by rw [bt_big _ q] at hj; exact absurd hj (by decide)
    rw [fit_b _ (by omega) j h32, decide_eq_true_eq] at hj
    exact hj
  · unfold F_L_lay F_X7_lay
    rw [if_neg h0]
    rcases h12 with h1 | ⟨h1, h2⟩
    · rw [if_pos h1]; exact h
    · rw [if_neg h1, if_pos h2]; exact h
theorem fit_d {R C : Nat} {fi di br x1 x2 x3 : Int32} : (F_X3_fit R C fi di br x1 x2 x3).2.1 = F_X7_with di x1 x3 ∧ (F_X3_fit R C fi di br x1 x2 x3).2.2 = F_X3_findLive R C (F_X7_with fi x1 x2) br := by
  unfold F_X3_fit F_X7_with
  by_cases h : x2 = 0
  · rw [if_pos h, if_pos h]
    by_cases h3 : x3 = 0
    · rw [if_pos h3, if_pos h3]; exact ⟨rfl, rfl⟩
    · rw [if_neg h3, if_neg h3]; exact ⟨rfl, rfl⟩
  · rw [if_neg h, if_neg h]
    by_cases h3 : x3 = 0
    · rw [if_pos h3, if_pos h3]; exact ⟨rfl, rfl⟩
    · rw [if_neg h3, if_neg h3]; exact ⟨rfl, rfl⟩
theorem with_K {fi x2 : Int32} {k K : Nat} (hk : k < K) (hK : K ≤ 25) (h : ∀ j, bt fi j = true → j < K) : ∀ j, bt (F_X7_with fi (nI k) x2) j = true → j < K := fun j hj => by
  have h32 : j < 32 := Nat.lt_of_not_le fun q => by rw [bt_big _ q] at hj; exact absurd hj (by decide)
  unfold F_X7_with at hj
  by_cases e : x2 = 0
  · rw [if_pos e, bt_and, Bool.and_eq_true] at hj
    exact h j hj.1
  · rw [if_neg e, bt_or, bt_bit (by omega) h32, Bool.or_eq_true, decide_eq_true_eq] at hj
    rcases hj with hj | hj
    · exact h j hj
    · rw [hj]; exact hk
theorem key_w {sc : Nat} {R : Nat} {C : Nat} {K : Nat} {fi : Int32} {di : Int32} {br : Int32} {li : Int32} {he : Int32} {fB : Nat → Int32} {fS : Nat → Int32} {fN : Nat → Int32} {fM : Nat → Int32} {x1 : Int32} {x2 : Int32} {x3 : Int32} {x4 : Int32} {x5 : Int32} {mfi : Int32} {mdi : Int32} {mhe : Int32} {msc : Nat} {mK : Nat} {mV : Nat → KV} {mR : Nat} {mC : Nat} {mbr : Int32} (hK : K ≤ 25) (h0 : 0 < mK) (h : WQ R C K mR mC mK fi di br li mfi mdi mbr) : WQ R C K mR mC mK ((F_L_key sc R C K fi di br li he fB fS fN fM x1 x2 x3 x4 x5).1) ((F_L_key sc R C K fi di br li he fB fS fN fM x1 x2 x3 x4 x5).2.1) br ((F_L_key sc R C K fi di br li he fB fS fN fM x1 x2 x3 x4 x5).2.2.1) ((F_X7_key mfi mdi mhe msc mK mV x1 x2 x3 x4 x5).2.2.1) ((F_X7_key mfi mdi mhe msc mK mV x1 x2 x3 x4 x5).2.2.2.1) mbr := by
  obtain ⟨e1, e2, e3, e4, e5, e6, e7, e8⟩ := h
  subst e1
  subst e2
  subst e3
  subst e4
  subst e5
  subst e6
  rcases key_acc (x1 := x1) (x2 := x2) (x4 := x4) (x5 := x5) hK h0 with ⟨g0, g1⟩ | ⟨g1, k, g2, g3, ⟨g0, g4⟩ | ⟨g0, g4, g5⟩⟩
  · have n1 : F_X7_isNoKey K x1 = 1 := (nk_01 K x1).resolve_left g1
    have hs : ¬ (F_X7_start (F_X7_isNoKey K x1) 1).1 = 0 := by rw [n1]; decide
    unfold F_L_key F_X7_key
    rw [if_neg hs, if_neg (show ¬ E_X4_key K x1 x2 x4 x5 = 0 by rw [g0]; decide)]
    exact ⟨rfl, rfl, rfl, rfl, rfl, rfl, e7, e8⟩
  · have hs : (F_X7_start (F_X7_isNoKey K x1) 1).1 = 0 := by rw [g1]; decide
    unfold F_L_key F_X7_key
    rw [if_pos hs, if_neg (show ¬ E_X4_key K x1 x2 x4 x5 = 0 by rw [g0]; decide)]
    rcases g4 with g4 | ⟨g4, g5⟩
    · rw [if_pos g4]; exact ⟨rfl, rfl, rfl, rfl, rfl, rfl, e7, e8⟩
    · rw [if_neg g4, if_pos g5]; exact ⟨rfl, rfl, rfl, rfl, rfl, rfl, e7, e8⟩
  · have hs : (F_X7_start (F_X7_isNoKey K x1) 1).1 = 0 := by rw [g1]; decide
    obtain ⟨-, l1, -⟩ := key4 (sc := sc) (R := R) (C := C) (fi := fi) (di := di) (br := br) (li := li) (he := he) (fB := fB) (fS := fS) (fN := fN) (fM := fM) (x3 := x3) g0
    have l2 : (F_X4_key sc R C K fi di br li he fB fS fN fM x1 x2 x3 x4 x5).2.2.1 = F_X7_with di x1 x3 ∧ (F_X4_key sc R C K fi di br li he fB fS fN fM x1 x2 x3 x4 x5).2.2.2.1 = F_X3_findLive R C (F_X7_with fi x1 x2) br := by
      have h := g0
      unfold E_X4_key at h
      unfold F_X4_key
      by_cases h1 : F_X3_hasKey K x1 = 0
      · rw [if_pos h1] at h; exact absurd h (by decide)
      · rw [if_neg h1] at h ⊢
        by_cases h2 : x4 < 0
        · rw [if_pos h2] at h; exact absurd h (by decide)
        · rw [if_neg h2] at h ⊢
          by_cases h3 : 5 < x4
          · rw [if_pos h3] at h; exact absurd h (by decide)
          · rw [if_neg h3] at h ⊢
            by_cases h4 : x5 < 0
            · rw [if_pos h4] at h; exact absurd h (by decide)
            · rw [if_neg h4] at h ⊢
              by_cases h5 : x5 ≤ 2
              · rw [if_pos h5]
                by_cases h6 : x2 = 0
                · rw [if_pos h6]; exact fit_d
                · rw [if_neg h6]; exact fit_d
              · rw [if_neg h5] at h; exact absurd h (by decide)
    have f1 : (F_L_key sc R C K fi di br li he fB fS fN fM x1 x2 x3 x4 x5).1 = (F_X4_key sc R C K fi di br li he fB fS fN fM x1 x2 x3 x4 x5).2.1 ∧ (F_L_key sc R C K fi di br li he fB fS fN fM x1 x2 x3 x4 x5).2.1 = (F_X4_key sc R C K fi di br li he fB fS fN fM x1 x2 x3 x4 x5).2.2.1 ∧ (F_L_key sc R C K fi di br li he fB fS fN fM x1 x2 x3 x4 x5).2.2.1 = (F_X4_key sc R C K fi di br li he fB fS fN fM x1 x2 x3 x4 x5).2.2.2.1 := by unfold F_L_key; rw [if_pos g0]; exact ⟨rfl, rfl, rfl⟩
    have f2 : (F_X7_key fi di mhe msc K mV x1 x2 x3 x4 x5).2.2.1 = F_X7_with fi x1 x2 ∧ (F_X7_key fi di mhe msc K mV x1 x2 x3 x4 x5).2.2.2.1 = F_X7_with di x1 x3 := by
      unfold F_X7_key
      rw [if_pos hs, if_neg g4, if_neg g5]
      by_cases h6 : x2 = 0
      · rw [if_pos h6]
        by_cases h7 : F_X7_has mhe x1 = 0
        · rw [if_pos h7]; exact ⟨rfl, rfl⟩
        · rw [if_neg h7]; exact ⟨rfl, rfl⟩
      · rw [if_neg h6]; exact ⟨rfl, rfl⟩
    show WQ R C K R C K ((F_L_key sc R C K fi di br li he fB fS fN fM x1 x2 x3 x4 x5).1) ((F_L_key sc R C K fi di br li he fB fS fN fM x1 x2 x3 x4 x5).2.1) br ((F_L_key sc R C K fi di br li he fB fS fN fM x1 x2 x3 x4 x5).2.2.1) ((F_X7_key fi di mhe msc K mV x1 x2 x3 x4 x5).2.2.1) ((F_X7_key fi di mhe msc K mV x1 x2 x3 x4 x5).2.2.2.1) br
    rw [f1.1, f1.2.1, f1.2.2, f2.1, f2.2, l1, l2.1, l2.2]
    subst g3
    exact ⟨rfl, rfl, rfl, rfl, rfl, rfl, rfl, with_K g2 hK e8⟩
theorem brk_w {R C : Nat} {fi br x1 x2 : Int32} : (F_X3_breakLine R C fi br x1 x2).1 = F_X7_with br x1 x2 ∧ (F_X3_breakLine R C fi br x1 x2).2 = F_X3_findLive R C fi (F_X7_with br x1 x2) := by
  unfold F_X3_breakLine F_X7_with
  by_cases h : x2 = 0
  · rw [if_pos h, if_pos h]; exact ⟨rfl, rfl⟩
  · rw [if_neg h, if_neg h]; exact ⟨rfl, rfl⟩
theorem line_acc {R C : Nat} (x1 : Int32) (hR : R ≤ 5) (hC : C ≤ 5) (h0 : 0 < R) : (E_X4_line R C x1 = 0 ∧ ¬ F_X7_isIn x1 0 ((nI R + nI C) - 1) = 0) ∨ (¬ E_X4_line R C x1 = 0 ∧ F_X7_isIn x1 0 ((nI R + nI C) - 1) = 0) := by
  rw [show nI R + nI C = nI (R + C) from nI_add R C, nI_m1 (by omega)]
  unfold E_X4_line F_X7_isIn
  rw [show nI R + nI C = nI (R + C) from nI_add R C]
  by_cases h1 : x1 < 0
  · rw [if_pos h1, if_pos h1]
    exact Or.inr ⟨by decide, rfl⟩
  · rw [if_neg h1, if_neg h1]
    by_cases h2 : x1 < nI (R + C)
    · have h3 : ¬ nI (R + C - 1) < x1 := by
        rw [Int32.lt_iff_toInt_lt, nI_toInt (by omega)] at h2 ⊢
        omega
      rw [if_pos h2, if_neg h3]
      exact Or.inl ⟨rfl, by decide⟩
    · have h3 : nI (R + C - 1) < x1 := by
        rw [Int32.lt_iff_toInt_lt, nI_toInt (by omega)] at h2 ⊢
        omega
      rw [if_neg h2, if_pos h3]
      exact Or.inr ⟨by decide, rfl⟩
theorem line_w {R : Nat} {C : Nat} {fi : Int32} {br : Int32} {li : Int32} {x1 : Int32} {x2 : Int32} {mR : Nat} {mC : Nat} {mbr : Int32} {K : Nat} {mK : Nat} {di : Int32} {mfi : Int32} {mdi : Int32} (hR : R ≤ 5) (hC : C ≤ 5) (h0 : 0 < mR) (h : WQ R C K mR mC mK fi di br li mfi mdi mbr) : WQ R C K mR mC mK fi di ((F_L_line R C fi br li x1 x2).1) ((F_L_line R C fi br li x1 x2).2) mfi mdi ((F_X7_line mR mC mbr x1 x2).2.2) := by
  obtain ⟨e1, e2, e3, e4, e5, e6, e7, e8⟩ := h
  subst e1
  subst e2
  subst e3
  subst e4
  subst e5
  subst e6
  rcases line_acc x1 hR hC h0 with ⟨g0, g1⟩ | ⟨g0, g1⟩
  · have l4 : (F_X4_line R C fi br li x1 x2).2.1 = F_X7_with br x1 x2 ∧ (F_X4_line R C fi br li x1 x2).2.2 = F_X3_findLive R C fi (F_X7_with br x1 x2) := by
      have h := g0
      unfold E_X4_line at h
      unfold F_X4_line
      by_cases h1 : x1 < 0
      · rw [if_pos h1] at h; exact absurd h (by decide)
      · rw [if_neg h1] at h ⊢
        by_cases h2 : x1 < nI R + nI C
        · rw [if_pos h2]; exact brk_w
        · rw [if_neg h2] at h; exact absurd h (by decide)
    have f1 : (F_L_line R C fi br li x1 x2).1 = (F_X4_line R C fi br li x1 x2).2.1 ∧ (F_L_line R C fi br li x1 x2).2 = (F_X4_line R C fi br li x1 x2).2.2 := by unfold F_L_line; rw [if_pos g0]; exact ⟨rfl, rfl⟩
    have f2 : (F_X7_line R C br x1 x2).2.2 = F_X7_with br x1 x2 := by unfold F_X7_line; rw [if_neg g1, if_pos s0_eq]
    show WQ R C K R C K fi di ((F_L_line R C fi br li x1 x2).1) ((F_L_line R C fi br li x1 x2).2) fi di ((F_X7_line R C br x1 x2).2.2)
    rw [f1.1, f1.2, f2, l4.1, l4.2]
    exact ⟨rfl, rfl, rfl, rfl, rfl, rfl, rfl, e8⟩
  · have f1 : (F_L_line R C fi br li x1 x2).1 = br ∧ (F_L_line R C fi br li x1 x2).2 = li := by unfold F_L_line; rw [if_neg g0]; exact ⟨rfl, rfl⟩
    have f2 : (F_X7_line R C br x1 x2).2.2 = br := by unfold F_X7_line; rw [if_pos g1, if_neg s1_ne]
    show WQ R C K R C K fi di ((F_L_line R C fi br li x1 x2).1) ((F_L_line R C fi br li x1 x2).2) fi di ((F_X7_line R C br x1 x2).2.2)
    rw [f1.1, f1.2, f2]
    exact ⟨rfl, rfl, rfl, rfl, rfl, rfl, e7, e8⟩
theorem wq_0 : WQ 3 3 (3 * 3) 3 3 9 (fitI (3 * 3)) 0 0 (fitI (3 * 3)) (((1 : Int32) <<< ((nI 9) &&& 31)) - 1) 0 0 := ⟨rfl, rfl, rfl, rfl, rfl, rfl, lay_live 3 (by omega) 3 (by omega), fun j hj => by
  have h32 : j < 32 := Nat.lt_of_not_le fun q => by rw [bt_big _ q] at hj; exact absurd hj (by decide)
  rw [fit_b (3 * 3) (by omega) j h32, decide_eq_true_eq] at hj
  exact hj⟩
/-- what is seen, by what stands alike -/
theorem seen_w {R C K mR mC mK : Nat} {fi di br li mfi mdi mbr x1 : Int32} (hR : R ≤ 5) (hC : C ≤ 5) (h0 : 0 < mC) (hRC : mR * mC = mK) (h : WQ R C K mR mC mK fi di br li mfi mdi mbr) : F_X3_seenIf R C fi di li x1 = F_X7_seenOf mR mC mfi mbr mK x1 mdi := by
  obtain ⟨e1, e2, e3, e4, e5, e6, e7, e8⟩ := h
  subst e1
  subst e2
  subst e3
  subst e4
  subst e5
  subst e6
  exact seen_eq hR hC h0 hRC.symm e8 e7

theorem lay4_he {he : Int32} {dn : Int32} {ea : Int32} {lo : Int32} {Ch : Nat} {ct : Int32} {ml : Int32} {n : Nat} {fB : Nat → Int32} {fS : Nat → Int32} {fN : Nat → Int32} {fM : Nat → Int32} {fCn : Nat → Int32} {fE : Nat → Int32} {fLE : Nat → Int32} {fC : Nat → Int32} {fG : Nat → Int32} {fI : Nat → Int32} {x1 : Int32} {x2 : Int32} (h : E_X4_lay x1 x2 = 0) : (F_X4_lay he dn ea lo Ch ct ml n fB fS fN fM fCn fE fLE fC fG fI x1 x2).2.2.2.2.2.1 = 0 := by
  unfold F_X4_lay
  rw [if_neg (lay4_acc h).1, if_neg (lay4_acc h).2]
  rfl

theorem lay_he {sc : Nat} {pa : Int32} {gu : Int32} {cl : Int32} {se : Int32} {R : Nat} {C : Nat} {K : Nat} {fi : Int32} {di : Int32} {br : Int32} {li : Int32} {he : Int32} {dn : Int32} {ea : Int32} {lo : Int32} {Ch : Nat} {ct : Int32} {ml : Int32} {n : Nat} {fB : Nat → Int32} {fS : Nat → Int32} {fN : Nat → Int32} {fM : Nat → Int32} {fCn : Nat → Int32} {fE : Nat → Int32} {fLE : Nat → Int32} {fC : Nat → Int32} {fG : Nat → Int32} {fI : Nat → Int32} {x1 : Int32} {x2 : Int32} {mR : Nat} {mC : Nat} {mfi : Int32} {mdi : Int32} {mhe : Int32} {mbr : Int32} {mpa : Int32} {mgu : Int32} {msc : Nat} {mcl : Int32} {mse : Int32} {mlo : Int32} {mkm : Int32} {mK : Nat} {mkn : Nat} {mhm : Int32} {mnh : Nat} {mml : Int32} {mn : Nat} {mV : Nat → KV} (h : he = mhe) : (F_L_lay sc pa gu cl se R C K fi di br li he dn ea lo Ch ct ml n fB fS fN fM fCn fE fLE fC fG fI x1 x2).2.2.2.2.1 = (F_X7_lay mR mC mfi mdi mhe mbr mpa mgu msc mcl mse mlo mkm mK mkn mhm mnh mml mn mV x1 x2).2.2.2.2.2.2.1 := by
  rcases lay_acc x1 x2 with ⟨h0, h1, h2⟩ | ⟨h0, h1 | ⟨h1, h2⟩⟩
  · unfold F_L_lay F_X7_lay
    rw [if_pos h0, if_neg h1, if_neg h2]
    all_goals first | rfl | exact (lay4_he h0)
  · unfold F_L_lay F_X7_lay
    rw [if_neg h0, if_pos h1]
    exact h
  · unfold F_L_lay F_X7_lay
    rw [if_neg h0, if_neg h1, if_pos h2]
    exact h

theorem lay_fi {sc : Nat} {pa : Int32} {gu : Int32} {cl : Int32} {se : Int32} {R : Nat} {C : Nat} {K : Nat} {fi : Int32} {di : Int32} {br : Int32} {li : Int32} {he : Int32} {dn : Int32} {ea : Int32} {lo : Int32} {Ch : Nat} {ct : Int32} {ml : Int32} {n : Nat} {fB : Nat → Int32} {fS : Nat → Int32} {fN : Nat → Int32} {fM : Nat → Int32} {fCn : Nat → Int32} {fE : Nat → Int32} {fLE : Nat → Int32} {fC : Nat → Int32} {fG : Nat → Int32} {fI : Nat → Int32} {x1 : Int32} {x2 : Int32} {mR : Nat} {mC : Nat} {mfi : Int32} {mdi : Int32} {mhe : Int32} {mbr : Int32} {mpa : Int32} {mgu : Int32} {msc : Nat} {mcl : Int32} {mse : Int32} {mlo : Int32} {mkm : Int32} {mK : Nat} {mkn : Nat} {mhm : Int32} {mnh : Nat} {mml : Int32} {mn : Nat} {mV : Nat → KV} (h : fi = mfi) : (F_L_lay sc pa gu cl se R C K fi di br li he dn ea lo Ch ct ml n fB fS fN fM fCn fE fLE fC fG fI x1 x2).2.2.2.2.2.2.2.2.2.2.2.2.2.2.2.2.2.2.2.2.2.1 = (F_X7_lay mR mC mfi mdi mhe mbr mpa mgu msc mcl mse mlo mkm mK mkn mhm mnh mml mn mV x1 x2).2.2.2.2.1 := by
  rcases lay_acc x1 x2 with ⟨h0, h1, h2⟩ | ⟨h0, h1 | ⟨h1, h2⟩⟩
  · unfold F_L_lay F_X7_lay
    rw [if_pos h0, if_neg h1, if_neg h2]
    all_goals first | rfl | exact rfl
  · unfold F_L_lay F_X7_lay
    rw [if_neg h0, if_pos h1]
    exact h
  · unfold F_L_lay F_X7_lay
    rw [if_neg h0, if_neg h1, if_pos h2]
    exact h

theorem lay_K {sc : Nat} {pa : Int32} {gu : Int32} {cl : Int32} {se : Int32} {R : Nat} {C : Nat} {K : Nat} {fi : Int32} {di : Int32} {br : Int32} {li : Int32} {he : Int32} {dn : Int32} {ea : Int32} {lo : Int32} {Ch : Nat} {ct : Int32} {ml : Int32} {n : Nat} {fB : Nat → Int32} {fS : Nat → Int32} {fN : Nat → Int32} {fM : Nat → Int32} {fCn : Nat → Int32} {fE : Nat → Int32} {fLE : Nat → Int32} {fC : Nat → Int32} {fG : Nat → Int32} {fI : Nat → Int32} {x1 : Int32} {x2 : Int32} {mR : Nat} {mC : Nat} {mfi : Int32} {mdi : Int32} {mhe : Int32} {mbr : Int32} {mpa : Int32} {mgu : Int32} {msc : Nat} {mcl : Int32} {mse : Int32} {mlo : Int32} {mkm : Int32} {mK : Nat} {mkn : Nat} {mhm : Int32} {mnh : Nat} {mml : Int32} {mn : Nat} {mV : Nat → KV} (h : K = mK) : (F_L_lay sc pa gu cl se R C K fi di br li he dn ea lo Ch ct ml n fB fS fN fM fCn fE fLE fC fG fI x1 x2).2.2.2.2.2.2.2.2.2.2.2.2.2.2.2.2.2.2.2.2.1 = (F_X7_lay mR mC mfi mdi mhe mbr mpa mgu msc mcl mse mlo mkm mK mkn mhm mnh mml mn mV x1 x2).2.2.2.2.2.2.2.2.2.2.2.2.2.2.2.2.2.2.2.2.2.1 := by
  rcases lay_acc x1 x2 with ⟨h0, h1, h2⟩ | ⟨h0, h1 | ⟨h1, h2⟩⟩
  · unfold F_L_lay F_X7_lay
    rw [if_pos h0, if_neg h1, if_neg h2]
    all_goals first | rfl | exact rfl
  · unfold F_L_lay F_X7_lay
    rw [if_neg h0, if_pos h1]
    exact h
  · unfold F_L_lay F_X7_lay
    rw [if_neg h0, if_neg h1, if_pos h2]
    exact h

theorem lay_hb {sc : Nat} {pa : Int32} {gu : Int32} {cl : Int32} {se : Int32} {R : Nat} {C : Nat} {K : Nat} {fi : Int32} {di : Int32} {br : Int32} {li : Int32} {he : Int32} {dn : Int32} {ea : Int32} {lo : Int32} {Ch : Nat} {ct : Int32} {ml : Int32} {n : Nat} {fB : Nat → Int32} {fS : Nat → Int32} {fN : Nat → Int32} {fM : Nat → Int32} {fCn : Nat → Int32} {fE : Nat → Int32} {fLE : Nat → Int32} {fC : Nat → Int32} {fG : Nat → Int32} {fI : Nat → Int32} {x1 : Int32} {x2 : Int32} (h : (∃ b, b < 2 ^ 25 ∧ he = nI b) ∧ ∃ b, b < 2 ^ 25 ∧ fi = nI b) : (∃ b, b < 2 ^ 25 ∧ (F_L_lay sc pa gu cl se R C K fi di br li he dn ea lo Ch ct ml n fB fS fN fM fCn fE fLE fC fG fI x1 x2).2.2.2.2.1 = nI b) ∧ ∃ b, b < 2 ^ 25 ∧ (F_L_lay sc pa gu cl se R C K fi di br li he dn ea lo Ch ct ml n fB fS fN fM fCn fE fLE fC fG fI x1 x2).2.2.2.2.2.2.2.2.2.2.2.2.2.2.2.2.2.2.2.2.2.1 = nI b := by
  rcases lay_acc x1 x2 with ⟨h0, h1, h2⟩ | ⟨h0, -⟩
  · obtain ⟨a1, a2, -⟩ := in_2 h1
    obtain ⟨b1, b2, -⟩ := in_2 h2
    have hk : x1.toNatClampNeg * x2.toNatClampNeg ≤ 25 := Nat.mul_le_mul a2 b2
    have f1 : (F_L_lay sc pa gu cl se R C K fi di br li he dn ea lo Ch ct ml n fB fS fN fM fCn fE fLE fC fG fI x1 x2).2.2.2.2.1 = 0 := by unfold F_L_lay; rw [if_pos h0]; exact lay4_he h0
    have f2 : (F_L_lay sc pa gu cl se R C K fi di br li he dn ea lo Ch ct ml n fB fS fN fM fCn fE fLE fC fG fI x1 x2).2.2.2.2.2.2.2.2.2.2.2.2.2.2.2.2.2.2.2.2.2.1 = fitI (x1.toNatClampNeg * x2.toNatClampNeg) := by unfold F_L_lay; rw [if_pos h0]
    rw [f1, f2]
    refine ⟨⟨0, by decide, rfl⟩, 2 ^ (x1.toNatClampNeg * x2.toNatClampNeg) - 1, ?_, ?_⟩
    · have := Nat.pow_le_pow_right (show 0 < 2 by decide) hk
      omega
    · unfold fitI
      rw [shl25 _ (by omega)]
      exact nI_m1 (Nat.two_pow_pos _)
  · have f1 : (F_L_lay sc pa gu cl se R C K fi di br li he dn ea lo Ch ct ml n fB fS fN fM fCn fE fLE fC fG fI x1 x2).2.2.2.2.1 = he ∧ (F_L_lay sc pa gu cl se R C K fi di br li he dn ea lo Ch ct ml n fB fS fN fM fCn fE fLE fC fG fI x1 x2).2.2.2.2.2.2.2.2.2.2.2.2.2.2.2.2.2.2.2.2.2.1 = fi := by unfold F_L_lay; rw [if_neg h0]; exact ⟨rfl, rfl⟩
    rw [f1.1, f1.2]
    exact h
theorem hold4 {sc : Nat} {K : Nat} {fi : Int32} {he : Int32} {fB : Nat → Int32} {fN : Nat → Int32} {fM : Nat → Int32} {x1 : Int32} {x2 : Int32} (h : E_X4_hold K fi x1 = 0) : (F_X4_hold sc K fi he fB fN fM x1 x2).2.1 = (F_X0_move fB fN fM he x1.toNatClampNeg x2 (nI sc)).1 := by
  unfold E_X4_hold at h
  unfold F_X4_hold
  by_cases h1 : F_X3_hasKey K x1 = 0
  · rw [if_pos h1] at h; exact absurd h (by decide)
  · rw [if_neg h1] at h ⊢
    by_cases h2 : F_X4_holds fi x1 = 0
    · rw [if_pos h2] at h; exact absurd h (by decide)
    · rw [if_neg h2]
theorem hold_acc {K : Nat} {fi x1 : Int32} (hK : K ≤ 25) (h0 : 0 < K) : (¬ E_X4_hold K fi x1 = 0 ∧ ¬ F_X7_isNoKey K x1 = 0) ∨ (F_X7_isNoKey K x1 = 0 ∧ ∃ k, k < K ∧ x1 = nI k ∧ ((¬ E_X4_hold K fi x1 = 0 ∧ F_X7_has fi x1 = 0) ∨ (E_X4_hold K fi x1 = 0 ∧ ¬ F_X7_has fi x1 = 0))) := by
  unfold E_X4_hold
  rcases key_iff (x := x1) hK h0 with ⟨a1, a2⟩ | ⟨a1, a2, k, a3, a4⟩
  · rw [if_pos a1]; exact Or.inl ⟨by decide, a2⟩
  · rw [if_neg a1]
    refine Or.inr ⟨a2, k, a3, a4, ?_⟩
    by_cases h : F_X4_holds fi x1 = 0
    · rw [if_pos h]; exact Or.inl ⟨by decide, h⟩
    · rw [if_neg h]; exact Or.inr ⟨rfl, h⟩
/-- hold leaves what is held alike on both sides -/
theorem hold_eq {sc : Nat} {K : Nat} {fi : Int32} {he : Int32} {fB : Nat → Int32} {fN : Nat → Int32} {fM : Nat → Int32} {x1 : Int32} {x2 : Int32} {mfi : Int32} {mhe : Int32} {msc : Nat} {mK : Nat} {mV : Nat → KV} (hK : K ≤ 25) (h0 : 0 < mK) (hx2 : x2 = 0 ∨ x2 = 1) (h : he = mhe ∧ fi = mfi ∧ K = mK ∧ (∃ b, b < 2 ^ 25 ∧ he = nI b) ∧ ∃ b, b < 2 ^ 25 ∧ fi = nI b) : (F_L_hold sc K fi he fB fN fM x1 x2).1 = (F_X7_hold mfi mhe msc mK mV x1 x2).2.2.1 ∧ ∃ b, b < 2 ^ 25 ∧ (F_L_hold sc K fi he fB fN fM x1 x2).1 = nI b := by
  obtain ⟨e1, e2, e3, hb, hf⟩ := h
  subst e1
  subst e2
  subst e3
  rcases hold_acc (fi := fi) (x1 := x1) hK h0 with ⟨g0, g1⟩ | ⟨g1, k, g2, g3, ⟨g0, g4⟩ | ⟨g0, g4⟩⟩
  · have n1 : F_X7_isNoKey K x1 = 1 := (nk_01 K x1).resolve_left g1
    have hs : ¬ (F_X7_start (F_X7_isNoKey K x1) 1).1 = 0 := by rw [n1]; decide
    have f1 : (F_L_hold sc K fi he fB fN fM x1 x2).1 = he := by unfold F_L_hold; rw [if_neg g0]
    have f4 : (F_X7_hold fi he msc K mV x1 x2).2.2.1 = he := by unfold F_X7_hold; rw [if_neg hs]
    rw [f1, f4]
    exact ⟨rfl, hb⟩
  · have hs : (F_X7_start (F_X7_isNoKey K x1) 1).1 = 0 := by rw [g1]; decide
    have f1 : (F_L_hold sc K fi he fB fN fM x1 x2).1 = he := by unfold F_L_hold; rw [if_neg g0]
    have f4 : (F_X7_hold fi he msc K mV x1 x2).2.2.1 = he := by unfold F_X7_hold; rw [if_pos hs, if_pos g4]
    rw [f1, f4]
    exact ⟨rfl, hb⟩
  · have hs : (F_X7_start (F_X7_isNoKey K x1) 1).1 = 0 := by rw [g1]; decide
    have f1 : (F_L_hold sc K fi he fB fN fM x1 x2).1 = (F_X4_hold sc K fi he fB fN fM x1 x2).2.1 := by unfold F_L_hold; rw [if_pos g0]
    have f4 : (F_X7_hold fi he msc K mV x1 x2).2.2.1 = (if F_X7_has he x1 = x2 then he else F_X7_with he (nI x1.toNatClampNeg) x2) := by
      unfold F_X7_hold
      rw [if_pos hs, if_neg g4]
      by_cases h7 : F_X7_has he x1 = x2
      · rw [if_pos h7, if_pos h7]
      · rw [if_neg h7, if_neg h7]; rfl
    have l2 := hold4 (sc := sc) (he := he) (fB := fB) (fN := fN) (fM := fM) (x2 := x2) g0
    rw [f1, f4, l2]
    subst g3
    rw [nI_clamp (by omega), move_w (by omega) hx2]
    refine ⟨rfl, ?_⟩
    by_cases h7 : F_X7_has he (nI k) = x2
    · rw [if_pos h7]; exact hb
    · rw [if_neg h7]; exact with25 hb (by omega)

/-! the least keys round a key: the class's bounded search and the reference's -/
def Nx (R C : Nat) (fo ba a : Int32) : Int32 := itr (fun i b => S_X3_spread_20 C fo ba a i b) R 0 a
theorem spr_one {R C : Nat} {fo ba a : Int32} : F_X3_spread R C a fo ba 1 = Nx R C fo ba a := by
  show (if Nx R C fo ba a = a then a else Nx R C fo ba a) = Nx R C fo ba a
  by_cases h : Nx R C fo ba a = a
  · rw [if_pos h, h]
  · rw [if_neg h]
def wayA (R C : Nat) (fo ba : Int32) (q : Int32) : Nat → Nat → Int32 → Int32
  | 0, _, _ => -1
  | n + 1, i, a => if F_X4_holds (Nx R C fo ba a) q = 0 then wayA R C fo ba q n (i + 1) (Nx R C fo ba a) else nI (2 * i + 3)
def wayB (R C : Nat) (fo ba : Int32) (q : Int32) : Nat → Int32 → Int32 → Int32
  | 0, _, s => s
  | n + 1, a, s => if F_X4_holds a q = 0 then (if Nx R C fo ba a = a then -1 else wayB R C fo ba q n (Nx R C fo ba a) (s + 2)) else s
theorem wayA_no {R C : Nat} {fo ba q a : Int32} (h : Nx R C fo ba a = a) (h0 : F_X4_holds a q = 0) : ∀ n i, wayA R C fo ba q n i a = -1
  | 0, _ => rfl
  | n + 1, i => by
    show (if F_X4_holds (Nx R C fo ba a) q = 0 then wayA R C fo ba q n (i + 1) (Nx R C fo ba a) else nI (2 * i + 3)) = -1
    rw [h, if_pos h0]
    exact wayA_no h h0 n (i + 1)
section
variable {R C : Nat} {fo ba : Int32}
/-- rows that have no more to give: done ones, and one that gave all at the start -/
def gvn (R C : Nat) (fo ba a : Int32) (r i : Nat) : Bool := decide (i < R) && (decide (i = r) || dnR C fo ba a i)
theorem way_grow (hR : R ≤ 5) (hC : C ≤ 5) {a : Int32} {r : Nat} (hr : r < R) (h0 : ∀ c, c < C → bt fo (r * C + c) = true → bt a c = true) (hne : ¬ Nx R C fo ba a = a) : ct (gvn R C fo ba a r) R < ct (gvn R C fo ba (Nx R C fo ba a) r) R := by
  have hs := spr_1 (fo := fo) (ba := ba) hR hC a
  have hs : ∀ c, bt (Nx R C fo ba a) c = true ↔ _ := hs
  generalize Nx R C fo ba a = a' at hs hne ⊢
  have hu : ∀ c, bt a c = true → bt a' c = true := fun c hc => (hs c).mpr (Or.inl hc)
  have hx : ∃ c, bt a' c = true ∧ ¬ bt a c = true := by
    refine Classical.byContradiction fun hn => hne (bt_ext fun j _ => ?_)
    cases e : bt a' j with
    | true =>
      cases e2 : bt a j with
      | true => rfl
      | false => exact absurd ⟨j, e, by rw [e2]; decide⟩ hn
    | false =>
      cases e2 : bt a j with
      | false => rfl
      | true => rw [hu j e2] at e; exact absurd e (by decide)
  obtain ⟨c, c1, c2⟩ := hx
  obtain ⟨i, i1, i2, i3, i4⟩ := ((hs c).mp c1).resolve_left c2
  have hall : ∀ c, c < C → bt fo (i * C + c) = true → bt a' c = true := fun c hc hf => (hs c).mpr (Or.inr ⟨i, i1, i2, hc, hf⟩)
  have hir : ¬ i = r := fun e => c2 (h0 c i3 (by rw [← e]; exact i4))
  refine ct_lt (fun q hq => ?_) (k := i) ?_ ?_ R i1
  · unfold gvn at hq ⊢
    rw [Bool.and_eq_true, Bool.or_eq_true, decide_eq_true_eq, decide_eq_true_eq] at hq ⊢
    refine ⟨hq.1, hq.2.imp id fun q2 => ?_⟩
    obtain ⟨⟨d, d1, d2, d3⟩, q3⟩ := (dnR_iff hC (by omega)).mp q2
    exact (dnR_iff hC (by omega)).mpr ⟨⟨d, d1, d2, hu d d3⟩, fun c hc hf => hu c (q3 c hc hf)⟩
  · unfold gvn
    rw [Bool.and_eq_true, Bool.or_eq_true, decide_eq_true_eq, decide_eq_true_eq]
    rintro ⟨-, e | e⟩
    · exact hir e
    · exact c2 (((dnR_iff hC (by omega)).mp e).2 c i3 i4)
  · obtain ⟨d, d1, d2, d3⟩ := i2
    unfold gvn
    rw [Bool.and_eq_true, Bool.or_eq_true, decide_eq_true_eq, decide_eq_true_eq]
    exact ⟨i1, Or.inr ((dnR_iff hC (by omega)).mpr ⟨⟨d, d1, d2, hu d d3⟩, hall⟩)⟩
theorem way_eq (hR : R ≤ 5) (hC : C ≤ 5) {q : Int32} {r : Nat} (hr : r < R) : ∀ (n m i : Nat) (a : Int32), n < m → F_X4_holds a q = 0 → (∀ c, c < C → bt fo (r * C + c) = true → bt a c = true) → R ≤ ct (gvn R C fo ba a r) R + n → wayA R C fo ba q n i a = wayB R C fo ba q m a (nI (2 * i + 1)) := by
  intro n
  induction n with
  | zero =>
    intro m i a hm hq h0 hc
    obtain ⟨m, rfl⟩ : ∃ m', m = m' + 1 := ⟨m - 1, by omega⟩
    have h1 : Nx R C fo ba a = a := Classical.byContradiction fun hne => by
      have h2 := way_grow hR hC hr h0 hne
      have h3 := ct_le (gvn R C fo ba (Nx R C fo ba a) r) R
      omega
    show -1 = if F_X4_holds a q = 0 then (if Nx R C fo ba a = a then -1 else wayB R C fo ba q m (Nx R C fo ba a) (nI (2 * i + 1) + 2)) else nI (2 * i + 1)
    rw [if_pos hq, if_pos h1]
  | succ n ih =>
    intro m i a hm hq h0 hc
    obtain ⟨m, rfl⟩ : ∃ m', m = m' + 1 := ⟨m - 1, by omega⟩
    show wayA R C fo ba q (n + 1) i a = if F_X4_holds a q = 0 then (if Nx R C fo ba a = a then -1 else wayB R C fo ba q m (Nx R C fo ba a) (nI (2 * i + 1) + 2)) else nI (2 * i + 1)
    rw [if_pos hq]
    by_cases h1 : Nx R C fo ba a = a
    · rw [if_pos h1]
      exact wayA_no h1 hq (n + 1) i
    · rw [if_neg h1]
      have e2 : nI (2 * i + 1) + 2 = nI (2 * (i + 1) + 1) := nI_add (2 * i + 1) 2
      rw [e2]
      show (if F_X4_holds (Nx R C fo ba a) q = 0 then wayA R C fo ba q n (i + 1) (Nx R C fo ba a) else nI (2 * i + 3)) = _
      by_cases h2 : F_X4_holds (Nx R C fo ba a) q = 0
      · rw [if_pos h2]
        refine ih m (i + 1) _ (by omega) h2 (fun c hc hf => ?_) ?_
        · exact (spr_1 (fo := fo) (ba := ba) hR hC a c).mpr (Or.inl (h0 c hc hf))
        · have := way_grow hR hC hr h0 h1
          omega
      · rw [if_neg h2]
        obtain ⟨m, rfl⟩ : ∃ m', m = m' + 1 := ⟨m - 1, by omega⟩
        show nI (2 * i + 3) = if F_X4_holds (Nx R C fo ba a) q = 0 then _ else nI (2 * (i + 1) + 1)
        rw [if_neg h2]
        rfl
end
theorem wayR_A {R C : Nat} {li x1 x2 : Int32} : ∀ (n i : Nat) (a : Int32), L_X3_wayRound_48 R C li x1 x2 n i a = wayA R C (T_X3_wayRound_26 li x1) (T_X3_wayRound_34 li x1 x2) (T_X3_wayRound_14 C x1) n i a
  | 0, _, _ => rfl
  | n + 1, i, a => by
    show (if (F_X4_holds (F_X3_spread R C a (T_X3_wayRound_26 li x1) (T_X3_wayRound_34 li x1 x2) 1) (T_X3_wayRound_14 C x1)) = 0 then L_X3_wayRound_48 R C li x1 x2 n (i + 1) (F_X3_spread R C a (T_X3_wayRound_26 li x1) (T_X3_wayRound_34 li x1 x2) 1) else nI (2 * i + 3)) = (if F_X4_holds (Nx R C (T_X3_wayRound_26 li x1) (T_X3_wayRound_34 li x1 x2) a) (T_X3_wayRound_14 C x1) = 0 then wayA R C (T_X3_wayRound_26 li x1) (T_X3_wayRound_34 li x1 x2) (T_X3_wayRound_14 C x1) n (i + 1) (Nx R C (T_X3_wayRound_26 li x1) (T_X3_wayRound_34 li x1 x2) a) else nI (2 * i + 3))
    rw [spr_one, wayR_A n (i + 1)]
theorem stp_N {R C : Nat} {fi br : Int32} {K kk : Nat} {x2 : Int32} (a : Int32 × Int32) : itr (fun i b => S_X7_stepsTo_50 R C fi br K kk x2 a i b) R 0 a.1 = Nx R C (T_X7_stepsTo_9 R C fi br K kk) ((T_X7_stepsTo_9 R C fi br K kk) &&& (x2 ^^^ (-1))) a.1 := rfl
theorem stp_B {R C : Nat} {fi br : Int32} {K kk : Nat} {x2 : Int32} : ∀ (n i : Nat) (a : Int32 × Int32), L_X7_stepsTo_26 R C fi br K kk x2 n i a = wayB R C (T_X7_stepsTo_9 R C fi br K kk) ((T_X7_stepsTo_9 R C fi br K kk) &&& (x2 ^^^ (-1))) ((nI kk) - (nI kk) / (nI C) * (nI C)) n a.1 a.2
  | 0, _, _ => rfl
  | n + 1, i, a => by
    show (if (F_X7_has a.1 ((nI kk) - (nI kk) / (nI C) * (nI C))) = 0 then (if (itr (fun i b => S_X7_stepsTo_50 R C fi br K kk x2 a i b) R 0 a.1) = a.1 then (-1) else L_X7_stepsTo_26 R C fi br K kk x2 n (i + 1) ((itr (fun i b => S_X7_stepsTo_50 R C fi br K kk x2 a i b) R 0 a.1), a.2 + 2)) else a.2) = _
    rw [stp_N, stp_B n (i + 1)]
    rfl
/-- the way round a key, both sides -/
theorem way_key {R C K : Nat} {fi br x2 : Int32} {k : Nat} (hR : R ≤ 5) (hC : C ≤ 5) (h0 : 0 < C) (hK : K = R * C) (hk : k < K) : F_X3_wayRound R C (F_X7_able R C fi br K) (nI k) x2 = F_X7_stepsTo R C fi br K k x2 := by
  have hk25 : K ≤ 25 := by rw [hK]; exact Nat.mul_le_mul hR hC
  obtain ⟨d1, d2, d3⟩ := rc_div (R := R) (C := C) (j := k) (by omega)
  have e1 : (nI k) / (nI C) = nI (k / C) := pk_div (by omega) (by omega) (by omega)
  have e2 : (nI k) - (nI k) / (nI C) * (nI C) = nI (k % C) := pk_rem (by omega) (by omega) (by omega)
  have f1 : F_X3_rowOf C (nI k) = nI (k / C) := by
    unfold F_X3_rowOf
    rw [if_neg (fun h => by
      rw [Int32.le_iff_toInt_le, nI_toInt (by omega), show (0 : Int32).toInt = 0 from by decide] at h
      omega), e1]
  have f2 : T_X3_wayRound_14 C (nI k) = nI (k % C) := by
    show nI k - (F_X3_rowOf C (nI k)) * (nI C) = nI (k % C)
    rw [f1, ← e1, e2]
  have f3 : T_X3_wayRound_26 (F_X7_able R C fi br K) (nI k) = T_X7_stepsTo_9 R C fi br K k := rfl
  have f4 : T_X3_wayRound_34 (F_X7_able R C fi br K) (nI k) x2 = (T_X7_stepsTo_9 R C fi br K k) &&& (x2 ^^^ (-1)) := rfl
  have f5 : T_X3_wayRound_43 C (F_X7_able R C fi br K) (nI k) = F_X3_columnsOf C (T_X7_stepsTo_9 R C fi br K k) (nI (k / C)) := by
    show F_X3_columnsOf C _ (F_X3_rowOf C (nI k)) = _
    rw [f1]; rfl
  unfold F_X3_wayRound F_X7_stepsTo
  rw [wayR_A, stp_B, f2, f3, f4, f5, e2, e1]
  have hb : ∀ c, bt (F_X3_columnsOf C (T_X7_stepsTo_9 R C fi br K k) (nI (k / C))) c = (decide (c < C) && bt (T_X7_stepsTo_9 R C fi br K k) (k / C * C + c)) := bt_col hC _ (by omega)
  refine way_eq hR hC (r := k / C) d1 (R - 1) 33 0 _ (by omega) ?_ (fun c hc hf => ?_) ?_
  · refine (holds_iff (by omega)).mpr ?_
    rw [hb, ← d3]
    cases e : bt (T_X7_stepsTo_9 R C fi br K k) k with
    | false => exact Bool.and_false _
    | true => exact absurd rfl ((with0_b (by omega) (by omega)).mp e).2
  · rw [hb, decide_eq_true hc, hf]; rfl
  · have h9 : 0 < ct (gvn R C (T_X7_stepsTo_9 R C fi br K k) ((T_X7_stepsTo_9 R C fi br K k) &&& (x2 ^^^ (-1))) (F_X3_columnsOf C (T_X7_stepsTo_9 R C fi br K k) (nI (k / C))) (k / C)) R := by
      refine Nat.lt_of_le_of_lt (Nat.zero_le _) (ct_lt (p := fun _ => false) (fun i h => absurd h (by decide)) (k := k / C) (by decide) ?_ R d1)
      unfold gvn
      rw [decide_eq_true d1, decide_eq_true rfl]
      rfl
    omega
theorem wayA_never {R C : Nat} {fo ba q : Int32} (P : Int32 → Prop) (h1 : ∀ a, P a → P (Nx R C fo ba a)) (h2 : ∀ a, P a → F_X4_holds a q = 0) : ∀ (n i : Nat) (a : Int32), P a → wayA R C fo ba q n i a = -1
  | 0, _, _, _ => rfl
  | n + 1, i, a, h => by
    show (if F_X4_holds (Nx R C fo ba a) q = 0 then wayA R C fo ba q n (i + 1) (Nx R C fo ba a) else nI (2 * i + 3)) = -1
    rw [if_pos (h2 _ (h1 a h))]
    exact wayA_never P h1 h2 n (i + 1) _ (h1 a h)
theorem way_dead {R C K : Nat} {fi br x2 : Int32} {k : Nat} (hR : R ≤ 5) (hC : C ≤ 5) (h0 : 0 < C) (hK : K = R * C) (hf : ∀ j, bt fi j = true → j < K) (hk : k < K) (hfi : bt fi k = true) (hn : bt (F_X7_able R C fi br K) k = false) : F_X7_stepsTo R C fi br K k x2 = -1 := by
  have hk25 : K ≤ 25 := by rw [hK]; exact Nat.mul_le_mul hR hC
  obtain ⟨d1, d2, d3⟩ := rc_div (R := R) (C := C) (j := k) (by omega)
  have e1 : (nI k) / (nI C) = nI (k / C) := pk_div (by omega) (by omega) (by omega)
  have e2 : (nI k) - (nI k) / (nI C) * (nI C) = nI (k % C) := pk_rem (by omega) (by omega) (by omega)
  have f1 : F_X3_rowOf C (nI k) = nI (k / C) := by
    unfold F_X3_rowOf
    rw [if_neg (fun h => by
      rw [Int32.le_iff_toInt_le, nI_toInt (by omega), show (0 : Int32).toInt = 0 from by decide] at h
      omega), e1]
  have f2 : T_X3_wayRound_14 C (nI k) = nI (k % C) := by
    show nI k - (F_X3_rowOf C (nI k)) * (nI C) = nI (k % C)
    rw [f1, ← e1, e2]
  rw [← way_key hR hC h0 hK hk]
  unfold F_X3_wayRound
  rw [wayR_A, f2, show T_X3_wayRound_43 C (F_X7_able R C fi br K) (nI k) = F_X3_columnsOf C (T_X3_wayRound_26 (F_X7_able R C fi br K) (nI k)) (nI (k / C)) by show F_X3_columnsOf C _ (F_X3_rowOf C (nI k)) = _; rw [f1]]
  generalize hba : T_X3_wayRound_34 (F_X7_able R C fi br K) (nI k) x2 = ba
  have hfo : ∀ j, bt (T_X3_wayRound_26 (F_X7_able R C fi br K) (nI k)) j = true → bt (F_X7_able R C fi br K) j = true := fun j hj => by
    have hj : bt ((F_X7_able R C fi br K) &&& (((1 : Int32) <<< ((nI k) &&& 31)) ^^^ (-1))) j = true := hj
    rw [bt_and, Bool.and_eq_true] at hj
    exact hj.1
  generalize T_X3_wayRound_26 (F_X7_able R C fi br K) (nI k) = fo at hfo ⊢
  have hcol : ∀ c, bt (F_X3_columnsOf C fo (nI (k / C))) c = (decide (c < C) && bt fo (k / C * C + c)) := bt_col hC _ (by omega)
  by_cases hb : bt br (k / C) = false
  · have hb2 : ¬ bt br (R + k % C) = false := fun h => by
      have h9 := (able_iff (fi := fi) (br := br) hR hC h0 hK hf (j := k) (by omega)).mpr ⟨k / C, k % C, d1, d2, d3, hb, h, hfi⟩
      rw [hn] at h9
      exact absurd h9 (by decide)
    have hno : ∀ i, i < R → bt fo (i * C + k % C) = false := fun i hi => by
      cases e : bt fo (i * C + k % C) with
      | false => rfl
      | true =>
        have h25 := rc_lt hR hC hi d2
        obtain ⟨r, c, r1, c1, r2, -, b2, -⟩ := (able_iff (fi := fi) (br := br) hR hC h0 hK hf (by omega)).mp (hfo _ e)
        obtain ⟨-, q2⟩ := rc_inj r2 d2 c1
        rw [← q2] at b2
        exact absurd b2 hb2
    refine wayA_never (fun a => bt a (k % C) = false) (fun a ha => ?_) (fun a ha => (holds_iff (by omega)).mpr ha) (R - 1) 0 _ ?_
    · cases e : bt (Nx R C fo ba a) (k % C) with
      | false => rfl
      | true =>
        rcases (spr_1 (fo := fo) (ba := ba) hR hC a (k % C)).mp e with h | ⟨i, i1, -, -, i4⟩
        · rw [ha] at h; exact absurd h (by decide)
        · rw [hno i i1] at i4; exact absurd i4 (by decide)
    · rw [hcol, hno _ d1, Bool.and_false]
  · refine wayA_never (fun a => ∀ c, bt a c = false) (fun a ha c => ?_) (fun a ha => (holds_iff (by omega)).mpr (ha _)) (R - 1) 0 _ (fun c => ?_)
    · cases e : bt (Nx R C fo ba a) c with
      | false => rfl
      | true =>
        rcases (spr_1 (fo := fo) (ba := ba) hR hC a c).mp e with h | ⟨i, i1, ⟨d, -, -, h⟩, -⟩
        · rw [ha] at h; exact absurd h (by decide)
        · rw [ha] at h; exact absurd h (by decide)
    · rw [hcol]
      by_cases hc : c < C
      · cases e : bt fo (k / C * C + c) with
        | false => exact Bool.and_false _
        | true =>
          have h25 := rc_lt hR hC d1 hc
          obtain ⟨r, c', r1, c1, r2, b1, -, -⟩ := (able_iff (fi := fi) (br := br) hR hC h0 hK hf (by omega)).mp (hfo _ e)
          obtain ⟨q1, -⟩ := rc_inj r2 hc c1
          rw [← q1] at b1
          exact absurd b1 hb
      · rw [decide_eq_false hc, Bool.false_and]
theorem itr_cgB {α : Type} {f g : Nat → α → α} : ∀ (n i : Nat) (a : α), (∀ k a, i ≤ k → k < i + n → f k a = g k a) → itr f n i a = itr g n i a
  | 0, _, _, _ => rfl
  | n + 1, i, a, h => by
    show itr f n (i + 1) (f i a) = itr g n (i + 1) (g i a)
    rw [h i a (Nat.le_refl _) (by omega)]
    exact itr_cgB n (i + 1) _ (fun k a h1 h2 => h k a (by omega) (by omega))
/-- the least keys, both sides -/
theorem least_eq {R C K : Nat} {fi br x1 : Int32} (hR : R ≤ 5) (hC : C ≤ 5) (h0 : 0 < C) (hK : K = R * C) (hf : ∀ j, bt fi j = true → j < K) : F_X3_leastKeys R C K (F_X7_able R C fi br K) x1 = F_X7_leastOf R C fi br K x1 := by
  have hk25 : K ≤ 25 := by rw [hK]; exact Nat.mul_le_mul hR hC
  refine itr_cgB K 0 (-1) (fun k a _ hk => ?_)
  have hk : k < K := by omega
  show S_X3_leastKeys_4 R C (F_X7_able R C fi br K) x1 k a = S_X7_leastOf_4 R C fi br K x1 k a
  unfold S_X3_leastKeys_4 S_X7_leastOf_4
  rw [way_key hR hC h0 hK hk]
  by_cases h1 : F_X7_has fi (nI k) = 0
  · have h2 : F_X4_holds (F_X7_able R C fi br K) (nI k) = 0 := (holds_iff (by omega)).mpr (by
      cases e : bt (F_X7_able R C fi br K) k with
      | false => rfl
      | true =>
        obtain ⟨_, _, _, _, _, _, _, b⟩ := (able_iff (fi := fi) (br := br) hR hC h0 hK hf (by omega)).mp e
        rw [(has_iff (by omega)).mp h1] at b
        exact absurd b (by decide))
    rw [if_pos h1, if_pos h2]
  · rw [if_neg h1]
    by_cases h2 : F_X4_holds (F_X7_able R C fi br K) (nI k) = 0
    · have h3 : bt fi k = true := by
        cases e : bt fi k with
        | true => rfl
        | false => exact absurd ((has_iff (by omega)).mpr e) h1
      rw [if_pos h2, if_pos (way_dead hR hC h0 hK hf hk h3 ((holds_iff (by omega)).mp h2))]
    · rw [if_neg h2]

/-- two loops side by side -/
theorem itr_sim {α β : Type} {f : Nat → α → α} {g : Nat → β → β} (Rl : Nat → α → β → Prop) : ∀ (n i : Nat) (a : α) (b : β), (∀ k a b, i ≤ k → k < i + n → Rl k a b → Rl (k + 1) (f k a) (g k b)) → Rl i a b → Rl (i + n) (itr f n i a) (itr g n i b)
  | 0, _, _, _, _, h => h
  | n + 1, i, a, b, hs, h => by
    have q := itr_sim Rl n (i + 1) (f i a) (g i b) (fun k a b h1 h2 h3 => hs k a b (by omega) (by omega) h3) (hs i a b (Nat.le_refl _) (by omega) h)
    rw [show i + 1 + n = i + (n + 1) by omega] at q
    exact q
/-- what stands in the fingers, both sides -/
def FQ (K : Nat) (fB fS fN fM : Nat → Int32) (V : Nat → KV) : Prop := ∀ k, k < K → fB k = kbo (V k) ∧ fS k = kst (V k) ∧ fN k = kle (V k) ∧ fM k = kto (V k) ∧ (kst (V k) = 0 ∨ kst (V k) = 1 ∨ kst (V k) = 2) ∧ (kto (V k) = -1 ∨ ∃ t, t ≤ 2000 ∧ kto (V k) = nI t)
/-- all but how long it bounces -/
def keepF (v v2 : KV) : Prop := kbo v = kbo v2 ∧ kst v = kst v2 ∧ kco v = kco v2 ∧ kto v = kto v2 ∧ kgo v = kgo v2 ∧ kcc v = kcc v2 ∧ kne v = kne v2 ∧ kcp v = kcp v2 ∧ kev v = kev v2
theorem keepF_up {V V0 : Nat → KV} {i : Nat} {x : Int32} (h : ∀ k, keepF (V k) (V0 k)) : ∀ k, keepF (va_up V i (mkV (kbo (V i)) (kst (V i)) x (kco (V i)) (kto (V i)) (kgo (V i)) (kcc (V i)) (kne (V i)) (kcp (V i)) (kev (V i))) k) (V0 k) := fun k => by
  by_cases e : k = i
  · subst e
    rw [va_up_self]
    exact h k
  · rw [va_up_ne _ _ e]
    exact h k
theorem FQ_le {K : Nat} {fB fS fN fM : Nat → Int32} {V : Nat → KV} (h : FQ K fB fS fN fM V) {i : Nat} {x : Int32} : FQ K fB fS (upd fN i x) fM (va_up V i (mkV (kbo (V i)) (kst (V i)) x (kco (V i)) (kto (V i)) (kgo (V i)) (kcc (V i)) (kne (V i)) (kcp (V i)) (kev (V i)))) := fun k hk => by
  by_cases e : k = i
  · subst e
    obtain ⟨h1, h2, h3, h4, h5⟩ := h k hk
    rw [va_up_self, pk_us]
    exact ⟨h1, h2, rfl, h4, h5⟩
  · rw [va_up_ne _ _ e, pk_un e]
    exact h k hk
theorem with0_same {a : Int32} {i : Nat} (hi : i < 32) (h : bt a i = false) : F_X7_with a (nI i) 0 = a := by
  unfold F_X7_with
  rw [if_pos rfl]
  refine bt_ext (fun j hj => ?_)
  rw [bt_and, bt_not _ hj, bt_bit hi hj]
  by_cases e : j = i
  · subst e; rw [h]; rfl
  · rw [decide_eq_false e, Bool.not_false, Bool.and_true]
theorem or_above {a : Int32} {i : Nat} (hi : i < 32) (h : ∀ j, i ≤ j → bt a j = false) : ∀ j, i + 1 ≤ j → bt (a ||| ((1 : Int32) <<< ((nI i) &&& 31))) j = false := fun j hj => by
  by_cases h32 : j < 32
  · rw [bt_or, bt_bit hi h32, h j (by omega), decide_eq_false (by omega)]; rfl
  · exact bt_big _ (by omega)
def CQ5 (K : Nat) (fB fS fM : Nat → Int32) (V : Nat → KV) (i : Nat) (a : Int32 × (Nat → Int32) × Int32) (b : Int32 × Int32 × (Nat → KV)) : Prop := a.1 = b.1 ∧ a.2.2 = b.2.1 ∧ (∀ j, i ≤ j → bt a.1 j = false) ∧ FQ K fB fS a.2.1 fM b.2.2 ∧ ∀ k, keepF (b.2.2 k) (V k)
theorem closed_step {K : Nat} {fB fS fM : Nat → Int32} {V : Nat → KV} {fi he : Int32} {i : Nat} (hi : i < K) (hK : K ≤ 25) (a : Int32 × (Nat → Int32) × Int32) (b : Int32 × Int32 × (Nat → KV)) (h : CQ5 K fB fS fM V i a b) : CQ5 K fB fS fM V (i + 1) (S_X0_closedNow_5 fS he fi i a) (S_X7_closedNow_4 fi he i b) := by
  obtain ⟨m, fN, lu⟩ := a
  obtain ⟨m2, lu2, W⟩ := b
  obtain ⟨e1, e2, h3, h4, h5⟩ := h
  dsimp only at e1 e2 h3 h4 h5
  subst e1
  subst e2
  obtain ⟨g1, g2, g3, g4, g5, -⟩ := h4 i hi
  have up : ∀ x : Int32, CQ5 K fB fS fM V (i + 1) (m ||| ((1 : Int32) <<< ((nI i) &&& 31)), fN, x) (F_X7_with m (nI i) 1, x, W) := fun x => ⟨rfl, rfl, or_above (by omega) h3, h4, h5⟩
  have no : ∀ x : Int32, CQ5 K fB fS fM V (i + 1) (m, fN, x) (m, x, W) := fun x => ⟨rfl, rfl, fun j hj => h3 j (by omega), h4, h5⟩
  have e0 : F_X7_with m (nI i) 0 = m := with0_same (by omega) (h3 i (Nat.le_refl _))
  unfold S_X0_closedNow_5 S_X7_closedNow_4
  dsimp only
  by_cases h1 : F_X7_has fi (nI i) = 0
  · rw [if_pos (show F_X4_holds fi (nI i) = 0 from h1), if_pos h1]
    exact no lu
  · rw [if_neg (show ¬ F_X4_holds fi (nI i) = 0 from h1), if_neg h1]
    rcases g5 with q | q | q
    · rw [if_neg (show ¬ kst (W i) = 1 by rw [q]; decide), if_neg (show ¬ kst (W i) = 2 by rw [q]; decide)]
      by_cases h6 : fN i ≤ 0
      · have hc : F_X0_isClosedNow fS fN he lu i = (F_X4_holds he (nI i), fN, lu) := by
          unfold F_X0_isClosedNow
          rw [if_pos (g2.trans q), if_pos h6]
        rw [hc, ← g3]
        dsimp only
        by_cases h7 : F_X7_has he (nI i) = 0
        · rw [if_pos (show F_X4_holds he (nI i) = 0 from h7), if_pos h7, if_pos q, if_pos h6, e0]
          exact no lu
        · rw [if_neg (show ¬ F_X4_holds he (nI i) = 0 from h7), if_neg h7, if_pos q, if_pos h6]
          exact up lu
      · have up2 : ∀ x : Int32, CQ5 K fB fS fM V (i + 1) (m ||| ((1 : Int32) <<< ((nI i) &&& 31)), upd fN i (fN i - 1), x) (F_X7_with m (nI i) 1, x, va_up W i (mkV (kbo (W i)) (kst (W i)) (fN i - 1) (kco (W i)) (kto (W i)) (kgo (W i)) (kcc (W i)) (kne (W i)) (kcp (W i)) (kev (W i)))) := fun x => ⟨rfl, rfl, or_above (by omega) h3, FQ_le h4, keepF_up h5⟩
        have no2 : ∀ x : Int32, CQ5 K fB fS fM V (i + 1) (m, upd fN i (fN i - 1), x) (m, x, va_up W i (mkV (kbo (W i)) (kst (W i)) (fN i - 1) (kco (W i)) (kto (W i)) (kgo (W i)) (kcc (W i)) (kne (W i)) (kcp (W i)) (kev (W i)))) := fun x => ⟨rfl, rfl, fun j hj => h3 j (by omega), FQ_le h4, keepF_up h5⟩
        rw [← g3]
        by_cases h8 : (((61 * lu) + 35) - ((61 * lu) + 35) / 128 * 128) - (((61 * lu) + 35) - ((61 * lu) + 35) / 128 * 128) / 2 * 2 = 1
        · have hc : F_X0_isClosedNow fS fN he lu i = (1, upd fN i (fN i - 1), ((61 * lu) + 35) - ((61 * lu) + 35) / 128 * 128) := by
            unfold F_X0_isClosedNow
            rw [if_pos (g2.trans q), if_neg h6, if_pos h8]
          rw [hc]
          dsimp only
          rw [if_neg (show ¬ (1 : Int32) = 0 by decide)]
          by_cases h7 : F_X7_has he (nI i) = 0
          · rw [if_pos h7, if_pos q, if_neg h6, if_pos h8]
            exact up2 _
          · rw [if_neg h7, if_pos q, if_neg h6, if_pos h8]
            exact up2 _
        · have hc : F_X0_isClosedNow fS fN he lu i = (0, upd fN i (fN i - 1), ((61 * lu) + 35) - ((61 * lu) + 35) / 128 * 128) := by
            unfold F_X0_isClosedNow
            rw [if_pos (g2.trans q), if_neg h6, if_neg h8]
          rw [hc]
          dsimp only
          rw [if_pos (show (0 : Int32) = 0 from rfl)]
          by_cases h7 : F_X7_has he (nI i) = 0
          · rw [if_pos h7, if_pos q, if_neg h6, if_neg h8, e0]
            exact no2 _
          · rw [if_neg h7, if_pos q, if_neg h6, if_neg h8, e0]
            exact no2 _
    · have hc : F_X0_isClosedNow fS fN he lu i = (0, fN, lu) := by
        unfold F_X0_isClosedNow
        rw [if_neg (show ¬ fS i = 0 by rw [g2, q]; decide), if_pos (g2.trans q)]
      rw [if_pos q, hc]
      dsimp only
      rw [if_pos (show (0 : Int32) = 0 from rfl)]
      exact no lu
    · have hc : F_X0_isClosedNow fS fN he lu i = (1, fN, lu) := by
        unfold F_X0_isClosedNow
        rw [if_neg (show ¬ fS i = 0 by rw [g2, q]; decide), if_neg (show ¬ fS i = 1 by rw [g2, q]; decide)]
      rw [if_neg (show ¬ kst (W i) = 1 by rw [q]; decide), if_pos q, if_neg (show ¬ kst (W i) = 0 by rw [q]; decide), hc]
      dsimp only
      rw [if_neg (show ¬ (1 : Int32) = 0 by decide)]
      exact up lu
/-- what is closed now, both sides -/
theorem closed_eq {K : Nat} {fB fS fN fM : Nat → Int32} {V : Nat → KV} {fi he lu : Int32} (hK : K ≤ 25) (h : FQ K fB fS fN fM V) : (F_X0_closedNow fS fN he lu fi K).1 = (F_X7_closedNow fi he lu K V).1 ∧ (F_X0_closedNow fS fN he lu fi K).2.2 = (F_X7_closedNow fi he lu K V).2.1 ∧ FQ K fB fS (F_X0_closedNow fS fN he lu fi K).2.1 fM (F_X7_closedNow fi he lu K V).2.2 ∧ (∀ k, keepF ((F_X7_closedNow fi he lu K V).2.2 k) (V k)) ∧ ∀ j, K ≤ j → bt (F_X0_closedNow fS fN he lu fi K).1 j = false := by
  have q := itr_sim (CQ5 K fB fS fM V) K 0 (0, fN, lu) (0, lu, V) (fun k a b _ h2 h3 => closed_step (fi := fi) (he := he) (by omega) hK a b h3) ⟨rfl, rfl, fun j _ => bt_0 j, h, fun k => ⟨rfl, rfl, rfl, rfl, rfl, rfl, rfl, rfl, rfl⟩⟩
  rw [Nat.zero_add] at q
  exact ⟨q.1, q.2.1, q.2.2.2.1, q.2.2.2.2, q.2.2.1⟩
/-- a key is down -/
def dwn (v : KV) : Bool := decide (kne v % 2 = 1)
/-- the scan of its last event, 0 if there is none -/
def lst (v : KV) : Int32 := if kne v = 0 then 0 else kev v (kne v - 1)
theorem down_dwn {v : KV} (h : kne v < 2 ^ 31) : F_X6_isDown (kne v) = if dwn v = true then 1 else 0 := by
  have e : nI (kne v) - nI (kne v) / 2 * 2 = nI (kne v % 2) := pk_rem h (by decide) (by decide)
  unfold F_X6_isDown F_Jx4a65c_size_8abf5 dwn
  rw [e]
  rcases Nat.mod_two_eq_zero_or_one (kne v) with q | q
  · rw [q]; rfl
  · rw [q]; rfl
theorem holds_bt {x : Int32} {k : Nat} (hk : k < 32) : F_X4_holds x (nI k) = if bt x k = true then 1 else 0 := by
  cases e : bt x k with
  | false => exact (holds_iff hk).mpr e
  | true => exact (hold_01 x (nI k)).resolve_left (fun q => by rw [(holds_iff hk).mp q] at e; exact absurd e (by decide))
/-- the text, both sides -/
def YQ (lo : Int32) (n : Nat) (fY : Nat → Int32) (mlo : Int32) (mn : Nat) (mfY : Nat → Int32) : Prop := lo = mlo ∧ n = mn ∧ n ≤ 60 ∧ ∀ j, j < n → fY j = mfY j
theorem app_A {n j : Nat} {fY : Nat → Int32} {x : Int32} : (F_J4_append_cf468A n fY x).1 = n + 1 ∧ (F_J4_append_cf468A n fY x).2 j = if j = n then vp_nar .byte x.toInt8.toInt32 else fY j := ⟨rfl, rfl⟩
theorem app_B {n j : Nat} {fY : Nat → Int32} {x : Int32} (hj : j < n + 1) : (F_J4_append_cf468B n fY x).1 = n + 1 ∧ (F_J4_append_cf468B n fY x).2.2 j = if j = n then vp_nar .byte x.toInt8.toInt32 else fY j := by
  refine ⟨rfl, ?_⟩
  show (if j = n then vp_nar .byte x.toInt8.toInt32 else va_cpy fY (fun _ => 0) 0 0 n j) = _
  by_cases e : j = n
  · rw [if_pos e, if_pos e]
  · rw [if_neg e, if_neg e, pk_cpy_in (Nat.zero_le _) (by omega)]
    exact congrArg fY (by omega)
theorem type1 {lo x : Int32} {n cap : Nat} {fY : Nat → Int32} (hn : n ≤ 60) : (n = 60 ∧ F_X1_type lo n cap fY x = (lo + 1, n, cap, fY)) ∨ (n < 60 ∧ (F_X1_type lo n cap fY x).1 = lo ∧ (F_X1_type lo n cap fY x).2.1 = n + 1 ∧ ∀ j, j < n + 1 → (F_X1_type lo n cap fY x).2.2.2 j = if j = n then vp_nar .byte x.toInt8.toInt32 else fY j) := by
  unfold F_X1_type
  by_cases h : n = 60
  · subst h
    exact Or.inl ⟨rfl, if_pos (by decide)⟩
  · have h1 : ¬ (60 : Int32) ≤ nI n := nI_ge (show n < 60 by omega) (by decide)
    refine Or.inr ⟨by omega, ?_⟩
    rw [if_neg h1]
    by_cases h2 : n < cap
    · rw [if_pos h2]; exact ⟨rfl, rfl, fun j hj => app_A.2⟩
    · rw [if_neg h2]; exact ⟨rfl, rfl, fun j hj => (app_B hj).2⟩
theorem type7 {lo x : Int32} {n cap : Nat} {fY : Nat → Int32} (hn : n ≤ 60) : (n = 60 ∧ F_X7_type lo n cap fY x = (lo + 1, n, cap, fY)) ∨ (n < 60 ∧ (F_X7_type lo n cap fY x).1 = lo ∧ (F_X7_type lo n cap fY x).2.1 = n + 1 ∧ ∀ j, j < n + 1 → (F_X7_type lo n cap fY x).2.2.2 j = if j = n then vp_nar .byte x.toInt8.toInt32 else fY j) := by
  unfold F_X7_type
  by_cases h : n = 60
  · subst h
    exact Or.inl ⟨rfl, if_pos (by decide)⟩
  · have h1 : ¬ nI n = 60 := fun e => h ((nI_eq (by omega) (show 60 < 2 ^ 31 by decide)).mp e)
    refine Or.inr ⟨by omega, ?_⟩
    rw [if_neg h1]
    by_cases h2 : n < cap
    · rw [if_pos h2]; exact ⟨rfl, rfl, fun j hj => app_A.2⟩
    · rw [if_neg h2]; exact ⟨rfl, rfl, fun j hj => (app_B hj).2⟩
/-- a sign typed on both sides -/
theorem type_eq {lo mlo x : Int32} {n cap mn mcap : Nat} {fY mfY : Nat → Int32} (h : YQ lo n fY mlo mn mfY) : YQ (F_X1_type lo n cap fY x).1 (F_X1_type lo n cap fY x).2.1 (F_X1_type lo n cap fY x).2.2.2 (F_X7_type mlo mn mcap mfY x).1 (F_X7_type mlo mn mcap mfY x).2.1 (F_X7_type mlo mn mcap mfY x).2.2.2 := by
  obtain ⟨e1, e2, hn, h4⟩ := h
  subst e1
  subst e2
  rcases type1 (lo := lo) (x := x) (cap := cap) (fY := fY) hn with ⟨a1, a2⟩ | ⟨a1, a2, a3, a4⟩
  · rcases type7 (lo := lo) (x := x) (cap := mcap) (fY := mfY) hn with ⟨b1, b2⟩ | ⟨b1, -⟩
    · rw [a2, b2]; exact ⟨rfl, rfl, hn, h4⟩
    · omega
  · rcases type7 (lo := lo) (x := x) (cap := mcap) (fY := mfY) hn with ⟨b1, -⟩ | ⟨b1, b2, b3, b4⟩
    · omega
    · rw [a2, a3, b2, b3]
      refine ⟨rfl, rfl, by omega, fun j hj => ?_⟩
      rw [a4 j hj, b4 j hj]
      by_cases e : j = n
      · rw [if_pos e, if_pos e]
      · rw [if_neg e, if_neg e]; exact h4 j (by omega)
theorem back_n {ml : Int32} {n : Nat} (hn : n ≤ 60) : (F_J4_setLength_d00df ml n (n - 1)).2 = n - 1 := by
  show (F_J5_setLength_d00df ml n (n - 1)).2 = n - 1
  unfold F_J5_setLength_d00df
  split <;> rfl

theorem dw1 {fG : Nat → Int32} {c : Int32} : ∀ n i, (L_X1_isDownWith_2 fG c n i () = 1 ∧ ∃ k, i ≤ k ∧ k < i + n ∧ fG k = c) ∨ (L_X1_isDownWith_2 fG c n i () = 0 ∧ ∀ k, i ≤ k → k < i + n → ¬ fG k = c)
  | 0, i => Or.inr ⟨rfl, fun k h1 h2 => by omega⟩
  | n + 1, i => by
    show ((if fG i = c then 1 else L_X1_isDownWith_2 fG c n (i + 1) ()) = 1 ∧ _) ∨ ((if fG i = c then 1 else L_X1_isDownWith_2 fG c n (i + 1) ()) = 0 ∧ _)
    by_cases h : fG i = c
    · rw [if_pos h]
      exact Or.inl ⟨rfl, i, Nat.le_refl _, by omega, h⟩
    · rw [if_neg h]
      rcases dw1 (fG := fG) (c := c) n (i + 1) with ⟨h1, k, h2, h3, h4⟩ | ⟨h1, h2⟩
      · exact Or.inl ⟨h1, k, by omega, by omega, h4⟩
      · refine Or.inr ⟨h1, fun k q1 q2 => ?_⟩
        by_cases e : k = i
        · rw [e]; exact h
        · exact h2 k (by omega) (by omega)
theorem dw7 {V : Nat → KV} {c : Int32} : ∀ n i a, (∀ k, i ≤ k → k < i + n → kne (V k) < 2 ^ 31) → (L_X7_isDownWith_8 V c n i a = 1 ∧ ∃ k, i ≤ k ∧ k < i + n ∧ dwn (V k) = true ∧ kgo (V k) = c) ∨ (L_X7_isDownWith_8 V c n i a = 0 ∧ ∀ k, i ≤ k → k < i + n → dwn (V k) = true → ¬ kgo (V k) = c)
  | 0, i, a, _ => Or.inr ⟨rfl, fun k h1 h2 => by omega⟩
  | n + 1, i, a, hb => by
    have ih := dw7 (V := V) (c := c) n (i + 1) (nI i) (fun k h1 h2 => hb k (by omega) (by omega))
    show ((if F_X6_isDown (kne (V i)) = 0 then L_X7_isDownWith_8 V c n (i + 1) (nI i) else if kgo (V i) = c then 1 else L_X7_isDownWith_8 V c n (i + 1) (nI i)) = 1 ∧ _) ∨ ((if F_X6_isDown (kne (V i)) = 0 then L_X7_isDownWith_8 V c n (i + 1) (nI i) else if kgo (V i) = c then 1 else L_X7_isDownWith_8 V c n (i + 1) (nI i)) = 0 ∧ _)
    rw [down_dwn (hb i (Nat.le_refl _) (by omega))]
    have rest : ¬ (dwn (V i) = true ∧ kgo (V i) = c) → (L_X7_isDownWith_8 V c n (i + 1) (nI i) = 1 ∧ ∃ k, i ≤ k ∧ k < i + (n + 1) ∧ dwn (V k) = true ∧ kgo (V k) = c) ∨ (L_X7_isDownWith_8 V c n (i + 1) (nI i) = 0 ∧ ∀ k, i ≤ k → k < i + (n + 1) → dwn (V k) = true → ¬ kgo (V k) = c) := fun hn => by
      rcases ih with ⟨h1, k, h2, h3, h4⟩ | ⟨h1, h2⟩
      · exact Or.inl ⟨h1, k, by omega, by omega, h4⟩
      · refine Or.inr ⟨h1, fun k q1 q2 q3 q4 => ?_⟩
        by_cases e : k = i
        · rw [e] at q3 q4; exact hn ⟨q3, q4⟩
        · exact h2 k (by omega) (by omega) q3 q4
    by_cases hd : dwn (V i) = true
    · rw [if_pos hd, if_neg (show ¬ (1 : Int32) = 0 by decide)]
      by_cases hg : kgo (V i) = c
      · rw [if_pos hg]
        exact Or.inl ⟨rfl, i, Nat.le_refl _, by omega, hd, hg⟩
      · rw [if_neg hg]
        exact rest (fun q => hg q.2)
    · rw [if_neg hd, if_pos (show (0 : Int32) = 0 from rfl)]
      exact rest (fun q => hd q.1)
theorem dw_iff {K : Nat} {fG : Nat → Int32} {V : Nat → KV} {c : Int32} (hb : ∀ k, k < K → kne (V k) < 2 ^ 31) (h : (∃ k, k < 25 ∧ fG k = c) ↔ ∃ k, k < K ∧ dwn (V k) = true ∧ kgo (V k) = c) : F_X1_isDownWith fG c = F_X7_isDownWith K V c := by
  unfold F_X1_isDownWith F_X7_isDownWith
  rcases dw1 (fG := fG) (c := c) 25 0 with ⟨h1, k, h2, h3, h4⟩ | ⟨h1, h2⟩
  · rcases dw7 (V := V) (c := c) K 0 (-1) (fun k _ q => hb k (by omega)) with ⟨g1, -⟩ | ⟨g1, g2⟩
    · rw [h1, g1]
    · obtain ⟨k2, a1, a2, a3⟩ := h.mp ⟨k, by omega, h4⟩
      exact absurd a3 (g2 k2 (Nat.zero_le _) (by omega) a2)
  · rcases dw7 (V := V) (c := c) K 0 (-1) (fun k _ q => hb k (by omega)) with ⟨g1, k, g2, g3, g4⟩ | ⟨g1, g2⟩
    · obtain ⟨k2, a1, a2⟩ := h.mpr ⟨k, by omega, g4⟩
      exact absurd a2 (h2 k2 (Nat.zero_le _) (by omega))
    · rw [h1, g1]
/-- the codes got, both sides -/
def GQ (K : Nat) (fG : Nat → Int32) (V : Nat → KV) : Prop := (∀ k, k < K → fG k = if dwn (V k) = true then kgo (V k) else -1) ∧ (∀ k, K ≤ k → k < 25 → fG k = -1) ∧ ∀ k, k < K → kne (V k) < 2 ^ 31
theorem dw_ex {K : Nat} {fG : Nat → Int32} {V : Nat → KV} {c : Int32} (hK : K ≤ 25) (hc : ¬ c = -1) (h : GQ K fG V) : (∃ k, k < 25 ∧ fG k = c) ↔ ∃ k, k < K ∧ dwn (V k) = true ∧ kgo (V k) = c := by
  constructor
  · rintro ⟨k, h1, h2⟩
    by_cases e : k < K
    · have q := h.1 k e
      by_cases hd : dwn (V k) = true
      · rw [if_pos hd] at q; exact ⟨k, e, hd, q.symm.trans h2⟩
      · rw [if_neg hd] at q; exact absurd (h2.symm.trans q) hc
    · exact absurd (h2.symm.trans (h.2.1 k (by omega) h1)) hc
  · rintro ⟨k, h1, h2, h3⟩
    have q := h.1 k h1
    rw [if_pos h2] at q
    exact ⟨k, by omega, q.trans h3⟩
theorem dw_eq {K : Nat} {fG : Nat → Int32} {V : Nat → KV} {c : Int32} (hK : K ≤ 25) (hc : ¬ c = -1) (h : GQ K fG V) : F_X1_isDownWith fG c = F_X7_isDownWith K V c := dw_iff h.2.2 (dw_ex hK hc h)
theorem layer_eq {K : Nat} {fG : Nat → Int32} {V : Nat → KV} (hK : K ≤ 25) (h : GQ K fG V) : F_X1_layerNow fG = F_X7_layer K V ∧ ∃ l : Nat, l < 3 ∧ F_X1_layerNow fG = nI l := by
  unfold F_X1_layerNow F_X7_layer F_X7_one
  rw [dw_eq hK (by decide) h, dw_eq hK (by decide) h]
  refine ⟨rfl, ?_⟩
  by_cases h1 : F_X7_isDownWith K V 30 = 0
  · rw [if_pos h1]
    by_cases h2 : F_X7_isDownWith K V 29 = 0
    · rw [if_pos h2]; exact ⟨0, by decide, rfl⟩
    · rw [if_neg h2]; exact ⟨1, by decide, rfl⟩
  · rw [if_neg h1]; exact ⟨2, by decide, rfl⟩
/-- a press, both sides -/
theorem press_eq {K k : Nat} (hK : K ≤ 25) (hk : k < K) {fC fG fI fY mfY : Nat → Int32} {V : Nat → KV} {lo ml mlo mml x : Int32} {n cap mn mcap : Nat} (hup : dwn (V k) = false) (h : GQ K fG V) (hcc : ∀ j, j < 3 → fC (j * 25 + k) = kcc (V k) j ∧ ∃ c : Nat, c ≤ 31 ∧ kcc (V k) j = nI c) (hY : YQ lo n fY mlo mn mfY) :
    ∃ c : Nat, c ≤ 31 ∧ (kcc (V k)) (F_X7_layer K V).toNatClampNeg = nI c ∧ (F_X1_press lo fC fG fI ml n cap fY k x).1 = upd fG k (nI c) ∧ (F_X1_press lo fC fG fI ml n cap fY k x).2.1 = upd fI k x ∧ YQ (F_X1_press lo fC fG fI ml n cap fY k x).2.2.1 (F_X1_press lo fC fG fI ml n cap fY k x).2.2.2.2.1 (F_X1_press lo fC fG fI ml n cap fY k x).2.2.2.2.2.2 (F_X7_press mlo K mml mn mcap mfY V k).1 (F_X7_press mlo K mml mn mcap mfY V k).2.2.1 (F_X7_press mlo K mml mn mcap mfY V k).2.2.2.2 := by
  obtain ⟨le, l, hl, el⟩ := layer_eq hK h
  obtain ⟨e1, c, hc, ec⟩ := hcc l hl
  have m1 : (kcc (V k)) (F_X7_layer K V).toNatClampNeg = nI c := by rw [← le, el, nI_clamp (by omega)]; exact ec
  have p1 : T_X1_press_14 fC fG k = nI c := by
    unfold T_X1_press_14
    rw [el, show (nI l * 25 + nI k : Int32) = nI (l * 25 + k) from by rw [show (25 : Int32) = nI 25 from rfl, pk_mul, nI_add], nI_clamp (by omega), e1]
    exact ec
  refine ⟨c, hc, m1, ?_⟩
  unfold F_X1_press F_X7_press
  rw [p1, m1]
  by_cases h26 : c < 26
  · have g1 : ¬ (26 : Int32) ≤ nI c := nI_ge h26 (by decide)
    have fk : fG k = -1 := by rw [h.1 k hk, hup]; rfl
    have hs : F_X1_isDownWith (upd fG k (nI c)) 28 = F_X7_isDownWith K (va_up V k (mkV (kbo (V k)) (kst (V k)) (kle (V k)) (kco (V k)) (kto (V k)) (nI c) (kcc (V k)) (kne (V k)) (kcp (V k)) (kev (V k)))) 28 := by
      refine dw_iff (fun j hj => ?_) ?_
      · by_cases e : j = k
        · subst e; rw [va_up_self]; exact h.2.2 j hj
        · rw [va_up_ne _ _ e]; exact h.2.2 j hj
      · constructor
        · rintro ⟨j, j1, j2⟩
          by_cases e : j = k
          · subst e
            rw [pk_us] at j2
            exact absurd ((nI_eq (by omega) (show 28 < 2 ^ 31 by decide)).mp j2) (by omega)
          · rw [pk_un e] at j2
            obtain ⟨q, q1, q2, q3⟩ := (dw_ex hK (by decide) h).mp ⟨j, j1, j2⟩
            have e2 : q ≠ k := fun e2 => by rw [e2, hup] at q2; exact absurd q2 (by decide)
            exact ⟨q, q1, by rw [va_up_ne _ _ e2]; exact q2, by rw [va_up_ne _ _ e2]; exact q3⟩
        · rintro ⟨q, q1, q2, q3⟩
          have e2 : q ≠ k := fun e2 => by
            rw [e2, va_up_self] at q2
            have : dwn (V k) = true := q2
            rw [hup] at this
            exact absurd this (by decide)
          rw [va_up_ne _ _ e2] at q2 q3
          obtain ⟨j, j1, j2⟩ := (dw_ex hK (by decide) h).mpr ⟨q, q1, q2, q3⟩
          have e3 : j ≠ k := fun e3 => by rw [e3, fk] at j2; exact absurd j2 (by decide)
          exact ⟨j, j1, by rw [pk_un e3]; exact j2⟩
    rw [if_neg g1, if_neg g1, hs]
    by_cases h8 : F_X7_isDownWith K (va_up V k (mkV (kbo (V k)) (kst (V k)) (kle (V k)) (kco (V k)) (kto (V k)) (nI c) (kcc (V k)) (kne (V k)) (kcp (V k)) (kev (V k)))) 28 = 0
    · rw [if_pos h8, if_pos h8]
      exact ⟨rfl, rfl, type_eq hY⟩
    · rw [if_neg h8, if_neg h8]
      exact ⟨rfl, rfl, type_eq hY⟩
  · have g1 : (26 : Int32) ≤ nI c := nI_le (show 26 ≤ c by omega) (by omega)
    rw [if_pos g1, if_pos g1]
    by_cases g2 : nI c = 26
    · rw [if_pos g2, if_pos g2]
      exact ⟨rfl, rfl, type_eq hY⟩
    · rw [if_neg g2, if_neg g2]
      by_cases g3 : nI c = 27
      · obtain ⟨y1, y2, y3, y4⟩ := hY
        subst y2
        rw [if_pos g3, if_pos g3]
        by_cases g4 : nI n ≤ 0
        · rw [if_pos g4, if_pos g4]
          exact ⟨rfl, rfl, y1, rfl, y3, y4⟩
        · rw [if_neg g4, if_neg g4]
          refine ⟨rfl, rfl, y1, ?_⟩
          show (F_J4_setLength_d00df ml n (n - 1)).2 = (F_J4_setLength_d00df mml n (n - 1)).2 ∧ (F_J4_setLength_d00df ml n (n - 1)).2 ≤ 60 ∧ ∀ j, j < (F_J4_setLength_d00df ml n (n - 1)).2 → fY j = mfY j
          rw [back_n y3, back_n y3]
          exact ⟨rfl, by omega, fun j hj => y4 j (by omega)⟩
      · rw [if_neg g3, if_neg g3]
        exact ⟨rfl, rfl, hY⟩
/-- a key on both sides: count, events, last event, code got, since, codes -/
def KQ (T : Nat) (fC : Nat → Int32) (k : Nat) (cn e le g s : Int32) (v : KV) : Prop := cn = kco v ∧ e = nI (kne v) ∧ le = lst v ∧ g = (if dwn v = true then kgo v else -1) ∧ (dwn v = true → s = lst v ∧ ∃ c : Nat, c ≤ 31 ∧ kgo v = nI c) ∧ (∀ j, j < 3 → fC (j * 25 + k) = kcc v j ∧ ∃ c : Nat, c ≤ 31 ∧ kcc v j = nI c) ∧ kne v ≤ T ∧ (kne v ≠ 0 → ∃ t, 1 ≤ t ∧ t ≤ T ∧ kev v (kne v - 1) = nI t)
/-- all keys on both sides -/
def SQ (K T : Nat) (fC fCn fE fLE : Nat → Int32) (dn : Int32) (fG fI : Nat → Int32) (V : Nat → KV) : Prop := (∀ k, k < K → bt dn k = dwn (V k)) ∧ (∀ j, bt dn j = true → j < K) ∧ (∀ k, k < K → KQ T fC k (fCn k) (fE k) (fLE k) (fG k) (fI k) (V k)) ∧ ∀ k, K ≤ k → k < 25 → fG k = -1
theorem SQ_G {K T : Nat} {fC fCn fE fLE fG fI : Nat → Int32} {dn : Int32} {V : Nat → KV} (hT : T ≤ 2000) (h : SQ K T fC fCn fE fLE dn fG fI V) : GQ K fG V := ⟨fun k hk => (h.2.2.1 k hk).2.2.2.1, h.2.2.2, fun k hk => by have := (h.2.2.1 k hk).2.2.2.2.2.2.1; omega⟩
theorem SQ_set {K T i : Nat} {fC fCn fE fLE fG fI fCn' fE' fLE' fG' fI' : Nat → Int32} {dn dn' : Int32} {V V' : Nat → KV} (hi : i < K) (h : SQ K T fC fCn fE fLE dn fG fI V) (hne : ∀ j, j ≠ i → fCn' j = fCn j ∧ fE' j = fE j ∧ fLE' j = fLE j ∧ fG' j = fG j ∧ fI' j = fI j ∧ bt dn' j = bt dn j ∧ V' j = V j) (hd : bt dn' i = dwn (V' i)) (hq : KQ T fC i (fCn' i) (fE' i) (fLE' i) (fG' i) (fI' i) (V' i)) : SQ K T fC fCn' fE' fLE' dn' fG' fI' V' := by
  refine ⟨fun k hk => ?_, fun j hj => ?_, fun k hk => ?_, fun k hk hk2 => ?_⟩
  · by_cases e : k = i
    · subst e; exact hd
    · obtain ⟨-, -, -, -, -, q1, q2⟩ := hne k e
      rw [q1, q2]; exact h.1 k hk
  · by_cases e : j = i
    · subst e; exact hi
    · obtain ⟨-, -, -, -, -, q1, -⟩ := hne j e
      rw [q1] at hj; exact h.2.1 j hj
  · by_cases e : k = i
    · subst e; exact hq
    · obtain ⟨q1, q2, q3, q4, q5, -, q7⟩ := hne k e
      rw [q1, q2, q3, q4, q5, q7]; exact h.2.2.1 k hk
  · obtain ⟨-, -, -, q4, -⟩ := hne k (by omega)
    rw [q4]; exact h.2.2.2 k hk hk2
theorem due_same {fCn : Nat → Int32} {dn x2 x3 : Int32} {k : Nat} (h : x2 = F_X4_holds dn (nI k)) : F_X2_isDue fCn dn k x2 x3 = (0, upd fCn k 0) := by unfold F_X2_isDue; rw [if_pos h]
theorem due_wait {fCn : Nat → Int32} {dn x2 x3 : Int32} {k : Nat} (h : ¬ x2 = F_X4_holds dn (nI k)) (h2 : fCn k + 1 < x3) : F_X2_isDue fCn dn k x2 x3 = (0, upd fCn k (fCn k + 1)) := by unfold F_X2_isDue; rw [if_neg h, pk_us, if_pos h2]
theorem due_now {fCn : Nat → Int32} {dn x2 x3 : Int32} {k : Nat} (h : ¬ x2 = F_X4_holds dn (nI k)) (h2 : ¬ fCn k + 1 < x3) : F_X2_isDue fCn dn k x2 x3 = (1, upd fCn k (fCn k + 1)) := by unfold F_X2_isDue; rw [if_neg h, pk_us, if_neg h2]
section
variable {sc R C : Nat} {pa gu se fi di li dn ea lo ml : Int32} {n cap : Nat} {fY fCn fE fLE fC fG fI : Nat → Int32} {k : Nat}
theorem cow_press (h1 : F_X4_holds dn (nI k) = 0) (h2 : gu = 0 ∨ F_X4_couldBeGhost se R C fi di li k = 0) : F_X4_changeOrWait sc pa gu se R C fi di li dn ea lo ml n cap fY fCn fE fLE fC fG fI k = (upd fCn k 0, upd fE k (fE k + 1), upd fLE k (nI sc), dn ^^^ ((1 : Int32) <<< ((nI k) &&& 31)), ea + 1, (F_X1_press lo fC fG fI ml n cap fY k (nI sc)).1, (F_X1_press lo fC fG fI ml n cap fY k (nI sc)).2.1, (F_X1_press lo fC fG fI ml n cap fY k (nI sc)).2.2.1, (F_X1_press lo fC fG fI ml n cap fY k (nI sc)).2.2.2.1, ((F_X1_press lo fC fG fI ml n cap fY k (nI sc)).2.2.2.2.1), ((F_X1_press lo fC fG fI ml n cap fY k (nI sc)).2.2.2.2.2.1), (F_X1_press lo fC fG fI ml n cap fY k (nI sc)).2.2.2.2.2.2) := by
  unfold F_X4_changeOrWait
  rw [if_pos h1]
  by_cases h3 : gu = 0
  · rw [if_pos h3]; rfl
  · rw [if_neg h3, if_pos (h2.resolve_left h3)]; rfl
theorem cow_wait (h1 : F_X4_holds dn (nI k) = 0) (h2 : ¬ gu = 0) (h3 : ¬ F_X4_couldBeGhost se R C fi di li k = 0) : F_X4_changeOrWait sc pa gu se R C fi di li dn ea lo ml n cap fY fCn fE fLE fC fG fI k = (upd fCn k pa, fE, fLE, dn, ea, fG, fI, lo, ml, n, cap, fY) := by
  unfold F_X4_changeOrWait
  rw [if_pos h1, if_neg h2, if_neg h3]
theorem cow_release (h1 : ¬ F_X4_holds dn (nI k) = 0) : F_X4_changeOrWait sc pa gu se R C fi di li dn ea lo ml n cap fY fCn fE fLE fC fG fI k = (upd fCn k 0, upd fE k (fE k + 1), upd fLE k (nI sc), dn ^^^ ((1 : Int32) <<< ((nI k) &&& 31)), ea + 1, upd fG k (-1), fI, lo, ml, n, cap, fY) := by
  unfold F_X4_changeOrWait
  rw [if_neg h1]
  rfl
end
/-- what a scan leaves of a key as it was -/
def keepG (T : Nat) (v v2 : KV) : Prop := kbo v = kbo v2 ∧ kst v = kst v2 ∧ kle v = kle v2 ∧ kto v = kto v2 ∧ (dwn v = true → (dwn v2 = true ∧ lst v = lst v2) ∨ lst v = nI T)
/-- the loop over the keys, both sides, before the key i -/
def RS (K T : Nat) (fC : Nat → Int32) (ea0 : Int32) (V0 : Nat → KV) (i : Nat) (a : (Nat → Int32) × (Nat → Int32) × (Nat → Int32) × Int32 × Int32 × (Nat → Int32) × (Nat → Int32) × Int32 × Int32 × Nat × Nat × (Nat → Int32)) (b : Int32 × (Nat → KV) × Int32 × Int32 × Nat × Nat × (Nat → Int32)) : Prop :=
  SQ K T fC a.1 a.2.1 a.2.2.1 a.2.2.2.1 a.2.2.2.2.2.1 a.2.2.2.2.2.2.1 b.2.1 ∧ a.2.2.2.2.1 = ea0 + b.1 ∧ a.2.2.2.2.1 = nI (sumK K b.2.1 kne) ∧ YQ a.2.2.2.2.2.2.2.1 a.2.2.2.2.2.2.2.2.2.1 a.2.2.2.2.2.2.2.2.2.2.2 b.2.2.1 b.2.2.2.2.1 b.2.2.2.2.2.2 ∧ (∀ k, i ≤ k → k < K → kne (b.2.1 k) + 1 ≤ T) ∧ ∀ k, keepG T (b.2.1 k) (V0 k)
theorem sum_one {K i : Nat} {V : Nat → KV} {v : KV} (hi : i < K) (h : kne v = kne (V i) + 1) : sumK K (va_up V i v) kne = sumK K V kne + 1 := by
  have q := sumK_up (w := kne) (V := V) (v := v) hi
  omega
theorem sum_same {K i : Nat} {V : Nat → KV} {v : KV} (hi : i < K) (h : kne v = kne (V i)) : sumK K (va_up V i v) kne = sumK K V kne := by
  have q := sumK_up (w := kne) (V := V) (v := v) hi
  omega
section
variable {K T : Nat} {fC : Nat → Int32} {ea0 : Int32} {V0 : Nat → KV} {i : Nat} {fCn fE fLE fG fI fY mfY : Nat → Int32} {dn ea lo ml many mlo mml : Int32} {n cap mn mcap : Nat} {V : Nat → KV}
/-- a key that has no event in this scan -/
theorem RS_no (hi : i < K) (h : RS K T fC ea0 V0 i (fCn, fE, fLE, dn, ea, fG, fI, lo, ml, n, cap, fY) (many, V, mlo, mml, mn, mcap, mfY)) {x : Int32} : RS K T fC ea0 V0 (i + 1) (upd fCn i x, fE, fLE, dn, ea, fG, fI, lo, ml, n, cap, fY) (many, va_up V i (mkV (kbo (V i)) (kst (V i)) (kle (V i)) x (kto (V i)) (kgo (V i)) (kcc (V i)) (kne (V i)) (kcp (V i)) (kev (V i))), mlo, mml, mn, mcap, mfY) := by
  obtain ⟨h1, h2, h3, h4, h5, h6⟩ := h
  dsimp only at h1 h2 h3 h4 h5 h6
  refine ⟨?_, h2, ?_, h4, fun k hk hk2 => ?_, fun k => ?_⟩
  · refine SQ_set hi h1 (fun j hj => ⟨pk_un hj, rfl, rfl, rfl, rfl, rfl, va_up_ne _ _ hj⟩) ?_ ?_
    · dsimp only
      rw [va_up_self]
      exact h1.1 i hi
    · obtain ⟨q1, q2, q3, q4, q5, q6, q7, q8⟩ := h1.2.2.1 i hi
      dsimp only
      rw [va_up_self, pk_us]
      exact ⟨rfl, q2, q3, q4, q5, q6, q7, q8⟩
  · dsimp only
    rw [sum_same hi (show kne (mkV (kbo (V i)) (kst (V i)) (kle (V i)) x (kto (V i)) (kgo (V i)) (kcc (V i)) (kne (V i)) (kcp (V i)) (kev (V i))) = kne (V i) from rfl)]
    exact h3
  · dsimp only
    rw [va_up_ne _ _ (by omega)]
    exact h5 k (by omega) hk2
  · dsimp only
    by_cases e : k = i
    · subst e; rw [va_up_self]; exact h6 k
    · rw [va_up_ne _ _ e]; exact h6 k
/-- a key that has an event in this scan -/
theorem RS_ev (hi : i < K) (hT0 : 0 < T) (hT : T ≤ 2000) (h : RS K T fC ea0 V0 i (fCn, fE, fLE, dn, ea, fG, fI, lo, ml, n, cap, fY) (many, V, mlo, mml, mn, mcap, mfY)) (hK : K ≤ 25) {g s go lo' ml' mlo' mml' : Int32} {n' cap' mn' mcap' cp' : Nat} {fG' fI' fY' mfY' : Nat → Int32} (hG : ∀ j, j ≠ i → fG' j = fG j ∧ fI' j = fI j) (hg : fG' i = if dwn (V i) = true then -1 else go) (hs : dwn (V i) = false → fI' i = nI T ∧ ∃ c : Nat, c ≤ 31 ∧ go = nI c) (hY : YQ lo' n' fY' mlo' mn' mfY') : RS K T fC ea0 V0 (i + 1) (upd fCn i 0, upd fE i (fE i + 1), upd fLE i (nI T), dn ^^^ ((1 : Int32) <<< ((nI i) &&& 31)), ea + 1, fG', fI', lo', ml', n', cap', fY') (many + 1, va_up V i (mkV (kbo (V i)) (kst (V i)) (kle (V i)) 0 (kto (V i)) go (kcc (V i)) (kne (V i) + 1) cp' (va_up (kev (V i)) (kne (V i)) (nI T))), mlo', mml', mn', mcap', mfY') := by
  obtain ⟨h1, h2, h3, h4, h5, h6⟩ := h
  dsimp only at h1 h2 h3 h4 h5 h6
  have h9 := h5 i (Nat.le_refl _) hi
  have hl : lst (mkV (kbo (V i)) (kst (V i)) (kle (V i)) 0 (kto (V i)) go (kcc (V i)) (kne (V i) + 1) cp' (va_up (kev (V i)) (kne (V i)) (nI T))) = nI T := by
    show (if kne (V i) + 1 = 0 then 0 else va_up (kev (V i)) (kne (V i)) (nI T) (kne (V i) + 1 - 1)) = nI T
    rw [if_neg (by omega), Nat.add_sub_cancel, va_up_self]
  have hd : dwn (mkV (kbo (V i)) (kst (V i)) (kle (V i)) 0 (kto (V i)) go (kcc (V i)) (kne (V i) + 1) cp' (va_up (kev (V i)) (kne (V i)) (nI T))) = !dwn (V i) := by
    show decide ((kne (V i) + 1) % 2 = 1) = !decide (kne (V i) % 2 = 1)
    rcases Nat.mod_two_eq_zero_or_one (kne (V i)) with q | q
    · rw [q, show (kne (V i) + 1) % 2 = 1 by omega]; rfl
    · rw [q, show (kne (V i) + 1) % 2 = 0 by omega]; rfl
  refine ⟨?_, ?_, ?_, hY, fun k hk hk2 => ?_, fun k => ?_⟩
  · refine SQ_set hi h1 (fun j hj => ⟨pk_un hj, pk_un hj, pk_un hj, (hG j hj).1, (hG j hj).2, ?_, va_up_ne _ _ hj⟩) ?_ ?_
    · dsimp only
      by_cases h32 : j < 32
      · rw [bt_xor, bt_bit (by omega) h32, decide_eq_false hj, Bool.xor_false]
      · rw [bt_big _ (by omega), bt_big _ (by omega)]
    · dsimp only
      rw [va_up_self, hd, bt_xor, bt_bit (by omega) (by omega), h1.1 i hi, decide_eq_true rfl, Bool.xor_true]
    · obtain ⟨q1, q2, q3, q4, q5, q6, q7, q8⟩ := h1.2.2.1 i hi
      dsimp only
      rw [va_up_self, pk_us, pk_us, pk_us]
      refine ⟨rfl, ?_, hl.symm, ?_, fun hd2 => ?_, q6, h9, fun _ => ⟨T, hT0, Nat.le_refl _, ?_⟩⟩
      · rw [q2]; exact nI_1 _
      · rw [hg, hd]
        cases dwn (V i) <;> rfl
      · rw [hd] at hd2
        have hf : dwn (V i) = false := by
          cases e : dwn (V i) with
          | false => rfl
          | true => rw [e] at hd2; exact absurd hd2 (by decide)
        rw [hl]
        exact hs hf
      · show va_up (kev (V i)) (kne (V i)) (nI T) (kne (V i) + 1 - 1) = nI T
        rw [Nat.add_sub_cancel, va_up_self]
  · dsimp only
    rw [h2, Int32.add_assoc]
  · dsimp only
    rw [sum_one hi (show kne (mkV (kbo (V i)) (kst (V i)) (kle (V i)) 0 (kto (V i)) go (kcc (V i)) (kne (V i) + 1) cp' (va_up (kev (V i)) (kne (V i)) (nI T))) = kne (V i) + 1 from rfl), h3]
    exact nI_1 _
  · dsimp only
    rw [va_up_ne _ _ (by omega)]
    exact h5 k (by omega) hk2
  · dsimp only
    by_cases e : k = i
    · subst e; rw [va_up_self]; exact ⟨(h6 k).1, (h6 k).2.1, (h6 k).2.2.1, (h6 k).2.2.2.1, fun _ => Or.inr hl⟩
    · rw [va_up_ne _ _ e]; exact h6 k
end
/-- a key's part of a scan, both sides -/
theorem key_step {sc R C K : Nat} {pa gu fi di li he lu br : Int32} {fS fN fC : Nat → Int32} {V1 V0 : Nat → KV} {ea0 : Int32} {i : Nat} (hi : i < K) (hK : K ≤ 25) (hT : sc + 1 ≤ 2000) (hcl : (F_X0_closedNow fS fN he lu fi K).1 = (F_X7_closedNow fi he lu K V1).1) (hse : ∀ x, F_X3_seenIf R C fi di li x = F_X7_seenOf R C fi br K x di)
    (a : (Nat → Int32) × (Nat → Int32) × (Nat → Int32) × Int32 × Int32 × (Nat → Int32) × (Nat → Int32) × Int32 × Int32 × Nat × Nat × (Nat → Int32)) (b : Int32 × (Nat → KV) × Int32 × Int32 × Nat × Nat × (Nat → Int32)) (h : RS K (sc + 1) fC ea0 V0 i a b) : RS K (sc + 1) fC ea0 V0 (i + 1) (S_X4_scanOnce_52 sc pa gu R C K fi di li he lu fS fN fC i a) (S_X7_step_38 R C fi di he br pa gu sc lu K V1 i b) := by
  obtain ⟨fCn, fE, fLE, dn, ea, fG, fI, lo, ml, n, cap, fY⟩ := a
  obtain ⟨many, V, mlo, mml, mn, mcap, mfY⟩ := b
  have hh := h
  obtain ⟨h1, -, -, h4, -, -⟩ := hh
  dsimp only at h1 h4
  obtain ⟨q1, q2, q3, q4, q5, q6, q7, q8⟩ := h1.2.2.1 i hi
  have hb : kne (V i) < 2 ^ 31 := by omega
  have hd := h1.1 i hi
  have ho : F_X4_holds dn (nI i) = F_X6_isDown (kne (V i)) := by rw [holds_bt (by omega), down_dwn hb, hd]
  have hg : F_X4_couldBeGhost (F_X7_seenOf R C fi br K ((F_X7_closedNow fi he lu K V1).1) di) R C fi di li i = F_X7_has (F_X7_seenOf R C fi br K (F_X7_with (F_X7_seenOf R C fi br K ((F_X7_closedNow fi he lu K V1).1) di) (nI i) 0) di) (nI i) := by
    unfold F_X4_couldBeGhost F_X7_with
    rw [if_pos rfl, hse]
    rfl
  unfold S_X4_scanOnce_52 S_X7_step_38
  rw [hcl, hse]
  dsimp only
  generalize F_X7_seenOf R C fi br K ((F_X7_closedNow fi he lu K V1).1) di = se at hg ⊢
  have hss : F_X4_holds se (nI i) = F_X7_has se (nI i) := rfl
  by_cases c1 : F_X7_has se (nI i) = F_X6_isDown (kne (V i))
  · rw [due_same (hss.trans (c1.trans ho.symm)), if_pos c1]
    dsimp only
    rw [if_pos (show (0 : Int32) = 0 from rfl)]
    exact RS_no hi h
  · rw [if_neg c1]
    have c1' : ¬ F_X4_holds se (nI i) = F_X4_holds dn (nI i) := fun e => c1 (hss.symm.trans (e.trans ho))
    by_cases c2 : pa ≤ kco (V i) + 1
    · rw [due_now c1' (by rw [q1]; exact Int32.not_lt.mpr c2), if_pos c2]
      dsimp only
      rw [if_neg (show ¬ (1 : Int32) = 0 by decide)]
      have ru : ∀ z : Int32, upd (upd fCn i (fCn i + 1)) i z = upd fCn i z := fun z => funext fun j => by
        by_cases e : j = i
        · subst e; rw [pk_us, pk_us]
        · rw [pk_un e, pk_un e, pk_un e]
      by_cases c3 : F_X6_isDown (kne (V i)) = 0
      · have hup : dwn (V i) = false := by
          rw [down_dwn hb] at c3
          cases e : dwn (V i) with
          | false => rfl
          | true => rw [e, if_pos rfl] at c3; exact absurd c3 (by decide)
        have gq := SQ_G hT h1
        have hV : ∀ j, dwn (va_up V i (mkV (kbo (V i)) (kst (V i)) (kle (V i)) (kco (V i) + 1) (kto (V i)) (kgo (V i)) (kcc (V i)) (kne (V i)) (kcp (V i)) (kev (V i))) j) = dwn (V j) ∧ kgo (va_up V i (mkV (kbo (V i)) (kst (V i)) (kle (V i)) (kco (V i) + 1) (kto (V i)) (kgo (V i)) (kcc (V i)) (kne (V i)) (kcp (V i)) (kev (V i))) j) = kgo (V j) ∧ kne (va_up V i (mkV (kbo (V i)) (kst (V i)) (kle (V i)) (kco (V i) + 1) (kto (V i)) (kgo (V i)) (kcc (V i)) (kne (V i)) (kcp (V i)) (kev (V i))) j) = kne (V j) := fun j => by
          by_cases e : j = i
          · subst e; rw [va_up_self]; exact ⟨rfl, rfl, rfl⟩
          · rw [va_up_ne _ _ e]; exact ⟨rfl, rfl, rfl⟩
        have gq2 : GQ K fG (va_up V i (mkV (kbo (V i)) (kst (V i)) (kle (V i)) (kco (V i) + 1) (kto (V i)) (kgo (V i)) (kcc (V i)) (kne (V i)) (kcp (V i)) (kev (V i)))) := ⟨fun k hk => by rw [(hV k).1, (hV k).2.1]; exact gq.1 k hk, gq.2.1, fun k hk => by rw [(hV k).2.2]; exact gq.2.2 k hk⟩
        obtain ⟨c, hc, m1, p1, p2, p3⟩ := press_eq (k := i) (fC := fC) (fI := fI) (ml := ml) (mml := mml) (cap := cap) (mcap := mcap) (x := nI (sc + 1)) hK hi (by rw [(hV i).1]; exact hup) gq2 (by rw [va_up_self]; exact q6) h4
        rw [show kcc (va_up V i (mkV (kbo (V i)) (kst (V i)) (kle (V i)) (kco (V i) + 1) (kto (V i)) (kgo (V i)) (kcc (V i)) (kne (V i)) (kcp (V i)) (kev (V i))) i) = kcc (V i) by rw [va_up_self]; rfl] at m1
        have press : RS K (sc + 1) fC ea0 V0 (i + 1) _ _ := RS_ev (fG' := upd fG i (nI c)) (fI' := upd fI i (nI (sc + 1))) (go := nI c) (g := 0) (s := 0) (cp' := (F_Jx4a65c_add_9ea2d (kne (V i)) (kcp (V i))).2) (ml' := (F_X1_press lo fC fG fI ml n cap fY i (nI (sc + 1))).2.2.2.1) (cap' := (F_X1_press lo fC fG fI ml n cap fY i (nI (sc + 1))).2.2.2.2.2.1) (mml' := (F_X7_press mlo K mml mn mcap mfY (va_up V i (mkV (kbo (V i)) (kst (V i)) (kle (V i)) (kco (V i) + 1) (kto (V i)) (kgo (V i)) (kcc (V i)) (kne (V i)) (kcp (V i)) (kev (V i)))) i).2.1) (mcap' := (F_X7_press mlo K mml mn mcap mfY (va_up V i (mkV (kbo (V i)) (kst (V i)) (kle (V i)) (kco (V i) + 1) (kto (V i)) (kgo (V i)) (kcc (V i)) (kne (V i)) (kcp (V i)) (kev (V i)))) i).2.2.2.1) hi (Nat.succ_pos _) hT h hK (fun j hj => ⟨pk_un hj, pk_un hj⟩) (by rw [pk_us, hup]; rfl) (fun _ => ⟨pk_us, c, hc, rfl⟩) p3
        have ho0 : F_X4_holds dn (nI i) = 0 := ho.trans c3
        by_cases c4 : gu = 0
        · rw [cow_press ho0 (Or.inl c4), if_pos c4, if_pos c3]
          dsimp only
          rw [ru, p1, p2, m1]
          exact press
        · rw [if_neg c4, if_pos c3]
          by_cases c5 : F_X4_couldBeGhost se R C fi di li i = 0
          · rw [cow_press ho0 (Or.inr c5), if_pos (hg.symm.trans c5)]
            dsimp only
            rw [ru, p1, p2, m1]
            exact press
          · rw [cow_wait ho0 c4 c5, if_neg (fun e => c5 (hg.trans e))]
            dsimp only
            rw [ru]
            exact RS_no hi h
      · have hdw : dwn (V i) = true := by
          rw [down_dwn hb] at c3
          cases e : dwn (V i) with
          | true => rfl
          | false => rw [e, if_neg (by decide)] at c3; exact absurd rfl c3
        have rel := RS_ev (fG' := upd fG i (-1)) (fI' := fI) (go := kgo (V i)) (g := 0) (s := 0) (cp' := (F_Jx4a65c_add_9ea2d (kne (V i)) (kcp (V i))).2) (ml' := ml) (cap' := cap) (mml' := mml) (mcap' := mcap) hi (Nat.succ_pos _) hT h hK (fun j hj => ⟨pk_un hj, rfl⟩) (by rw [pk_us, hdw]; rfl) (fun e => by rw [hdw] at e; exact absurd e (by decide)) h4
        rw [cow_release (fun e => c3 (ho.symm.trans e))]
        dsimp only
        rw [ru]
        by_cases c4 : gu = 0
        · rw [if_pos c4, if_neg c3]
          exact rel
        · rw [if_neg c4, if_neg c3]
          exact rel
    · rw [due_wait c1' (by rw [q1]; exact Int32.not_le.mp c2), if_neg c2]
      dsimp only
      rw [if_pos (show (0 : Int32) = 0 from rfl), q1]
      exact RS_no hi h

theorem itr_in {α : Type} {f : Nat → α → α} (P : Nat → α → Prop) : ∀ (n i : Nat) (a : α), (∀ k a, i ≤ k → k < i + n → P k a → P (k + 1) (f k a)) → P i a → P (i + n) (itr f n i a)
  | 0, _, _, _, h => h
  | n + 1, i, a, hs, h => by
    have q := itr_in P n (i + 1) (f i a) (fun k a h1 h2 h3 => hs k a (by omega) (by omega) h3) (hs i a (Nat.le_refl _) (by omega) h)
    rw [show i + 1 + n = i + (n + 1) by omega] at q
    exact q
theorem cn_s {y : Int32} {k : Nat} : cn y (k + 1) = cn y k + (if bt y k = true then 1 else 0) := rfl
theorem cn_up2 {y : Int32} : ∀ a b, a ≤ b → cn y a ≤ cn y b
  | a, 0, h => by rw [show a = 0 by omega]; exact Nat.le_refl _
  | a, b + 1, h => by
    by_cases e : a = b + 1
    · rw [e]; exact Nat.le_refl _
    · exact Nat.le_trans (cn_up2 a b (by omega)) (by rw [cn_s]; exact Nat.le_add_right _ _)
theorem cn_lt2 {y : Int32} {a b : Nat} (h : a < b) (hb : bt y a = true) : cn y a < cn y b := by
  have q := cn_up2 (y := y) (a + 1) b h
  rw [cn_s, if_pos hb] at q
  omega
/-- one time more for the events that a chord was typed for -/
def NB (fI fQ : Nat → Int32) (s : Int32) (i k : Nat) (a : Int32 × Int32 × (Nat → Int32)) : Prop := a.2.1 = nI (3 * i + cn s k) ∧ ((a.1 = 0 ∧ ∀ j, j < k → bt s j = true → fQ (3 * i + cn s j) = fI j) ∨ (a.1 = 1 ∧ ∃ j, j < k ∧ bt s j = true ∧ ¬ fQ (3 * i + cn s j) = fI j)) ∧ (∀ j, j < k → bt s j = true → a.2.2 (3 * i + cn s j) = fI j) ∧ ∀ p, (p < 3 * i ∨ 3 * i + cn s k ≤ p) → a.2.2 p = fQ p
theorem NB_step {fI fK fQ : Nat → Int32} {i k : Nat} (hi : i < 6) (hk : k < 25) (h3 : cn (fK i) 25 ≤ 3) (a : Int32 × Int32 × (Nat → Int32)) (h : NB fI fQ (fK i) i k a) : NB fI fQ (fK i) i (k + 1) (S_X1_isByNewEvents_9 fI fK i k a) := by
  obtain ⟨nw, pl, q⟩ := a
  obtain ⟨h1, h2, h4, h5⟩ := h
  dsimp only at h1 h2 h4 h5
  subst h1
  unfold S_X1_isByNewEvents_9
  dsimp only
  by_cases hb : bt (fK i) k = true
  · have hlt := cn_lt2 (b := 25) hk hb
    have hc : cn (fK i) (k + 1) = cn (fK i) k + 1 := by rw [cn_s, if_pos hb]
    have h6 : ¬ F_X4_holds (fK i) (nI k) = 0 := fun e => by rw [(holds_iff (by omega)).mp e] at hb; exact absurd hb (by decide)
    have h7 : ¬ nI 18 ≤ nI (3 * i + cn (fK i) k) := nI_ge (by omega) (by decide)
    have h8 : q (3 * i + cn (fK i) k) = fQ (3 * i + cn (fK i) k) := h5 _ (Or.inr (Nat.le_refl _))
    rw [if_neg h6, if_neg h7, nI_clamp (by omega), show nI (3 * i + cn (fK i) k) + 1 = nI (3 * i + cn (fK i) k + 1) from nI_1 _]
    have hp : nI (3 * i + cn (fK i) k + 1) = nI (3 * i + cn (fK i) (k + 1)) := by rw [hc]; rfl
    have hq : ∀ j, j < k + 1 → bt (fK i) j = true → upd q (3 * i + cn (fK i) k) (fI k) (3 * i + cn (fK i) j) = fI j := fun j hj hbj => by
      by_cases e : j = k
      · subst e; exact pk_us
      · have := cn_lt2 (y := fK i) (a := j) (b := k) (by omega) hbj
        rw [pk_un (by omega)]
        exact h4 j (by omega) hbj
    have hr : ∀ p, (p < 3 * i ∨ 3 * i + cn (fK i) (k + 1) ≤ p) → upd q (3 * i + cn (fK i) k) (fI k) p = fQ p := fun p hp => by
      rw [pk_un (by omega)]
      exact h5 p (by omega)
    rcases h2 with ⟨e, h2⟩ | ⟨e, j, j1, j2, j3⟩
    · rw [if_pos e]
      by_cases h9 : q (3 * i + cn (fK i) k) = fI k
      · rw [if_pos h9]
        refine ⟨hp, Or.inl ⟨rfl, fun j hj hbj => ?_⟩, hq, hr⟩
        by_cases e2 : j = k
        · subst e2; exact h8.symm.trans h9
        · exact h2 j (by omega) hbj
      · rw [if_neg h9]
        exact ⟨hp, Or.inr ⟨rfl, k, Nat.lt_succ_self _, hb, fun q9 => h9 (h8.trans q9)⟩, hq, hr⟩
    · rw [if_neg (show ¬ nw = 0 by rw [e]; decide)]
      exact ⟨hp, Or.inr ⟨rfl, j, by omega, j2, j3⟩, hq, hr⟩
  · have hb0 : bt (fK i) k = false := by
      cases e : bt (fK i) k with
      | false => rfl
      | true => exact absurd e hb
    have hc : cn (fK i) (k + 1) = cn (fK i) k := by rw [cn_s, if_neg hb]; rfl
    rw [if_pos ((holds_iff (by omega)).mpr hb0)]
    have hj : ∀ j, j < k + 1 → bt (fK i) j = true → j < k := fun j h9 hbj => by
      by_cases e : j = k
      · rw [e] at hbj; exact absurd hbj hb
      · omega
    refine ⟨by dsimp only; rw [hc], ?_, fun j h9 hbj => h4 j (hj j h9 hbj) hbj, fun p hp => h5 p (by rw [hc] at hp; exact hp)⟩
    rcases h2 with ⟨e, h2⟩ | ⟨e, j, j1, j2, j3⟩
    · exact Or.inl ⟨e, fun j h9 hbj => h2 j (hj j h9 hbj) hbj⟩
    · exact Or.inr ⟨e, j, by omega, j2, j3⟩
theorem new_eq {fI fK fQ : Nat → Int32} {i : Nat} (hi : i < 6) (h3 : cn (fK i) 25 ≤ 3) : (((F_X1_isByNewEvents fI fK fQ i).1 = 0 ∧ ∀ j, j < 25 → bt (fK i) j = true → fQ (3 * i + cn (fK i) j) = fI j) ∨ ((F_X1_isByNewEvents fI fK fQ i).1 = 1 ∧ ∃ j, j < 25 ∧ bt (fK i) j = true ∧ ¬ fQ (3 * i + cn (fK i) j) = fI j)) ∧ (∀ j, j < 25 → bt (fK i) j = true → (F_X1_isByNewEvents fI fK fQ i).2 (3 * i + cn (fK i) j) = fI j) ∧ ∀ p, (p < 3 * i ∨ 3 * i + 3 ≤ p) → (F_X1_isByNewEvents fI fK fQ i).2 p = fQ p := by
  have e0 : nI i * 3 = nI (3 * i + cn (fK i) 0) := by
    rw [show (3 : Int32) = nI 3 from rfl, pk_mul, Nat.mul_comm]
    rfl
  have q := itr_in (f := fun k a => S_X1_isByNewEvents_9 fI fK i k a) (NB fI fQ (fK i) i) 25 0 (0, nI i * 3, fQ) (fun k a _ h2 h => NB_step hi (by omega) h3 a h) ⟨e0, Or.inl ⟨rfl, fun j h => absurd h (Nat.not_lt_zero _)⟩, fun j h => absurd h (Nat.not_lt_zero _), fun p _ => rfl⟩
  rw [Nat.zero_add] at q
  exact ⟨q.2.1, q.2.2.1, fun p hp => q.2.2.2 p (by omega)⟩
theorem down1 {fG fI fK : Nat → Int32} {x : Int32} {c : Nat} : ∀ n i, i + n ≤ 32 → (L_X1_isDown_2 fG fI fK c x n i () = 1 ∧ ∀ k, i ≤ k → k < i + n → bt (fK c) k = true → ¬ fG k = -1 ∧ ¬ 8 ≤ x - fI k) ∨ (L_X1_isDown_2 fG fI fK c x n i () = 0 ∧ ∃ k, i ≤ k ∧ k < i + n ∧ bt (fK c) k = true ∧ (fG k = -1 ∨ 8 ≤ x - fI k))
  | 0, i, _ => Or.inl ⟨rfl, fun k h1 h2 => by omega⟩
  | n + 1, i, hn => by
    have ih := down1 (fG := fG) (fI := fI) (fK := fK) (x := x) (c := c) n (i + 1) (by omega)
    have go : (bt (fK c) i = true → ¬ fG i = -1 ∧ ¬ 8 ≤ x - fI i) → (L_X1_isDown_2 fG fI fK c x n (i + 1) () = 1 ∧ ∀ k, i ≤ k → k < i + (n + 1) → bt (fK c) k = true → ¬ fG k = -1 ∧ ¬ 8 ≤ x - fI k) ∨ (L_X1_isDown_2 fG fI fK c x n (i + 1) () = 0 ∧ ∃ k, i ≤ k ∧ k < i + (n + 1) ∧ bt (fK c) k = true ∧ (fG k = -1 ∨ 8 ≤ x - fI k)) := fun hok => by
      rcases ih with ⟨h1, h2⟩ | ⟨h1, k, h2, h3, h4⟩
      · refine Or.inl ⟨h1, fun k q1 q2 q3 => ?_⟩
        by_cases e : k = i
        · subst e; exact hok q3
        · exact h2 k (by omega) (by omega) q3
      · exact Or.inr ⟨h1, k, by omega, by omega, h4⟩
    show ((if (fG i) = (-1) then (if (F_X4_holds (fK c) (nI i)) = 0 then L_X1_isDown_2 fG fI fK c x n (i + 1) () else 0) else (if 8 ≤ (x - (fI i)) then (if (F_X4_holds (fK c) (nI i)) = 0 then L_X1_isDown_2 fG fI fK c x n (i + 1) () else 0) else (if (F_X4_holds (fK c) (nI i)) = 0 then L_X1_isDown_2 fG fI fK c x n (i + 1) () else L_X1_isDown_2 fG fI fK c x n (i + 1) ()))) = 1 ∧ _) ∨ ((if (fG i) = (-1) then (if (F_X4_holds (fK c) (nI i)) = 0 then L_X1_isDown_2 fG fI fK c x n (i + 1) () else 0) else (if 8 ≤ (x - (fI i)) then (if (F_X4_holds (fK c) (nI i)) = 0 then L_X1_isDown_2 fG fI fK c x n (i + 1) () else 0) else (if (F_X4_holds (fK c) (nI i)) = 0 then L_X1_isDown_2 fG fI fK c x n (i + 1) () else L_X1_isDown_2 fG fI fK c x n (i + 1) ()))) = 0 ∧ _)
    by_cases hb : F_X4_holds (fK c) (nI i) = 0
    · rw [if_pos hb, if_pos hb, ite_self, ite_self]
      exact go (fun q => by rw [(holds_iff (by omega)).mp hb] at q; exact absurd q (by decide))
    · have hbt : bt (fK c) i = true := by
        cases e : bt (fK c) i with
        | true => rfl
        | false => exact absurd ((holds_iff (by omega)).mpr e) hb
      rw [if_neg hb, if_neg hb]
      by_cases h1 : fG i = -1
      · rw [if_pos h1]
        exact Or.inr ⟨rfl, i, Nat.le_refl _, by omega, hbt, Or.inl h1⟩
      · rw [if_neg h1]
        by_cases h2 : 8 ≤ x - fI i
        · rw [if_pos h2]
          exact Or.inr ⟨rfl, i, Nat.le_refl _, by omega, hbt, Or.inr h2⟩
        · rw [if_neg h2]
          exact go (fun _ => ⟨h1, h2⟩)
section
variable {sc K : Nat} {lo : Int32} {cf : Nat → Int32} {n cap : Nat} {fY : Nat → Int32} {V : Nat → KV} {t : Nat → Nat}
theorem play7 (hb : ∀ k, k < K → kne (V k) < 2 ^ 31) (hK : K ≤ 25) (ht : ∀ k, k < K → dwn (V k) = true → F_X6_last (kne (V k)) (kev (V k)) = nI (t k) ∧ t k ≤ 2000) : ∀ m i f l, f ≤ 2000 → l ≤ 2000 → i + m ≤ K →
    (∃ k, i ≤ k ∧ k < i + m ∧ bt (cf 0) k = true ∧ dwn (V k) = false ∧ L_X7_play_9 sc lo cf n cap fY V m i (nI f, nI l) = (cf, lo, n, cap, fY)) ∨ ((∀ k, i ≤ k → k < i + m → bt (cf 0) k = true → dwn (V k) = true) ∧ ∃ f' l', L_X7_play_9 sc lo cf n cap fY V m i (nI f, nI l) = L_X7_play_9 sc lo cf n cap fY V 0 0 (nI f', nI l') ∧ f' ≤ f ∧ l ≤ l' ∧ l' ≤ 2000 ∧ (∀ k, i ≤ k → k < i + m → bt (cf 0) k = true → f' ≤ t k ∧ t k ≤ l') ∧ (f' = f ∨ ∃ k, i ≤ k ∧ k < i + m ∧ bt (cf 0) k = true ∧ f' = t k) ∧ (l' = l ∨ ∃ k, i ≤ k ∧ k < i + m ∧ bt (cf 0) k = true ∧ l' = t k))
  | 0, i, f, l, hf, hl, _ => Or.inr ⟨fun k h1 h2 => by omega, f, l, rfl, Nat.le_refl _, Nat.le_refl _, hl, fun k h1 h2 => by omega, Or.inl rfl, Or.inl rfl⟩
  | m + 1, i, f, l, hf, hl, hm => by
    show (∃ k, i ≤ k ∧ k < i + (m + 1) ∧ bt (cf 0) k = true ∧ dwn (V k) = false ∧ (if (F_X7_has (cf 0) (nI i)) = 0 then L_X7_play_9 sc lo cf n cap fY V m (i + 1) (nI f, nI l) else (if (F_X6_isDown (kne (V i))) = 0 then (cf, lo, n, cap, fY) else L_X7_play_9 sc lo cf n cap fY V m (i + 1) ((if (F_X6_last (kne (V i)) (kev (V i))) < nI f then (F_X6_last (kne (V i)) (kev (V i))) else nI f), (if nI l < (F_X6_last (kne (V i)) (kev (V i))) then (F_X6_last (kne (V i)) (kev (V i))) else nI l)))) = (cf, lo, n, cap, fY)) ∨ ((∀ k, i ≤ k → k < i + (m + 1) → bt (cf 0) k = true → dwn (V k) = true) ∧ ∃ f' l', (if (F_X7_has (cf 0) (nI i)) = 0 then L_X7_play_9 sc lo cf n cap fY V m (i + 1) (nI f, nI l) else (if (F_X6_isDown (kne (V i))) = 0 then (cf, lo, n, cap, fY) else L_X7_play_9 sc lo cf n cap fY V m (i + 1) ((if (F_X6_last (kne (V i)) (kev (V i))) < nI f then (F_X6_last (kne (V i)) (kev (V i))) else nI f), (if nI l < (F_X6_last (kne (V i)) (kev (V i))) then (F_X6_last (kne (V i)) (kev (V i))) else nI l)))) = L_X7_play_9 sc lo cf n cap fY V 0 0 (nI f', nI l') ∧ _)
    by_cases h1 : F_X7_has (cf 0) (nI i) = 0
    · have hb0 := (has_iff (x := cf 0) (k := i) (by omega)).mp h1
      have hk : ∀ k, i ≤ k → bt (cf 0) k = true → i + 1 ≤ k := fun k q1 q2 => by
        by_cases e : k = i
        · rw [e, hb0] at q2; exact absurd q2 (by decide)
        · omega
      rw [if_pos h1]
      rcases play7 hb hK ht m (i + 1) f l hf hl (by omega) with ⟨k, a1, a2, a3, a4, a5⟩ | ⟨a1, f', l', a2, a3, a4, a5, a6, a7, a8⟩
      · exact Or.inl ⟨k, by omega, by omega, a3, a4, a5⟩
      · refine Or.inr ⟨fun k q1 q2 q3 => a1 k (hk k q1 q3) (by omega) q3, f', l', a2, a3, a4, a5, fun k q1 q2 q3 => a6 k (hk k q1 q3) (by omega) q3, ?_, ?_⟩
        · rcases a7 with e | ⟨k, q1, q2, q3⟩
          · exact Or.inl e
          · exact Or.inr ⟨k, by omega, by omega, q3⟩
        · rcases a8 with e | ⟨k, q1, q2, q3⟩
          · exact Or.inl e
          · exact Or.inr ⟨k, by omega, by omega, q3⟩
    · have hbt : bt (cf 0) i = true := by
        cases e : bt (cf 0) i with
        | true => rfl
        | false => exact absurd ((has_iff (by omega)).mpr e) h1
      rw [if_neg h1, down_dwn (hb i (by omega))]
      by_cases hd : dwn (V i) = true
      · obtain ⟨t1, t2⟩ := ht i (by omega) hd
        rw [if_pos hd, if_neg (show ¬ (1 : Int32) = 0 by decide), t1]
        have ef : (if nI (t i) < nI f then nI (t i) else nI f) = nI (if t i < f then t i else f) := by
          by_cases e : t i < f
          · rw [if_pos e, if_pos (nI_lt e (by omega))]
          · rw [if_neg e, if_neg (nI_nlt (by omega) (by omega))]
        have el : (if nI l < nI (t i) then nI (t i) else nI l) = nI (if l < t i then t i else l) := by
          by_cases e : l < t i
          · rw [if_pos e, if_pos (nI_lt e (by omega))]
          · rw [if_neg e, if_neg (nI_nlt (by omega) (by omega))]
        rw [ef, el]
        have b1 : (if t i < f then t i else f) ≤ f ∧ (if t i < f then t i else f) ≤ t i ∧ ((if t i < f then t i else f) = f ∨ (if t i < f then t i else f) = t i) := by
          by_cases e : t i < f
          · rw [if_pos e]; exact ⟨by omega, Nat.le_refl _, Or.inr rfl⟩
          · rw [if_neg e]; exact ⟨Nat.le_refl _, by omega, Or.inl rfl⟩
        have b2 : l ≤ (if l < t i then t i else l) ∧ t i ≤ (if l < t i then t i else l) ∧ ((if l < t i then t i else l) = l ∨ (if l < t i then t i else l) = t i) := by
          by_cases e : l < t i
          · rw [if_pos e]; exact ⟨by omega, Nat.le_refl _, Or.inr rfl⟩
          · rw [if_neg e]; exact ⟨Nat.le_refl _, by omega, Or.inl rfl⟩
        generalize (if t i < f then t i else f) = f1 at b1 ⊢
        generalize (if l < t i then t i else l) = l1 at b2 ⊢
        rcases play7 hb hK ht m (i + 1) f1 l1 (by omega) (by rcases b2.2.2 with e | e <;> omega) (by omega) with ⟨k, a1, a2, a3, a4, a5⟩ | ⟨a1, f', l', a2, a3, a4, a5, a6, a7, a8⟩
        · exact Or.inl ⟨k, by omega, by omega, a3, a4, a5⟩
        · refine Or.inr ⟨fun k q1 q2 q3 => ?_, f', l', a2, by omega, by omega, a5, fun k q1 q2 q3 => ?_, ?_, ?_⟩
          · by_cases e : k = i
            · rw [e]; exact hd
            · exact a1 k (by omega) (by omega) q3
          · by_cases e : k = i
            · subst e; exact ⟨by omega, by omega⟩
            · exact a6 k (by omega) (by omega) q3
          · rcases a7 with e | ⟨k, q1, q2, q3⟩
            · rcases b1.2.2 with e2 | e2
              · exact Or.inl (e.trans e2)
              · exact Or.inr ⟨i, Nat.le_refl _, by omega, hbt, e.trans e2⟩
            · exact Or.inr ⟨k, by omega, by omega, q3⟩
          · rcases a8 with e | ⟨k, q1, q2, q3⟩
            · rcases b2.2.2 with e2 | e2
              · exact Or.inl (e.trans e2)
              · exact Or.inr ⟨i, Nat.le_refl _, by omega, hbt, e.trans e2⟩
            · exact Or.inr ⟨k, by omega, by omega, q3⟩
      · have hd0 : dwn (V i) = false := by
          cases e : dwn (V i) with
          | false => rfl
          | true => exact absurd e hd
        rw [if_neg hd, if_pos (show (0 : Int32) = 0 from rfl)]
        exact Or.inl ⟨i, Nat.le_refl _, by omega, hbt, hd0, rfl⟩
end
theorem play_end {sc : Nat} {lo : Int32} {cf : Nat → Int32} {n cap : Nat} {fY : Nat → Int32} {V : Nat → KV} {f l tc : Nat} (hs : sc ≤ 2000) (hf : f ≤ 2000) (hl : l ≤ 2000) (hc : cf 3 = nI tc) (htc : tc ≤ 2000) : L_X7_play_9 sc lo cf n cap fY V 0 0 (nI f, nI l) = if f + 7 < sc ∨ l ≤ tc then (cf, lo, n, cap, fY) else (upd (upd cf 2 ((cf 2) + 1)) 3 (nI sc), (F_X7_type lo n cap fY (((97 + (cf 1)).toUInt32 % 65536).toInt32)).1, ((F_X7_type lo n cap fY (((97 + (cf 1)).toUInt32 % 65536).toInt32)).2.1), ((F_X7_type lo n cap fY (((97 + (cf 1)).toUInt32 % 65536).toInt32)).2.2.1), (F_X7_type lo n cap fY (((97 + (cf 1)).toUInt32 % 65536).toInt32)).2.2.2) := by
  show (if 7 < ((nI sc) - nI f) then (cf, lo, n, cap, fY) else (if (cf 3) < nI l then (upd (upd cf 2 ((cf 2) + 1)) 3 (nI sc), (F_X7_type lo n cap fY (((97 + ((upd (upd cf 2 ((cf 2) + 1)) 3 (nI sc)) 1)).toUInt32 % 65536).toInt32)).1, ((F_X7_type lo n cap fY (((97 + ((upd (upd cf 2 ((cf 2) + 1)) 3 (nI sc)) 1)).toUInt32 % 65536).toInt32)).2.1), ((F_X7_type lo n cap fY (((97 + ((upd (upd cf 2 ((cf 2) + 1)) 3 (nI sc)) 1)).toUInt32 % 65536).toInt32)).2.2.1), (F_X7_type lo n cap fY (((97 + ((upd (upd cf 2 ((cf 2) + 1)) 3 (nI sc)) 1)).toUInt32 % 65536).toInt32)).2.2.2) else (cf, lo, n, cap, fY))) = _
  rw [show upd (upd cf 2 ((cf 2) + 1)) 3 (nI sc) 1 = cf 1 from by rw [pk_un (by decide), pk_un (by decide)], hc]
  have h7 : 7 < (nI sc) - nI f ↔ f + 7 < sc := by
    rw [Int32.lt_iff_toInt_lt, pk_sub_toInt (by omega) (by omega), show (7 : Int32).toInt = 7 from by decide]
    omega
  by_cases h1 : f + 7 < sc
  · rw [if_pos (h7.mpr h1), if_pos (Or.inl h1)]
  · rw [if_neg (fun e => h1 (h7.mp e))]
    by_cases h2 : tc < l
    · rw [if_pos (nI_lt h2 (by omega)), if_neg (by omega)]
    · rw [if_neg (nI_nlt (by omega) (by omega)), if_pos (by omega)]

/-- how often chords were typed -/
def hsum (hf : Nat → Nat → Int32) : Nat → Int32
  | 0 => 0
  | n + 1 => hsum hf n + hf n 2
theorem hsum_ne {hf : Nat → Nat → Int32} {i : Nat} {f : Nat → Int32} : ∀ n, n ≤ i → hsum (va_up hf i f) n = hsum hf n
  | 0, _ => rfl
  | n + 1, h => by
    show hsum (va_up hf i f) n + va_up hf i f n 2 = hsum hf n + hf n 2
    rw [hsum_ne n (by omega), va_up_ne _ _ (by omega)]
theorem hsum_up {hf : Nat → Nat → Int32} {i : Nat} {f : Nat → Int32} (h : f 2 = hf i 2 + 1) : ∀ n, i < n → hsum (va_up hf i f) n = hsum hf n + 1
  | n + 1, hn => by
    show hsum (va_up hf i f) n + va_up hf i f n 2 = hsum hf n + hf n 2 + 1
    by_cases e : n = i
    · subst e
      rw [hsum_ne n (Nat.le_refl _), va_up_self, h, Int32.add_assoc]
    · rw [hsum_up h n (by omega), va_up_ne _ _ e]
      ac_rfl
/-- a chord, both sides -/
def HQ (K T : Nat) (fK fL fQ : Nat → Int32) (hf : Nat → Nat → Int32) (V : Nat → KV) (i : Nat) : Prop := fK i = hf i 0 ∧ fL i = hf i 1 ∧ (∀ j, bt (fK i) j = true → j < K) ∧ cn (fK i) 25 ≤ 3 ∧ ∃ tc, tc ≤ T ∧ hf i 3 = nI tc ∧ ∀ k, bt (fK i) k = true → (∃ u, u ≤ tc ∧ fQ (3 * i + cn (fK i) k) = nI u) ∧ (dwn (V k) = true → fQ (3 * i + cn (fK i) k) = lst (V k) ∨ ∃ t, tc < t ∧ t ≤ 2000 ∧ lst (V k) = nI t)
theorem HQ_mono {K T T' : Nat} {fK fL fQ : Nat → Int32} {hf : Nat → Nat → Int32} {V : Nat → KV} {i : Nat} (hT : T ≤ T') (h : HQ K T fK fL fQ hf V i) : HQ K T' fK fL fQ hf V i := by
  obtain ⟨h1, h2, h3, h4, tc, h5, h6⟩ := h
  exact ⟨h1, h2, h3, h4, tc, by omega, h6⟩
theorem HQ_fr {K T i j : Nat} {fK fL fQ fQ' : Nat → Int32} {hf hf' : Nat → Nat → Int32} {V : Nat → KV} (hK : K ≤ 25) (hij : j ≠ i) (hq : ∀ p, (p < 3 * i ∨ 3 * i + 3 ≤ p) → fQ' p = fQ p) (hh : hf' j = hf j) (h : HQ K T fK fL fQ hf V j) : HQ K T fK fL fQ' hf' V j := by
  obtain ⟨h1, h2, h3, h4, tc, h5, h6, h7⟩ := h
  refine ⟨by rw [hh]; exact h1, by rw [hh]; exact h2, h3, h4, tc, h5, by rw [hh]; exact h6, fun k hk => ?_⟩
  have q1 := h3 k hk
  have q2 := cn_lt2 (b := 25) (by omega) hk
  rw [hq _ (by omega)]
  exact h7 k hk
theorem dn_last {T k : Nat} {fC : Nat → Int32} {c e le g s : Int32} {v : KV} (hT : T ≤ 2000) (h : KQ T fC k c e le g s v) (hd : dwn v = true) : F_X6_last (kne v) (kev v) = lst v ∧ s = lst v ∧ (∃ c : Nat, c ≤ 31 ∧ g = nI c) ∧ ∃ t, 1 ≤ t ∧ t ≤ T ∧ lst v = nI t := by
  obtain ⟨-, -, -, q4, q5, -, q7, q8⟩ := h
  have h0 : kne v ≠ 0 := fun e => by
    unfold dwn at hd
    rw [e] at hd
    exact absurd hd (by decide)
  have hl : lst v = kev v (kne v - 1) := by unfold lst; rw [if_neg h0]
  have he : F_X6_last (kne v) (kev v) = lst v := by
    unfold F_X6_last F_Jx4a65c_isEmpty_aae02 F_J6_intValue_8abf5
    rw [if_neg (show ¬ nI (kne v) = 0 from nI_ne0 (by omega) (by omega)), if_pos rfl, hl]
  obtain ⟨c, c1, c2⟩ := (q5 hd).2
  obtain ⟨t, t1, t2, t3⟩ := q8 h0
  rw [if_pos hd] at q4
  exact ⟨he, (q5 hd).1, ⟨c, c1, q4.trans c2⟩, t, t1, t2, hl.trans t3⟩
/-- a chord's turn in the reference -/
def pstep (K T : Nat) (V : Nat → KV) (i : Nat) (a : Int32 × (Nat → Nat → Int32) × Int32 × Nat × Nat × (Nat → Int32)) : Int32 × (Nat → Nat → Int32) × Int32 × Nat × Nat × (Nat → Int32) := (nI i, va_up a.2.1 i ((F_X7_play T a.2.2.1 K (a.2.1 i) a.2.2.2.1 a.2.2.2.2.1 a.2.2.2.2.2 V).1), (F_X7_play T a.2.2.1 K (a.2.1 i) a.2.2.2.1 a.2.2.2.2.1 a.2.2.2.2.2 V).2.1, ((F_X7_play T a.2.2.1 K (a.2.1 i) a.2.2.2.1 a.2.2.2.2.1 a.2.2.2.2.2 V).2.2.1), ((F_X7_play T a.2.2.1 K (a.2.1 i) a.2.2.2.1 a.2.2.2.2.1 a.2.2.2.2.2 V).2.2.2.1), (F_X7_play T a.2.2.1 K (a.2.1 i) a.2.2.2.1 a.2.2.2.2.1 a.2.2.2.2.2 V).2.2.2.2)
def CR (K T nh : Nat) (fK fL : Nat → Int32) (V : Nat → KV) (i : Nat) (a : (Nat → Int32) × Int32 × Int32 × Nat × Nat × (Nat → Int32)) (b : Int32 × (Nat → Nat → Int32) × Int32 × Nat × Nat × (Nat → Int32)) : Prop := (∀ j, j < nh → HQ K (if j < i then T + 1 else T) fK fL a.1 b.2.1 V j) ∧ a.2.1 = hsum b.2.1 nh ∧ YQ a.2.2.1 a.2.2.2.1 a.2.2.2.2.2 b.2.2.1 b.2.2.2.1 b.2.2.2.2.2
theorem chord_step {K T nh i : Nat} {fC fCn fE fLE fG fI fK fL : Nat → Int32} {dn : Int32} {V : Nat → KV} (hK : K ≤ 25) (hT : T + 1 ≤ 2000) (hi : i < nh) (hn : nh ≤ 6) (hS : SQ K (T + 1) fC fCn fE fLE dn fG fI V) (a : (Nat → Int32) × Int32 × Int32 × Nat × Nat × (Nat → Int32)) (b : Int32 × (Nat → Nat → Int32) × Int32 × Nat × Nat × (Nat → Int32)) (h : CR K T nh fK fL V i a b) : CR K T nh fK fL V (i + 1) (S_X1_typeChords_2 fG fI fK fL (nI (T + 1)) i a) (pstep K (T + 1) V i b) := by
  obtain ⟨fQ, ct, lo, n, cap, fY⟩ := a
  obtain ⟨ix, hf, mlo, mn, mcap, mfY⟩ := b
  obtain ⟨h1, h2, h3⟩ := h
  dsimp only at h1 h2 h3
  have hi1 := h1 i hi
  rw [if_neg (Nat.lt_irrefl i)] at hi1
  have hmono : ∀ j, j < nh → HQ K (if j < i + 1 then T + 1 else T) fK fL fQ hf V j := fun j hj => by
    by_cases e : j < i
    · have q := h1 j hj
      rw [if_pos e] at q
      rw [if_pos (by omega)]; exact q
    · by_cases e2 : j = i
      · subst e2
        rw [if_pos (by omega)]; exact HQ_mono (Nat.le_succ _) hi1
      · have q := h1 j hj
        rw [if_neg e] at q
        rw [if_neg (by omega)]; exact q
  obtain ⟨k1, k2, k3, k4, tc, t1, t2, t3⟩ := hi1
  have hb : ∀ k, k < K → kne (V k) < 2 ^ 31 := fun k hk => by have := (hS.2.2.1 k hk).2.2.2.2.2.2.1; omega
  have hlk : ∀ k, k < K → dwn (V k) = true → F_X6_last (kne (V k)) (kev (V k)) = nI (lst (V k)).toNatClampNeg ∧ (lst (V k)).toNatClampNeg ≤ T + 1 ∧ lst (V k) = nI (lst (V k)).toNatClampNeg ∧ fI k = lst (V k) ∧ ¬ fG k = -1 := fun k hk hd => by
    obtain ⟨q1, q2, ⟨c, c1, c2⟩, t, u1, u2, u3⟩ := dn_last hT (hS.2.2.1 k hk) hd
    have e : (lst (V k)).toNatClampNeg = t := by rw [u3, nI_clamp (by omega)]
    rw [e]
    refine ⟨q1.trans u3, u2, u3, q2, fun q => ?_⟩
    rw [c2] at q
    have q3 := congrArg Int32.toInt q
    rw [nI_toInt (by omega), show (-1 : Int32).toInt = -1 from by decide] at q3
    omega
  have same : CR K T nh fK fL V (i + 1) (fQ, ct, lo, n, cap, fY) (nI i, va_up hf i (hf i), mlo, mn, mcap, mfY) := by
    rw [va_up_id]
    exact ⟨hmono, h2, h3⟩
  have hpl : F_X7_play (T + 1) mlo K (hf i) mn mcap mfY V = L_X7_play_9 (T + 1) mlo (hf i) mn mcap mfY V K 0 (nI 2000, nI 0) := rfl
  have nodown : ∀ k, k < K → bt (fK i) k = true → (fG k = -1 ∨ 8 ≤ nI (T + 1) - fI k) → F_X1_isDown fG fI fK i (nI (T + 1)) = 0 := fun k hk hbk hor => by
    unfold F_X1_isDown
    rcases down1 (fG := fG) (fI := fI) (fK := fK) (x := nI (T + 1)) (c := i) 25 0 (by omega) with ⟨-, g2⟩ | ⟨g1, -⟩
    · obtain ⟨g3, g4⟩ := g2 k (Nat.zero_le _) (by omega) hbk
      rcases hor with e | e
      · exact absurd e g3
      · exact absurd e g4
    · exact g1
  have h8 : ∀ k, k < K → dwn (V k) = true → (8 ≤ nI (T + 1) - fI k ↔ (lst (V k)).toNatClampNeg + 7 < T + 1) := fun k hk hd => by
    obtain ⟨-, u2, u3, q2, -⟩ := hlk k hk hd
    rw [q2, u3, nI_clamp (by omega), Int32.le_iff_toInt_le, pk_sub_toInt (by omega) (by omega), show (8 : Int32).toInt = 8 from by decide]
    omega
  unfold S_X1_typeChords_2 pstep
  dsimp only
  rw [hpl]
  rcases play7 (sc := T + 1) (lo := mlo) (cf := hf i) (n := mn) (cap := mcap) (fY := mfY) (V := V) (t := fun k => (lst (V k)).toNatClampNeg) hb hK (fun k hk hd => ⟨(hlk k hk hd).1, by have := (hlk k hk hd).2.1; omega⟩) K 0 2000 0 (Nat.le_refl _) (Nat.zero_le _) (by omega) with ⟨k, -, a2, a3, a4, a5⟩ | ⟨a1, f', l', a2, a3, a4, a5, a6, a7, a8⟩
  · rw [← k1] at a3
    have hg : fG k = -1 := by
      have q := (hS.2.2.1 k (by omega)).2.2.2.1
      rw [a4, if_neg (by decide)] at q
      exact q
    rw [nodown k (by omega) a3 (Or.inl hg), if_pos rfl, a5]
    exact same
  · rw [← k1] at a1 a6 a7 a8
    rw [a2, play_end hT (by omega) a5 t2 (by omega)]
    by_cases c1 : f' + 7 < T + 1
    · rw [if_pos (Or.inl c1)]
      rcases a7 with e | ⟨k, -, q2, q3, q4⟩
      · omega
      · have hd := a1 k (Nat.zero_le _) q2 q3
        rw [nodown k (by omega) q3 (Or.inr ((h8 k (by omega) hd).mpr (by omega))), if_pos rfl]
        exact same
    · have hdn : ¬ F_X1_isDown fG fI fK i (nI (T + 1)) = 0 := by
        unfold F_X1_isDown
        rcases down1 (fG := fG) (fI := fI) (fK := fK) (x := nI (T + 1)) (c := i) 25 0 (by omega) with ⟨g1, -⟩ | ⟨-, k, -, -, g3, g4⟩
        · rw [g1]; decide
        · have hk := k3 k g3
          have hd := a1 k (Nat.zero_le _) (by omega) g3
          rcases g4 with e | e
          · exact absurd e (hlk k hk hd).2.2.2.2
          · have q := (h8 k hk hd).mp e
            have q2 := (a6 k (Nat.zero_le _) (by omega) g3).1
            omega
      rw [if_neg hdn]
      obtain ⟨n1, n2, n3⟩ := new_eq (fI := fI) (fK := fK) (fQ := fQ) (i := i) (by omega) k4
      have hfr : ∀ (hf' : Nat → Nat → Int32), (∀ j, j ≠ i → hf' j = hf j) → HQ K (T + 1) fK fL (F_X1_isByNewEvents fI fK fQ i).2 hf' V i → ∀ j, j < nh → HQ K (if j < i + 1 then T + 1 else T) fK fL (F_X1_isByNewEvents fI fK fQ i).2 hf' V j := fun hf' g1 g2 j hj => by
        by_cases e : j = i
        · subst e
          rw [if_pos (by omega)]; exact g2
        · exact HQ_fr hK e n3 (g1 j e) (hmono j hj)
      by_cases c2 : l' ≤ tc
      · have hall : ∀ j, j < 25 → bt (fK i) j = true → fQ (3 * i + cn (fK i) j) = fI j := fun j hj hbj => by
          have hk := k3 j hbj
          have hd := a1 j (Nat.zero_le _) (by omega) hbj
          have q2 := (a6 j (Nat.zero_le _) (by omega) hbj).2
          rw [(hlk j hk hd).2.2.2.1]
          rcases (t3 j hbj).2 hd with e | ⟨t, u1, u2, u3⟩
          · exact e
          · rw [u3, nI_clamp (by omega)] at q2
            omega
        have hn0 : (F_X1_isByNewEvents fI fK fQ i).1 = 0 := by
          rcases n1 with ⟨e, -⟩ | ⟨-, j, j1, j2, j3⟩
          · exact e
          · exact absurd (hall j j1 j2) j3
        rw [if_pos (Or.inr c2), if_pos hn0, va_up_id]
        refine ⟨hfr hf (fun _ _ => rfl) (HQ_mono (Nat.le_succ T) ⟨k1, k2, k3, k4, tc, t1, t2, fun k hbk => ?_⟩), h2, h3⟩
        have hk := k3 k hbk
        have q := n2 k (by omega) hbk
        have q9 := t3 k hbk
        rw [hall k (by omega) hbk] at q9
        rw [q]
        exact q9
      · rw [if_neg (show ¬ (f' + 7 < T + 1 ∨ l' ≤ tc) by omega)]
        have hn1 : ¬ (F_X1_isByNewEvents fI fK fQ i).1 = 0 := by
          rcases n1 with ⟨-, e⟩ | ⟨e, -⟩
          · rcases a8 with e8 | ⟨k, -, q2, q3, q4⟩
            · omega
            · have hd := a1 k (Nat.zero_le _) q2 q3
              have q5 := e k (by omega) q3
              obtain ⟨⟨u, u1, u2⟩, -⟩ := t3 k q3
              rw [(hlk k (by omega) hd).2.2.2.1, (hlk k (by omega) hd).2.2.1, u2] at q5
              have q6 := (nI_eq (by omega) (by have := (hlk k (by omega) hd).2.1; omega)).mp q5
              omega
          · rw [e]; decide
        rw [if_neg hn1]
        refine ⟨hfr _ (fun j hj => va_up_ne _ _ hj) ⟨?_, ?_, k3, k4, T + 1, Nat.le_refl _, ?_, fun k hbk => ?_⟩, ?_, ?_⟩
        · dsimp only; rw [va_up_self]; exact k1
        · dsimp only; rw [va_up_self]; exact k2
        · dsimp only; rw [va_up_self]; rfl
        · have hk := k3 k hbk
          have hd := a1 k (Nat.zero_le _) (by omega) hbk
          obtain ⟨-, u2, u3, q2, -⟩ := hlk k hk hd
          rw [n2 k (by omega) hbk]
          exact ⟨⟨_, u2, q2.trans u3⟩, fun _ => Or.inl q2⟩
        · dsimp only
          rw [hsum_up (f := upd (upd (hf i) 2 ((hf i) 2 + 1)) 3 (nI (T + 1))) rfl nh hi, h2]
        · dsimp only
          rw [k2]
          exact type_eq h3
theorem chords_eq {K T nh : Nat} {fC fCn fE fLE fG fI fK fL : Nat → Int32} {dn : Int32} {V : Nat → KV} (hK : K ≤ 25) (hT : T + 1 ≤ 2000) (hn : nh ≤ 6) (hS : SQ K (T + 1) fC fCn fE fLE dn fG fI V) (a : (Nat → Int32) × Int32 × Int32 × Nat × Nat × (Nat → Int32)) (b : Int32 × (Nat → Nat → Int32) × Int32 × Nat × Nat × (Nat → Int32)) (h : CR K T nh fK fL V 0 a b) : CR K T nh fK fL V nh (itr (fun i a => S_X1_typeChords_2 fG fI fK fL (nI (T + 1)) i a) nh 0 a) (itr (fun i a => pstep K (T + 1) V i a) nh 0 b) := by
  have q := itr_sim (CR K T nh fK fL V) nh 0 a b (fun k a b _ h2 h => chord_step hK hT (by omega) hn hS a b h) h
  rw [Nat.zero_add] at q
  exact q
theorem SQ_keep {K T T' : Nat} {fC fCn fE fLE fG fI : Nat → Int32} {dn : Int32} {V V' : Nat → KV} (hT : T ≤ T') (hk : ∀ k, keepF (V' k) (V k)) (h : SQ K T fC fCn fE fLE dn fG fI V) : SQ K T' fC fCn fE fLE dn fG fI V' := by
  obtain ⟨h1, h2, h3, h4⟩ := h
  have hd : ∀ k, dwn (V' k) = dwn (V k) ∧ lst (V' k) = lst (V k) := fun k => by
    obtain ⟨-, -, -, -, -, -, q7, -, q9⟩ := hk k
    unfold dwn lst
    rw [q7, q9]
    exact ⟨rfl, rfl⟩
  refine ⟨fun k hk => by rw [(hd k).1]; exact h1 k hk, h2, fun k hk9 => ?_, h4⟩
  obtain ⟨q1, q2, q3, q4, q5, q6, q7, q8⟩ := h3 k hk9
  obtain ⟨p1, p2, p3, p4, p5, p6, p7, p8, p9⟩ := hk k
  unfold KQ
  rw [(hd k).1, (hd k).2, p3, p5, p6, p7, p9]
  refine ⟨q1, q2, q3, q4, q5, q6, by omega, fun e => ?_⟩
  obtain ⟨t, t1, t2, t3⟩ := q8 e
  exact ⟨t, t1, by omega, t3⟩
/-- all of it, both sides -/
def ZQ (K sc : Nat) (lu dn ea ct lo : Int32) (Ch n : Nat) (fB fS fN fM fCn fE fLE fC fG fI fK fL fQ fY : Nat → Int32) (mlu mlo : Int32) (nh mn : Nat) (hf : Nat → Nat → Int32) (mfY : Nat → Int32) (V : Nat → KV) : Prop := lu = mlu ∧ FQ K fB fS fN fM V ∧ SQ K sc fC fCn fE fLE dn fG fI V ∧ ea = nI (sumK K V kne) ∧ YQ lo n fY mlo mn mfY ∧ Ch = nh ∧ nh ≤ 6 ∧ ct = hsum hf nh ∧ ∀ j, j < nh → HQ K sc fK fL fQ hf V j
/-- a scan, both sides -/
theorem once_eq {sc R C K Ch n cap nh mn mcap : Nat} {pa gu fi di li he lu dn ea lo ct ml br mlu mlo mml : Int32} {fY fB fS fN fM fCn fE fLE fC fG fI fK fL fQ mfY : Nat → Int32} {hf : Nat → Nat → Int32} {V : Nat → KV} (hK : K ≤ 25) (hT : sc + 1 ≤ 2000) (hse : ∀ x, F_X3_seenIf R C fi di li x = F_X7_seenOf R C fi br K x di) (h : ZQ K sc lu dn ea ct lo Ch n fB fS fN fM fCn fE fLE fC fG fI fK fL fQ fY mlu mlo nh mn hf mfY V) : ∀ AA BB, AA = F_X4_scanOnce sc pa gu R C K fi di li he lu dn ea lo Ch ct ml n cap fY fS fN fCn fE fLE fC fG fI fK fL fQ → BB = F_X7_step R C fi di he br pa gu sc mlo mlu K nh hf mml mn mcap mfY V → AA.1 = sc + 1 ∧ BB.2.1 = sc + 1 ∧ AA.2.1 = BB.2.2.1 ∧ AA.2.2.1 = BB.2.2.2.1 ∧ ZQ K (sc + 1) (AA.2.2.2.2.1) (AA.2.2.2.2.2.2.2.2.1) (AA.2.2.2.2.2.2.2.2.2.1) (AA.2.2.2.2.2.2.2.2.2.2.2.2.2.2.2.2.2.2) (AA.2.2.2.2.2.2.2.2.2.2.2.2.1) Ch (AA.2.2.2.2.2.2.2.2.2.2.2.2.2.2.1) fB fS (AA.2.2.2.1) fM (AA.2.2.2.2.2.1) (AA.2.2.2.2.2.2.1) (AA.2.2.2.2.2.2.2.1) fC (AA.2.2.2.2.2.2.2.2.2.2.1) (AA.2.2.2.2.2.2.2.2.2.2.2.1) fK fL (AA.2.2.2.2.2.2.2.2.2.2.2.2.2.2.2.2.2.1) (AA.2.2.2.2.2.2.2.2.2.2.2.2.2.2.2.2.1) (BB.2.2.2.2.1) (BB.2.2.2.2.2.1) nh (BB.2.2.2.2.2.2.2.2.1) (BB.2.2.2.2.2.2.2.2.2.2.2) (BB.2.2.2.2.2.2.2.2.2.2.1) (BB.2.2.2.2.2.2.1) ∧ AA.2.2.2.2.2.2.2.2.2.1 = ea + BB.1 := by
  intro AA BB hA hB
  obtain ⟨e1, hF, hS, hE, hY, e2, hn, hct, hH⟩ := h
  subst e1
  subst e2
  obtain ⟨c1, c2, c3, c4, -⟩ := closed_eq (fi := fi) (he := he) (lu := lu) hK hF
  have hS1 := SQ_keep (Nat.le_succ sc) c4 hS
  have hs1 : sumK K (F_X7_closedNow fi he lu K V).2.2 kne = sumK K V kne := sumK_congr (fun i _ => (c4 i).2.2.2.2.2.2.1)
  have hR : RS K (sc + 1) fC ea (F_X7_closedNow fi he lu K V).2.2 0 (fCn, fE, fLE, dn, ea, fG, fI, lo, ml, n, cap, fY) (0, (F_X7_closedNow fi he lu K V).2.2, mlo, mml, mn, mcap, mfY) := by
    refine ⟨hS1, (Int32.add_zero ea).symm, ?_, hY, fun k _ hk => ?_, fun k => ⟨rfl, rfl, rfl, rfl, fun q => Or.inl ⟨q, rfl⟩⟩⟩
    · dsimp only; rw [hs1]; exact hE
    · have q1 : kne ((F_X7_closedNow fi he lu K V).2.2 k) = kne (V k) := (c4 k).2.2.2.2.2.2.1
      have q2 : kne (V k) ≤ sc := (hS.2.2.1 k hk).2.2.2.2.2.2.1
      dsimp only
      omega
  have hL := itr_sim (RS K (sc + 1) fC ea (F_X7_closedNow fi he lu K V).2.2) K 0 _ _ (fun k a b _ h2 h3 => key_step (pa := pa) (gu := gu) (fS := fS) (fN := fN) (V1 := V) (by omega) hK hT c1 hse a b h3) hR
  rw [Nat.zero_add] at hL
  unfold F_X4_scanOnce at hA
  unfold F_X7_step at hB
  unfold F_X1_typeChords at hA
  generalize hXX : itr (fun k a => S_X4_scanOnce_52 sc pa gu R C K fi di li he lu fS fN fC k a) K 0 (fCn, fE, fLE, dn, ea, fG, fI, lo, ml, n, cap, fY) = XX at hL hA
  unfold S_X7_step_202 at hB
  generalize hYY : itr (fun k a => S_X7_step_38 R C fi di he br pa gu sc lu K V k a) K 0 (0, (F_X7_closedNow fi he lu K V).2.2, mlo, mml, mn, mcap, mfY) = YY at hL hB
  obtain ⟨g1, g2, g3, g4, -, g6⟩ := hL
  have hC : CR K sc Ch fK fL (YY.2.1) 0 (fQ, ct, XX.2.2.2.2.2.2.2.1, XX.2.2.2.2.2.2.2.2.2.1, XX.2.2.2.2.2.2.2.2.2.2.1, XX.2.2.2.2.2.2.2.2.2.2.2) (-1, hf, YY.2.2.1, YY.2.2.2.2.1, YY.2.2.2.2.2.1, YY.2.2.2.2.2.2) := by
    refine ⟨fun j hj => ?_, hct, g4⟩
    rw [if_neg (Nat.not_lt_zero _)]
    obtain ⟨q1, q2, q3, q4, tc, q5, q6, q7⟩ := hH j hj
    refine ⟨q1, q2, q3, q4, tc, q5, q6, fun k hbk => ⟨(q7 k hbk).1, fun hd => ?_⟩⟩
    rcases (g6 k).2.2.2.2 hd with ⟨u1, u2⟩ | u1
    · have hd2 : dwn (V k) = true ∧ lst ((F_X7_closedNow fi he lu K V).2.2 k) = lst (V k) := by
        obtain ⟨-, -, -, -, -, -, p7, -, p9⟩ := c4 k
        unfold dwn at u1 ⊢
        unfold lst
        rw [p7] at u1
        rw [p7, p9]
        exact ⟨u1, rfl⟩
      rw [u2, hd2.2]
      exact (q7 k hbk).2 hd2.1
    · exact Or.inr ⟨sc + 1, by omega, hT, u1⟩
  have hD := chords_eq hK hT hn g1 _ _ hC
  have hpe : (fun i a => pstep K (sc + 1) (YY.2.1) i a) = fun (i0 : Nat) (a0 : Int32 × (Nat → Nat → Int32) × Int32 × Nat × Nat × (Nat → Int32)) => (nI i0, va_up a0.2.1 i0 ((F_X7_play (sc + 1) a0.2.2.1 K (a0.2.1 i0) a0.2.2.2.1 a0.2.2.2.2.1 a0.2.2.2.2.2 (YY.2.1)).1), (F_X7_play (sc + 1) a0.2.2.1 K (a0.2.1 i0) a0.2.2.2.1 a0.2.2.2.2.1 a0.2.2.2.2.2 (YY.2.1)).2.1, ((F_X7_play (sc + 1) a0.2.2.1 K (a0.2.1 i0) a0.2.2.2.1 a0.2.2.2.2.1 a0.2.2.2.2.2 (YY.2.1)).2.2.1), ((F_X7_play (sc + 1) a0.2.2.1 K (a0.2.1 i0) a0.2.2.2.1 a0.2.2.2.2.1 a0.2.2.2.2.2 (YY.2.1)).2.2.2.1), (F_X7_play (sc + 1) a0.2.2.1 K (a0.2.1 i0) a0.2.2.2.1 a0.2.2.2.2.1 a0.2.2.2.2.2 (YY.2.1)).2.2.2.2) := rfl
  dsimp only at hA hB
  rw [← hpe] at hB
  generalize hUU : itr (fun i a => S_X1_typeChords_2 (XX.2.2.2.2.2.1) (XX.2.2.2.2.2.2.1) fK fL (nI (sc + 1)) i a) Ch 0 (fQ, ct, XX.2.2.2.2.2.2.2.1, XX.2.2.2.2.2.2.2.2.2.1, XX.2.2.2.2.2.2.2.2.2.2.1, XX.2.2.2.2.2.2.2.2.2.2.2) = UU at hD hA
  generalize hWW : itr (fun i a => pstep K (sc + 1) (YY.2.1) i a) Ch 0 ((-1 : Int32), hf, YY.2.2.1, YY.2.2.2.2.1, YY.2.2.2.2.2.1, YY.2.2.2.2.2.2) = WW at hD hB
  obtain ⟨d1, d2, d3⟩ := hD
  subst hA
  subst hB
  refine ⟨rfl, rfl, c1, ?_, ⟨c2, fun k hk => ?_, g1, g3, d3, rfl, hn, d2, fun j hj => ?_⟩, g2⟩
  · dsimp only
    rw [c1, hse]
  · obtain ⟨q1, q2, q3, q4, q5⟩ := c3 k hk
    obtain ⟨p1, p2, p3, p4, -⟩ := g6 k
    dsimp only
    rw [p1, p2, p3, p4]
    exact ⟨q1, q2, q3, q4, q5⟩
  · have q := d1 j hj
    rw [if_pos hj] at q
    exact q

/-- all but what fingers leave -/
def keepS (v v2 : KV) : Prop := kco v = kco v2 ∧ kgo v = kgo v2 ∧ kcc v = kcc v2 ∧ kne v = kne v2 ∧ kev v = kev v2
theorem keepS_refl (v : KV) : keepS v v := ⟨rfl, rfl, rfl, rfl, rfl⟩
theorem keepS_dl {v v2 : KV} (h : keepS v v2) : dwn v = dwn v2 ∧ lst v = lst v2 := by
  obtain ⟨-, -, -, q4, q5⟩ := h
  unfold dwn lst
  rw [q4, q5]
  exact ⟨rfl, rfl⟩
theorem SQ_same {K T : Nat} {fC fCn fE fLE fG fI : Nat → Int32} {dn : Int32} {V V' : Nat → KV} (hk : ∀ k, keepS (V' k) (V k)) (h : SQ K T fC fCn fE fLE dn fG fI V) : SQ K T fC fCn fE fLE dn fG fI V' := by
  obtain ⟨h1, h2, h3, h4⟩ := h
  refine ⟨fun k hk9 => by rw [(keepS_dl (hk k)).1]; exact h1 k hk9, h2, fun k hk9 => ?_, h4⟩
  have q := h3 k hk9
  obtain ⟨p1, p2, p3, p4, p5⟩ := hk k
  unfold KQ at q ⊢
  rw [(keepS_dl (hk k)).1, (keepS_dl (hk k)).2, p1, p2, p3, p4, p5]
  exact q
theorem HQ_same {K T i : Nat} {fK fL fQ : Nat → Int32} {hf : Nat → Nat → Int32} {V V' : Nat → KV} (hk : ∀ k, dwn (V' k) = dwn (V k) ∧ lst (V' k) = lst (V k)) (h : HQ K T fK fL fQ hf V i) : HQ K T fK fL fQ hf V' i := by
  obtain ⟨h1, h2, h3, h4, tc, h5, h6, h7⟩ := h
  refine ⟨h1, h2, h3, h4, tc, h5, h6, fun k hb => ?_⟩
  rw [(hk k).1, (hk k).2]
  exact h7 k hb
/-- fingers moved -/
theorem ZQ_f {K sc : Nat} {lu : Int32} {dn : Int32} {ea : Int32} {ct : Int32} {lo : Int32} {Ch : Nat} {n : Nat} {fB : Nat → Int32} {fS : Nat → Int32} {fN : Nat → Int32} {fM : Nat → Int32} {fCn : Nat → Int32} {fE : Nat → Int32} {fLE : Nat → Int32} {fC : Nat → Int32} {fG : Nat → Int32} {fI : Nat → Int32} {fK : Nat → Int32} {fL : Nat → Int32} {fQ : Nat → Int32} {fY : Nat → Int32} {mlu : Int32} {mlo : Int32} {nh : Nat} {mn : Nat} {hf : Nat → Nat → Int32} {mfY : Nat → Int32} {V : Nat → KV} {fB' fS' fN' fM' : Nat → Int32} {V' : Nat → KV} (hF : FQ K fB' fS' fN' fM' V') (hk : ∀ k, keepS (V' k) (V k)) (h : ZQ K sc lu dn ea ct lo Ch n fB fS fN fM fCn fE fLE fC fG fI fK fL fQ fY mlu mlo nh mn hf mfY V) : ZQ K sc lu dn ea ct lo Ch n (fB') (fS') (fN') (fM') fCn fE fLE fC fG fI fK fL fQ fY mlu mlo nh mn hf mfY (V') := by
  obtain ⟨z1, -, z3, z4, z5, z6, z7, z8, z9⟩ := h
  refine ⟨z1, hF, SQ_same hk z3, ?_, z5, z6, z7, z8, fun j hj => HQ_same (fun k => keepS_dl (hk k)) (z9 j hj)⟩
  rw [z4]
  exact congrArg nI (sumK_congr (fun i _ => ((hk i).2.2.2.1).symm))
theorem touch_S {he x2 : Int32} {sc k : Nat} {V : Nat → KV} : ∀ j, keepS ((F_X7_touch he sc V k x2).2 j) (V j) := fun j => by
  show keepS (va_up V k (mkV (kbo (V k)) (kst (V k)) (kbo (V k)) (kco (V k)) (nI sc) (kgo (V k)) (kcc (V k)) (kne (V k)) (kcp (V k)) (kev (V k))) j) (V j)
  by_cases e : j = k
  · subst e; rw [va_up_self]; exact keepS_refl _
  · rw [va_up_ne _ _ e]; exact keepS_refl _
theorem move_F {K k sc : Nat} {fB fS fN fM : Nat → Int32} {V : Nat → KV} {he x2 : Int32} (hs : sc ≤ 2000) (h : FQ K fB fS fN fM V) : FQ K fB fS (F_X0_move fB fN fM he k x2 (nI sc)).2.1 (F_X0_move fB fN fM he k x2 (nI sc)).2.2 (if F_X7_has he (nI k) = x2 then V else (F_X7_touch he sc V k x2).2) := by
  unfold F_X0_move
  by_cases h1 : F_X7_has he (nI k) = x2
  · rw [if_pos (show F_X4_holds he (nI k) = x2 from h1), if_pos h1]
    exact h
  · rw [if_neg (show ¬ F_X4_holds he (nI k) = x2 from h1), if_neg h1]
    intro j hj
    show fB j = kbo (va_up V k (mkV (kbo (V k)) (kst (V k)) (kbo (V k)) (kco (V k)) (nI sc) (kgo (V k)) (kcc (V k)) (kne (V k)) (kcp (V k)) (kev (V k))) j) ∧ fS j = kst (va_up V k (mkV (kbo (V k)) (kst (V k)) (kbo (V k)) (kco (V k)) (nI sc) (kgo (V k)) (kcc (V k)) (kne (V k)) (kcp (V k)) (kev (V k))) j) ∧ upd fN k (fB k) j = kle (va_up V k (mkV (kbo (V k)) (kst (V k)) (kbo (V k)) (kco (V k)) (nI sc) (kgo (V k)) (kcc (V k)) (kne (V k)) (kcp (V k)) (kev (V k))) j) ∧ upd fM k (nI sc) j = kto (va_up V k (mkV (kbo (V k)) (kst (V k)) (kbo (V k)) (kco (V k)) (nI sc) (kgo (V k)) (kcc (V k)) (kne (V k)) (kcp (V k)) (kev (V k))) j) ∧ (kst (va_up V k (mkV (kbo (V k)) (kst (V k)) (kbo (V k)) (kco (V k)) (nI sc) (kgo (V k)) (kcc (V k)) (kne (V k)) (kcp (V k)) (kev (V k))) j) = 0 ∨ kst (va_up V k (mkV (kbo (V k)) (kst (V k)) (kbo (V k)) (kco (V k)) (nI sc) (kgo (V k)) (kcc (V k)) (kne (V k)) (kcp (V k)) (kev (V k))) j) = 1 ∨ kst (va_up V k (mkV (kbo (V k)) (kst (V k)) (kbo (V k)) (kco (V k)) (nI sc) (kgo (V k)) (kcc (V k)) (kne (V k)) (kcp (V k)) (kev (V k))) j) = 2) ∧ (kto (va_up V k (mkV (kbo (V k)) (kst (V k)) (kbo (V k)) (kco (V k)) (nI sc) (kgo (V k)) (kcc (V k)) (kne (V k)) (kcp (V k)) (kev (V k))) j) = -1 ∨ ∃ t, t ≤ 2000 ∧ kto (va_up V k (mkV (kbo (V k)) (kst (V k)) (kbo (V k)) (kco (V k)) (nI sc) (kgo (V k)) (kcc (V k)) (kne (V k)) (kcp (V k)) (kev (V k))) j) = nI t)
    obtain ⟨q1, q2, q3, q4, q5⟩ := h j hj
    by_cases e : j = k
    · subst e
      rw [va_up_self, pk_us, pk_us]
      exact ⟨q1, q2, q1, rfl, q5.1, Or.inr ⟨sc, hs, rfl⟩⟩
    · rw [va_up_ne _ _ e, pk_un e, pk_un e]
      exact ⟨q1, q2, q3, q4, q5⟩
/-- a key made anew as it bounces and sticks -/
theorem made_F {K k : Nat} {fB fS fN fM : Nat → Int32} {V : Nat → KV} {x4 x5 : Int32} (h5 : x5 = 0 ∨ x5 = 1 ∨ x5 = 2) (h : FQ K fB fS fN fM V) : FQ K (upd fB k x4) (upd fS k x5) fN fM (va_up V k (mkV x4 x5 (kle (V k)) (kco (V k)) (kto (V k)) (kgo (V k)) (kcc (V k)) (kne (V k)) (kcp (V k)) (kev (V k)))) := fun j hj => by
  obtain ⟨q1, q2, q3, q4, q5⟩ := h j hj
  by_cases e : j = k
  · subst e
    rw [va_up_self, pk_us, pk_us]
    exact ⟨rfl, rfl, q3, q4, h5, q5.2⟩
  · rw [va_up_ne _ _ e, pk_un e, pk_un e]
    exact ⟨q1, q2, q3, q4, q5⟩
theorem made_S {k : Nat} {V : Nat → KV} {x4 x5 : Int32} : ∀ j, keepS (va_up V k (mkV x4 x5 (kle (V k)) (kco (V k)) (kto (V k)) (kgo (V k)) (kcc (V k)) (kne (V k)) (kcp (V k)) (kev (V k))) j) (V j) := fun j => by
  by_cases e : j = k
  · subst e; rw [va_up_self]; exact keepS_refl _
  · rw [va_up_ne _ _ e]; exact keepS_refl _
theorem keepS_tr {a b c : KV} (h1 : keepS a b) (h2 : keepS b c) : keepS a c := ⟨h1.1.trans h2.1, h1.2.1.trans h2.2.1, h1.2.2.1.trans h2.2.2.1, h1.2.2.2.1.trans h2.2.2.2.1, h1.2.2.2.2.trans h2.2.2.2.2⟩
theorem stuck3 {x : Int32} (h : ¬ F_X7_isIn x 0 2 = 0) : x = 0 ∨ x = 1 ∨ x = 2 := by
  rcases in_iff x 0 2 with ⟨e, -⟩ | ⟨-, h1, h2⟩
  · exact absurd e h
  · obtain ⟨j, hj, rfl⟩ := nI_of h1
    have h3 : ¬ nI 2 < nI j := h2
    have h4 : j ≤ 2 := Nat.le_of_not_lt fun q => h3 (nI_lt q hj)
    have h5 : j = 0 ∨ j = 1 ∨ j = 2 := by omega
    rcases h5 with rfl | rfl | rfl
    · exact Or.inl rfl
    · exact Or.inr (Or.inl rfl)
    · exact Or.inr (Or.inr rfl)
/-- a code laid on a key -/
theorem ZQ_code {K sc : Nat} {lu : Int32} {dn : Int32} {ea : Int32} {ct : Int32} {lo : Int32} {Ch : Nat} {n : Nat} {fB : Nat → Int32} {fS : Nat → Int32} {fN : Nat → Int32} {fM : Nat → Int32} {fCn : Nat → Int32} {fE : Nat → Int32} {fLE : Nat → Int32} {fC : Nat → Int32} {fG : Nat → Int32} {fI : Nat → Int32} {fK : Nat → Int32} {fL : Nat → Int32} {fQ : Nat → Int32} {fY : Nat → Int32} {mlu : Int32} {mlo : Int32} {nh : Nat} {mn : Nat} {hf : Nat → Nat → Int32} {mfY : Nat → Int32} {V : Nat → KV} {k l c : Nat} (hK : K ≤ 25) (hk : k < K) (hl : l < 3) (hc : c ≤ 31) (h : ZQ K sc lu dn ea ct lo Ch n fB fS fN fM fCn fE fLE fC fG fI fK fL fQ fY mlu mlo nh mn hf mfY V) : ZQ K sc lu dn ea ct lo Ch n fB fS fN fM fCn fE fLE (upd fC (l * 25 + k) (nI c)) fG fI fK fL fQ fY mlu mlo nh mn hf mfY (va_up V k (mkV (kbo (V k)) (kst (V k)) (kle (V k)) (kco (V k)) (kto (V k)) (kgo (V k)) (upd (kcc (V k)) l (nI c)) (kne (V k)) (kcp (V k)) (kev (V k)))) := by
  obtain ⟨z1, z2, z3, z4, z5, z6, z7, z8, z9⟩ := h
  obtain ⟨s1, s2, s3, s4⟩ := z3
  have hd : ∀ j, dwn (va_up V k (mkV (kbo (V k)) (kst (V k)) (kle (V k)) (kco (V k)) (kto (V k)) (kgo (V k)) (upd (kcc (V k)) l (nI c)) (kne (V k)) (kcp (V k)) (kev (V k))) j) = dwn (V j) ∧ lst (va_up V k (mkV (kbo (V k)) (kst (V k)) (kle (V k)) (kco (V k)) (kto (V k)) (kgo (V k)) (upd (kcc (V k)) l (nI c)) (kne (V k)) (kcp (V k)) (kev (V k))) j) = lst (V j) := fun j => by
    by_cases e : j = k
    · subst e; rw [va_up_self]; exact ⟨rfl, rfl⟩
    · rw [va_up_ne _ _ e]; exact ⟨rfl, rfl⟩
  refine ⟨z1, fun j hj => ?_, ⟨fun j hj => by rw [(hd j).1]; exact s1 j hj, s2, fun j hj => ?_, s4⟩, ?_, z5, z6, z7, z8, fun j hj => HQ_same hd (z9 j hj)⟩
  · by_cases e : j = k
    · subst e; rw [va_up_self]; exact z2 j hj
    · rw [va_up_ne _ _ e]; exact z2 j hj
  · obtain ⟨q1, q2, q3, q4, q5, q6, q7, q8⟩ := s3 j hj
    by_cases e : j = k
    · subst e
      rw [va_up_self]
      refine ⟨q1, q2, q3, q4, q5, fun i hi => ?_, q7, q8⟩
      show upd fC (l * 25 + j) (nI c) (i * 25 + j) = upd (kcc (V j)) l (nI c) i ∧ ∃ c' : Nat, c' ≤ 31 ∧ upd (kcc (V j)) l (nI c) i = nI c'
      by_cases e2 : i = l
      · subst e2
        rw [pk_us, pk_us]
        exact ⟨rfl, c, hc, rfl⟩
      · rw [pk_un e2, pk_un (by omega)]
        exact q6 i hi
    · rw [va_up_ne _ _ e]
      refine ⟨q1, q2, q3, q4, q5, fun i hi => ?_, q7, q8⟩
      rw [pk_un (by omega)]
      exact q6 i hi
  · rw [z4]
    exact congrArg nI (sum_same hk (show kne (mkV (kbo (V k)) (kst (V k)) (kle (V k)) (kco (V k)) (kto (V k)) (kgo (V k)) (upd (kcc (V k)) l (nI c)) (kne (V k)) (kcp (V k)) (kev (V k))) = kne (V k) from rfl)).symm
theorem cn_pcf {n : Nat} : ∀ f, f ≤ 32 → cn (nI n) f = pcf f n
  | 0, _ => rfl
  | f + 1, h => by
    rw [cn_s, cn_pcf f (by omega), pcf_add f 1 n]
    have e : bt (nI n) f = decide (n / 2 ^ f % 2 = 1) := by
      show (BitVec.ofNat 32 n).getLsbD f = _
      rw [BitVec.getLsbD_ofNat, decide_eq_true (show f < 32 by omega), Bool.true_and, Nat.testBit_eq_decide_div_mod_eq]
    rw [e]
    show pcf f n + _ = pcf f n + ((n / 2 ^ f) % 2 + 0)
    rcases Nat.mod_two_eq_zero_or_one (n / 2 ^ f) with q | q
    · rw [q]; rfl
    · rw [q]; rfl
theorem set_bits {K : Nat} {x : Int32} (hK : K ≤ 25) (h : F_X7_isNoSet K x = 0) : ∃ n, n < 2 ^ K ∧ x = nI n := by
  unfold F_X7_isNoSet at h
  by_cases h1 : x < 0
  · rw [if_pos h1] at h; exact absurd h (by decide)
  · obtain ⟨j, hj, rfl⟩ := nI_of h1
    have h3 : nI j >>> (F_Jx4a65c_size_8abf5 K &&& 31) = nI (j / 2 ^ K) := pk_shrN hj _ K (smod25 K (by omega))
    rw [if_neg h1, h3] at h
    refine ⟨j, Nat.lt_of_not_le fun q => ?_, rfl⟩
    have h8 : 0 < j / 2 ^ K := Nat.div_pos q (Nat.two_pow_pos K)
    have h7 : j / 2 ^ K ≤ j := Nat.div_le_self _ _
    rw [if_neg (nI_ne0 h8 (by omega))] at h
    exact absurd h (by decide)
theorem two3 {x : Int32} (h : ¬ F_X7_isIn x 2 3 = 0) {n : Nat} (hx : x = nI n) (hn : n < 2 ^ 31) : n ≤ 3 := by
  rcases in_iff x 2 3 with ⟨e, -⟩ | ⟨-, -, h2⟩
  · exact absurd e h
  · rw [hx] at h2
    have h3 : ¬ nI 3 < nI n := h2
    exact Nat.le_of_not_lt fun q => h3 (nI_lt q hn)
theorem add3 {fQ : Nat → Int32} {Ch : Nat} (h : Ch ≤ 5) (p : Nat) : itr (fun i a => S_X1_addChord_22 Ch i a) 3 0 fQ p = if 3 * Ch ≤ p ∧ p < 3 * Ch + 3 then 0 else fQ p := by
  have e : ∀ i, i < 3 → (((nI Ch) * 3) + (nI i)).toNatClampNeg = 3 * Ch + i := fun i hi => by
    rw [show (3 : Int32) = nI 3 from rfl, pk_mul, nI_add, nI_clamp (by omega), Nat.mul_comm]
  show upd (upd (upd fQ ((((nI Ch) * 3) + (nI 0)).toNatClampNeg) 0) ((((nI Ch) * 3) + (nI 1)).toNatClampNeg) 0) ((((nI Ch) * 3) + (nI 2)).toNatClampNeg) 0 p = _
  rw [e 0 (by omega), e 1 (by omega), e 2 (by omega)]
  by_cases h1 : p = 3 * Ch + 2
  · rw [h1, pk_us, if_pos (by omega)]
  · rw [pk_un h1]
    by_cases h2 : p = 3 * Ch + 1
    · rw [h2, pk_us, if_pos (by omega)]
    · rw [pk_un h2]
      by_cases h3 : p = 3 * Ch + 0
      · rw [h3, pk_us, if_pos (by omega)]
      · rw [pk_un h3, if_neg (by omega)]
/-- a chord more -/
theorem ZQ_chord {K sc : Nat} {lu : Int32} {dn : Int32} {ea : Int32} {ct : Int32} {lo : Int32} {Ch : Nat} {n : Nat} {fB : Nat → Int32} {fS : Nat → Int32} {fN : Nat → Int32} {fM : Nat → Int32} {fCn : Nat → Int32} {fE : Nat → Int32} {fLE : Nat → Int32} {fC : Nat → Int32} {fG : Nat → Int32} {fI : Nat → Int32} {fK : Nat → Int32} {fL : Nat → Int32} {fQ : Nat → Int32} {fY : Nat → Int32} {mlu : Int32} {mlo : Int32} {nh : Nat} {mn : Nat} {hf : Nat → Nat → Int32} {mfY : Nat → Int32} {V : Nat → KV} {x1 x2 : Int32} (hK : K ≤ 25) (hs : sc ≤ 2000) (h1 : F_X7_isNoSet K x1 = 0) (h2 : ¬ F_X7_isIn (F_X7_many x1) 2 3 = 0) (hn : nh ≤ 5) (h : ZQ K sc lu dn ea ct lo Ch n fB fS fN fM fCn fE fLE fC fG fI fK fL fQ fY mlu mlo nh mn hf mfY V) : ZQ K sc lu dn ea ct lo (Ch + 1) n fB fS fN fM fCn fE fLE fC fG fI (upd fK Ch x1) (upd fL Ch x2) (itr (fun i a => S_X1_addChord_22 Ch i a) 3 0 fQ) fY mlu mlo (nh + 1) mn (va_up hf nh (upd (upd (upd (upd (fun _ => 0) 0 x1) 1 x2) 2 0) 3 0)) mfY V := by
  obtain ⟨z1, z2, z3, z4, z5, z6, z7, z8, z9⟩ := h
  subst z6
  obtain ⟨b, b1, b2⟩ := set_bits hK h1
  have h25 : 2 ^ K ≤ 2 ^ 25 := Nat.pow_le_pow_right (by decide) hK
  have hb : ∀ j, bt x1 j = true → j < K := fun j hj => by
    have h32 : j < 32 := Nat.lt_of_not_le fun q => by rw [bt_big _ q] at hj; exact absurd hj (by decide)
    refine Nat.lt_of_not_le fun q => ?_
    have e : bt x1 j = b.testBit j := by
      rw [b2]
      show (BitVec.ofNat 32 b).getLsbD j = _
      rw [BitVec.getLsbD_ofNat, decide_eq_true h32, Bool.true_and]
    rw [e, Nat.testBit_lt_two_pow (Nat.lt_of_lt_of_le b1 (Nat.pow_le_pow_right (by decide) q))] at hj
    exact absurd hj (by decide)
  have h3 : cn x1 25 ≤ 3 := by
    have q1 : F_X7_many x1 = nI (pcf 31 b) := by rw [b2]; exact many_pc (by omega)
    have q2 : cn x1 31 = pcf 31 b := by rw [b2]; exact cn_pcf 31 (by omega)
    have q3 := cn_le x1 31
    have q4 := two3 h2 q1 (by omega)
    have q5 := cn_up2 (y := x1) 25 31 (by omega)
    omega
  have hne : ∀ j, j ≠ Ch → va_up hf Ch (upd (upd (upd (upd (fun _ => 0) 0 x1) 1 x2) 2 0) 3 0) j = hf j := fun j hj => va_up_ne _ _ hj
  refine ⟨z1, z2, z3, z4, z5, rfl, by omega, ?_, fun j hj => ?_⟩
  · show ct = hsum (va_up hf Ch _) Ch + va_up hf Ch (upd (upd (upd (upd (fun _ => 0) 0 x1) 1 x2) 2 0) 3 0) Ch 2
    rw [hsum_ne Ch (Nat.le_refl _), va_up_self, z8]
    exact (Int32.add_zero _).symm
  · by_cases e : j = Ch
    · subst e
      unfold HQ
      rw [va_up_self, pk_us, pk_us]
      refine ⟨rfl, rfl, hb, h3, 0, Nat.zero_le _, rfl, fun k hk => ?_⟩
      have hk2 := hb k hk
      have q2 := cn_lt2 (b := 25) (by omega) hk
      rw [add3 hn, if_pos (by omega)]
      refine ⟨⟨0, Nat.le_refl _, rfl⟩, fun hd => Or.inr ?_⟩
      obtain ⟨-, -, -, t, t1, t2, t3⟩ := dn_last hs (z3.2.2.1 k hk2) hd
      exact ⟨t, t1, by omega, t3⟩
    · have q := z9 j (by omega)
      obtain ⟨q1, q2, q3, q4, tc, q5, q6, q7⟩ := HQ_fr (fQ' := itr (fun i a => S_X1_addChord_22 Ch i a) 3 0 fQ) (hf' := va_up hf Ch (upd (upd (upd (upd (fun _ => 0) 0 x1) 1 x2) 2 0) 3 0)) hK e (fun p hp => by rw [add3 hn, if_neg (by omega)]) (hne j e) q
      unfold HQ
      rw [pk_un e, pk_un e]
      exact ⟨q1, q2, q3, q4, tc, q5, q6, q7⟩
/-- scans on both sides -/
def SCR (K sc0 Ch nh : Nat) (ea0 : Int32) (fB fS fM fC fK fL : Nat → Int32) (i : Nat) (a : Nat × Int32 × Int32 × (Nat → Int32) × Int32 × (Nat → Int32) × (Nat → Int32) × (Nat → Int32) × Int32 × Int32 × (Nat → Int32) × (Nat → Int32) × Int32 × Int32 × Nat × Nat × (Nat → Int32) × (Nat → Int32) × Int32) (b : Int32 × Nat × Int32 × Int32 × Int32 × Int32 × (Nat → KV) × Int32 × Nat × Nat × (Nat → Int32) × (Nat → Nat → Int32)) : Prop := a.1 = sc0 + i ∧ b.2.1 = sc0 + i ∧ a.2.1 = b.2.2.1 ∧ a.2.2.1 = b.2.2.2.1 ∧ ZQ K (sc0 + i) (a.2.2.2.2.1) (a.2.2.2.2.2.2.2.2.1) (a.2.2.2.2.2.2.2.2.2.1) (a.2.2.2.2.2.2.2.2.2.2.2.2.2.2.2.2.2.2) (a.2.2.2.2.2.2.2.2.2.2.2.2.1) Ch (a.2.2.2.2.2.2.2.2.2.2.2.2.2.2.1) fB fS (a.2.2.2.1) fM (a.2.2.2.2.2.1) (a.2.2.2.2.2.2.1) (a.2.2.2.2.2.2.2.1) fC (a.2.2.2.2.2.2.2.2.2.2.1) (a.2.2.2.2.2.2.2.2.2.2.2.1) fK fL (a.2.2.2.2.2.2.2.2.2.2.2.2.2.2.2.2.2.1) (a.2.2.2.2.2.2.2.2.2.2.2.2.2.2.2.2.1) (b.2.2.2.2.1) (b.2.2.2.2.2.1) nh (b.2.2.2.2.2.2.2.2.1) (b.2.2.2.2.2.2.2.2.2.2.2) (b.2.2.2.2.2.2.2.2.2.2.1) (b.2.2.2.2.2.2.1) ∧ a.2.2.2.2.2.2.2.2.2.1 = ea0 + b.1
theorem scn_step {K sc0 Ch nh R C : Nat} {ea0 pa gu fi di li he br : Int32} {fB fS fM fC fK fL : Nat → Int32} {i : Nat} (hK : K ≤ 25) (hT : sc0 + i + 1 ≤ 2000) (hse : ∀ x, F_X3_seenIf R C fi di li x = F_X7_seenOf R C fi br K x di) (a : Nat × Int32 × Int32 × (Nat → Int32) × Int32 × (Nat → Int32) × (Nat → Int32) × (Nat → Int32) × Int32 × Int32 × (Nat → Int32) × (Nat → Int32) × Int32 × Int32 × Nat × Nat × (Nat → Int32) × (Nat → Int32) × Int32) (b : Int32 × Nat × Int32 × Int32 × Int32 × Int32 × (Nat → KV) × Int32 × Nat × Nat × (Nat → Int32) × (Nat → Nat → Int32)) (h : SCR K sc0 Ch nh ea0 fB fS fM fC fK fL i a b) : SCR K sc0 Ch nh ea0 fB fS fM fC fK fL (i + 1) (S_X4_scan_53 pa gu R C K fi di li he Ch fS fC fK fL i a) (S_X7_scan_54 R C fi di he br pa gu K nh i b) := by
  obtain ⟨s1, cl, se, fN, lu, fCn, fE, fLE, dn, ea, fG, fI, lo, ml, n, cap, fY, fQ, ct⟩ := a
  obtain ⟨many, s2, mcl, mse, mlu, mlo, V, mml, mn, mcap, mfY, hf⟩ := b
  obtain ⟨h1, h2, h3, h4, h5, h6⟩ := h
  dsimp only at h1 h2 h3 h4 h5 h6
  subst h1
  subst h2
  obtain ⟨g1, g2, g3, g4, g5, g6⟩ := once_eq (pa := pa) (gu := gu) (he := he) (ml := ml) (cap := cap) (mcap := mcap) (mml := mml) (fS := fS) hK hT hse h5 _ _ rfl rfl
  exact ⟨g1, g2, g3, g4, g5, g6.trans (by rw [h6, Int32.add_assoc]; rfl)⟩

theorem lt26 {x : Int32} : x < 26 ↔ ¬ 25 < x := by
  rw [Int32.lt_iff_toInt_lt, Int32.lt_iff_toInt_lt, show (26 : Int32).toInt = 26 from by decide, show (25 : Int32).toInt = 25 from by decide]
  omega
theorem six {n : Nat} (h : n ≤ 6) : nI n < 6 ↔ ¬ nI n = 6 := by
  rcases Nat.lt_or_ge n 6 with q | q
  · refine ⟨fun _ e => ?_, fun _ => nI_lt (b := 6) q (by omega)⟩
    have h3 := congrArg Int32.toInt e
    rw [nI_toInt (by omega), show (6 : Int32).toInt = 6 from by decide] at h3
    omega
  · have e : n = 6 := by omega
    subst e
    exact ⟨fun h2 => absurd h2 (by decide), fun h2 => absurd rfl h2⟩
/-- when both sides take a chord, and what they say when not -/
theorem chord_acc {K Ch : Nat} {x1 x2 : Int32} (hK : K ≤ 25) (hC : Ch ≤ 6) :
    (E_X4_chord K Ch x1 x2 = 1 ∧ (¬ F_X7_isNoSet K x1 = 0 ∨ (F_X7_isNoSet K x1 = 0 ∧ (F_X7_isIn (F_X7_many x1) 2 3 = 0 ∨ (¬ F_X7_isIn (F_X7_many x1) 2 3 = 0 ∧ F_X7_isIn x2 0 25 = 0))))) ∨
    (F_X7_isNoSet K x1 = 0 ∧ ¬ F_X7_isIn (F_X7_many x1) 2 3 = 0 ∧ ¬ F_X7_isIn x2 0 25 = 0 ∧ ((E_X4_chord K Ch x1 x2 = 3 ∧ F_Jx4a65c_size_8abf5 Ch = 6) ∨ (E_X4_chord K Ch x1 x2 = 0 ∧ ¬ F_Jx4a65c_size_8abf5 Ch = 6))) := by
  unfold E_X4_chord
  rcases set_iff (x := x1) hK with ⟨a1, a2⟩ | ⟨a1, a2, a3⟩
  · rw [if_pos a1]
    exact Or.inl ⟨rfl, Or.inl a2⟩
  · rw [if_neg a1, bit_manyx a3]
    rcases in_iff (F_X7_many x1) 2 3 with ⟨b1, b2 | ⟨b2, b3⟩⟩ | ⟨b1, b2, b3⟩
    · rw [if_pos b2]
      exact Or.inl ⟨rfl, Or.inr ⟨a2, Or.inl b1⟩⟩
    · rw [if_neg b2, if_pos b3]
      exact Or.inl ⟨rfl, Or.inr ⟨a2, Or.inl b1⟩⟩
    · rw [if_neg b2, if_neg b3]
      rcases in_iff x2 0 25 with ⟨c1, c2 | ⟨c2, c3⟩⟩ | ⟨c1, c2, c3⟩
      · rw [if_pos c2]
        exact Or.inl ⟨rfl, Or.inr ⟨a2, Or.inr ⟨b1, c1⟩⟩⟩
      · rw [if_neg c2, if_neg (fun h => lt26.mp h c3)]
        exact Or.inl ⟨rfl, Or.inr ⟨a2, Or.inr ⟨b1, c1⟩⟩⟩
      · rw [if_neg c2, if_pos (lt26.mpr c3)]
        refine Or.inr ⟨a2, b1, c1, ?_⟩
        by_cases d : nI Ch = 6
        · rw [if_neg (fun h => (six hC).mp h d)]
          exact Or.inl ⟨rfl, d⟩
        · rw [if_pos ((six hC).mpr d)]
          exact Or.inr ⟨rfl, d⟩

theorem in_new0 : ∀ k a, (∀ j, j < k → a.1 j = 0 ∧ a.2.1 j = 0 ∧ a.2.2.1 j = 0 ∧ a.2.2.2 j = -1) → ∀ j, j < k + 1 → (S_X0_startAnew_2 k a).1 j = 0 ∧ (S_X0_startAnew_2 k a).2.1 j = 0 ∧ (S_X0_startAnew_2 k a).2.2.1 j = 0 ∧ (S_X0_startAnew_2 k a).2.2.2 j = -1 := fun k a h j hj => by
  show upd a.1 k 0 j = 0 ∧ upd a.2.1 k 0 j = 0 ∧ upd a.2.2.1 k 0 j = 0 ∧ upd a.2.2.2 k (-1) j = -1
  by_cases e : j = k
  · subst e; rw [pk_us, pk_us, pk_us, pk_us]; exact ⟨rfl, rfl, rfl, rfl⟩
  · rw [pk_un e, pk_un e, pk_un e, pk_un e]; exact h j (by omega)
theorem in_new2 : ∀ k a, (∀ j, j < k → a.1 j = 0 ∧ a.2.1 j = 0 ∧ a.2.2 j = 0) → ∀ j, j < k + 1 → (S_X2_startAnew_2 k a).1 j = 0 ∧ (S_X2_startAnew_2 k a).2.1 j = 0 ∧ (S_X2_startAnew_2 k a).2.2 j = 0 := fun k a h j hj => by
  show upd a.1 k 0 j = 0 ∧ upd a.2.1 k 0 j = 0 ∧ upd a.2.2 k 0 j = 0
  by_cases e : j = k
  · subst e; rw [pk_us, pk_us, pk_us]; exact ⟨rfl, rfl, rfl⟩
  · rw [pk_un e, pk_un e, pk_un e]; exact h j (by omega)
theorem in_new40 : ∀ k a, (∀ j, j < k → a.1 j = -1 ∧ a.2 j = 0) → ∀ j, j < k + 1 → (S_X1_startAnew_40 k a).1 j = -1 ∧ (S_X1_startAnew_40 k a).2 j = 0 := fun k a h j hj => by
  show upd a.1 k (-1) j = -1 ∧ upd a.2 k 0 j = 0
  by_cases e : j = k
  · subst e; rw [pk_us, pk_us]; exact ⟨rfl, rfl⟩
  · rw [pk_un e, pk_un e]; exact h j (by omega)
theorem in_newC : ∀ k a, k < 75 → (∀ j, j < k → a j = if j < 25 then nI j - nI j / 26 * 26 else 31) → ∀ j, j < k + 1 → S_X1_startAnew_2 k a j = if j < 25 then nI j - nI j / 26 * 26 else 31 := fun k a hk h j hj => by
  unfold S_X1_startAnew_2
  by_cases h25 : k < 25
  · rw [if_neg (show ¬ (25 : Int32) ≤ nI k from nI_ge h25 (by decide))]
    by_cases e : j = k
    · subst e; rw [pk_us, if_pos h25]
    · rw [pk_un e]; exact h j (by omega)
  · rw [if_pos (show (25 : Int32) ≤ nI k from nI_le (show 25 ≤ k by omega) (by omega))]
    by_cases e : j = k
    · subst e; rw [pk_us, if_neg h25]
    · rw [pk_un e]; exact h j (by omega)
theorem new_sum : ∀ K, sumK K newV kne = 0
  | 0 => rfl
  | n + 1 => by
    show sumK n newV kne + kne (newV n) = 0
    rw [new_sum n]
    rfl
theorem ZQ_new {K n : Nat} {ml lu : Int32} {fB fS fN fM fCn fE fLE fC fG fI fK fL fQ fY mfY : Nat → Int32} {hf : Nat → Nat → Int32} (hK : K ≤ 25) : ∀ u, u = F_X4_startAnew ml n fB fS fN fM fCn fE fLE fC fG fI → ZQ K 0 lu (u.2.2.2.2.2.2.2.2.1) (u.2.2.2.2.2.2.2.2.2.1) (u.2.2.2.2.2.2.2.2.2.2.2.2.2.2.2.2.2) (u.2.2.2.2.2.2.2.2.2.2.2.2.2.2.2.1) (u.2.2.2.2.2.2.2.2.2.2.2.2.2.2.2.2.1) (u.2.2.2.2.2.2.2.2.2.2.2.2.2.2.1) u.1 u.2.1 u.2.2.1 u.2.2.2.1 u.2.2.2.2.2.1 u.2.2.2.2.2.2.1 u.2.2.2.2.2.2.2.1 u.2.2.2.2.2.2.2.2.2.2.1 u.2.2.2.2.2.2.2.2.2.2.2.1 u.2.2.2.2.2.2.2.2.2.2.2.2.1 fK fL fQ fY lu 0 0 0 hf mfY newV := by
  intro u hu
  have a0 := itr_in (f := fun i a => S_X0_startAnew_2 i a) (fun k a => ∀ j, j < k → a.1 j = 0 ∧ a.2.1 j = 0 ∧ a.2.2.1 j = 0 ∧ a.2.2.2 j = -1) 25 0 (fB, fS, fN, fM) (fun k a _ _ h => in_new0 k a h) (fun j h => absurd h (Nat.not_lt_zero _))
  have a2 := itr_in (f := fun i a => S_X2_startAnew_2 i a) (fun k a => ∀ j, j < k → a.1 j = 0 ∧ a.2.1 j = 0 ∧ a.2.2 j = 0) 25 0 (fCn, fE, fLE) (fun k a _ _ h => in_new2 k a h) (fun j h => absurd h (Nat.not_lt_zero _))
  have a4 := itr_in (f := fun i a => S_X1_startAnew_40 i a) (fun k a => ∀ j, j < k → a.1 j = -1 ∧ a.2 j = 0) 25 0 (fG, fI) (fun k a _ _ h => in_new40 k a h) (fun j h => absurd h (Nat.not_lt_zero _))
  have ac := itr_in (f := fun i a => S_X1_startAnew_2 i a) (fun k a => ∀ j, j < k → a j = if j < 25 then nI j - nI j / 26 * 26 else 31) 75 0 fC (fun k a _ h2 h => in_newC k a (by omega) h) (fun j h => absurd h (Nat.not_lt_zero _))
  rw [Nat.zero_add] at a0 a2 a4 ac
  unfold F_X4_startAnew F_X0_startAnew F_X2_startAnew F_X1_startAnew at hu
  generalize itr (fun i a => S_X0_startAnew_2 i a) 25 0 (fB, fS, fN, fM) = b0 at a0 hu
  generalize itr (fun i a => S_X2_startAnew_2 i a) 25 0 (fCn, fE, fLE) = b2 at a2 hu
  generalize itr (fun i a => S_X1_startAnew_40 i a) 25 0 (fG, fI) = b4 at a4 hu
  generalize itr (fun i a => S_X1_startAnew_2 i a) 75 0 fC = bc at ac hu
  have hn0 : (F_J4_setLength_d00df ml n 0).2 = 0 := setL0
  subst hu
  refine ⟨rfl, fun k hk => ?_, ⟨fun k _ => bt_0 k, fun j hj => ?_, fun k hk => ?_, fun k h1 h2 => ?_⟩, ?_, ⟨rfl, hn0, ?_, fun j hj => ?_⟩, rfl, Nat.zero_le _, rfl, fun j hj => absurd hj (Nat.not_lt_zero _)⟩
  · obtain ⟨q1, q2, q3, q4⟩ := a0 k (by omega)
    exact ⟨q1, q2, q3, q4, Or.inl rfl, Or.inl rfl⟩
  · rw [show bt _ j = bt 0 j from rfl, bt_0] at hj
    exact absurd hj (by decide)
  · obtain ⟨q1, q2, q3⟩ := a2 k (by omega)
    obtain ⟨q4, q5⟩ := a4 k (by omega)
    refine ⟨q1, q2, q3, q4, fun h => absurd (show false = true from h) (by decide), fun j hj => ?_, Nat.zero_le _, fun h => absurd rfl h⟩
    have q6 := ac (j * 25 + k) (by omega)
    have h3 : j = 0 ∨ j = 1 ∨ j = 2 := by omega
    rcases h3 with rfl | rfl | rfl
    · rw [if_pos (by omega), Nat.zero_mul, Nat.zero_add] at q6
      refine ⟨by rw [Nat.zero_mul, Nat.zero_add]; exact q6, k, by omega, ?_⟩
      show nI k - nI k / 26 * 26 = nI k
      exact nI_mod (by omega)
    · rw [if_neg (by omega)] at q6
      exact ⟨q6, 31, by decide, rfl⟩
    · rw [if_neg (by omega)] at q6
      exact ⟨q6, 31, by decide, rfl⟩
  · exact (a4 k h2).1
  · show (0 : Int32) = nI (sumK K newV kne)
    rw [new_sum]
    rfl
  · show (F_J4_setLength_d00df ml n 0).2 ≤ 60
    rw [hn0]; exact Nat.zero_le _
  · have hj : j < (F_J4_setLength_d00df ml n 0).2 := hj
    rw [hn0] at hj
    exact absurd hj (Nat.not_lt_zero _)

theorem zq_lay {sc : Nat} {pa : Int32} {gu : Int32} {cl : Int32} {se : Int32} {R : Nat} {C : Nat} {K : Nat} {fi : Int32} {di : Int32} {br : Int32} {li : Int32} {he : Int32} {dn : Int32} {ea : Int32} {lo : Int32} {Ch : Nat} {ct : Int32} {ml : Int32} {n : Nat} {fB : Nat → Int32} {fS : Nat → Int32} {fN : Nat → Int32} {fM : Nat → Int32} {fCn : Nat → Int32} {fE : Nat → Int32} {fLE : Nat → Int32} {fC : Nat → Int32} {fG : Nat → Int32} {fI : Nat → Int32} {x1 : Int32} {x2 : Int32} {mR : Nat} {mC : Nat} {mfi : Int32} {mdi : Int32} {mhe : Int32} {mbr : Int32} {mpa : Int32} {mgu : Int32} {msc : Nat} {mcl : Int32} {mse : Int32} {mlo : Int32} {mkm : Int32} {mK : Nat} {mkn : Nat} {mhm : Int32} {mnh : Nat} {mml : Int32} {mn : Nat} {mV : Nat → KV} {lu : Int32} {fK : Nat → Int32} {fL : Nat → Int32} {fQ : Nat → Int32} {fY : Nat → Int32} {mlu : Int32} {mhf : Nat → Nat → Int32} {mfY : Nat → Int32}  (h : ZQ K sc lu dn ea ct lo Ch n fB fS fN fM fCn fE fLE fC fG fI fK fL fQ fY mlu mlo mnh mn mhf mfY mV) : ZQ ((F_L_lay sc pa gu cl se R C K fi di br li he dn ea lo Ch ct ml n fB fS fN fM fCn fE fLE fC fG fI x1 x2).2.2.2.2.2.2.2.2.2.2.2.2.2.2.2.2.2.2.2.2.1) ((F_L_lay sc pa gu cl se R C K fi di br li he dn ea lo Ch ct ml n fB fS fN fM fCn fE fLE fC fG fI x1 x2).2.2.2.2.2.2.2.2.2.2.2.2.2.2.2.2.2.2.2.2.2.2.2.2.2.1) lu ((F_L_lay sc pa gu cl se R C K fi di br li he dn ea lo Ch ct ml n fB fS fN fM fCn fE fLE fC fG fI x1 x2).2.2.2.2.2.2.2.2.1) ((F_L_lay sc pa gu cl se R C K fi di br li he dn ea lo Ch ct ml n fB fS fN fM fCn fE fLE fC fG fI x1 x2).2.2.2.2.2.2.2.2.2.1) ((F_L_lay sc pa gu cl se R C K fi di br li he dn ea lo Ch ct ml n fB fS fN fM fCn fE fLE fC fG fI x1 x2).2.2.2.2.2.2.2.2.2.2.2.2.2.2.2.2.2.1) ((F_L_lay sc pa gu cl se R C K fi di br li he dn ea lo Ch ct ml n fB fS fN fM fCn fE fLE fC fG fI x1 x2).2.2.2.2.2.2.2.2.2.2.2.2.2.2.2.1) ((F_L_lay sc pa gu cl se R C K fi di br li he dn ea lo Ch ct ml n fB fS fN fM fCn fE fLE fC fG fI x1 x2).2.2.2.2.2.2.2.2.2.2.2.2.2.2.2.2.1) ((F_L_lay sc pa gu cl se R C K fi di br li he dn ea lo Ch ct ml n fB fS fN fM fCn fE fLE fC fG fI x1 x2).2.2.2.2.2.2.2.2.2.2.2.2.2.2.1) ((F_L_lay sc pa gu cl se R C K fi di br li he dn ea lo Ch ct ml n fB fS fN fM fCn fE fLE fC fG fI x1 x2).1) ((F_L_lay sc pa gu cl se R C K fi di br li he dn ea lo Ch ct ml n fB fS fN fM fCn fE fLE fC fG fI x1 x2).2.1) ((F_L_lay sc pa gu cl se R C K fi di br li he dn ea lo Ch ct ml n fB fS fN fM fCn fE fLE fC fG fI x1 x2).2.2.1) ((F_L_lay sc pa gu cl se R C K fi di br li he dn ea lo Ch ct ml n fB fS fN fM fCn fE fLE fC fG fI x1 x2).2.2.2.1) ((F_L_lay sc pa gu cl se R C K fi di br li he dn ea lo Ch ct ml n fB fS fN fM fCn fE fLE fC fG fI x1 x2).2.2.2.2.2.1) ((F_L_lay sc pa gu cl se R C K fi di br li he dn ea lo Ch ct ml n fB fS fN fM fCn fE fLE fC fG fI x1 x2).2.2.2.2.2.2.1) ((F_L_lay sc pa gu cl se R C K fi di br li he dn ea lo Ch ct ml n fB fS fN fM fCn fE fLE fC fG fI x1 x2).2.2.2.2.2.2.2.1) ((F_L_lay sc pa gu cl se R C K fi di br li he dn ea lo Ch ct ml n fB fS fN fM fCn fE fLE fC fG fI x1 x2).2.2.2.2.2.2.2.2.2.2.1) ((F_L_lay sc pa gu cl se R C K fi di br li he dn ea lo Ch ct ml n fB fS fN fM fCn fE fLE fC fG fI x1 x2).2.2.2.2.2.2.2.2.2.2.2.1) ((F_L_lay sc pa gu cl se R C K fi di br li he dn ea lo Ch ct ml n fB fS fN fM fCn fE fLE fC fG fI x1 x2).2.2.2.2.2.2.2.2.2.2.2.2.1) fK fL fQ fY mlu ((F_X7_lay mR mC mfi mdi mhe mbr mpa mgu msc mcl mse mlo mkm mK mkn mhm mnh mml mn mV x1 x2).2.2.2.2.2.2.2.2.2.2.2.2.2.1) ((F_X7_lay mR mC mfi mdi mhe mbr mpa mgu msc mcl mse mlo mkm mK mkn mhm mnh mml mn mV x1 x2).2.2.2.2.2.2.2.2.2.2.2.2.2.2.2.2.2.2.2.2.2.2.2) ((F_X7_lay mR mC mfi mdi mhe mbr mpa mgu msc mcl mse mlo mkm mK mkn mhm mnh mml mn mV x1 x2).2.2.2.2.2.2.2.2.2.2.2.2.2.2.2.2.2.2.2.2.1) mhf mfY ((F_X7_lay mR mC mfi mdi mhe mbr mpa mgu msc mcl mse mlo mkm mK mkn mhm mnh mml mn mV x1 x2).2.2.2.2.2.2.2.2.2.2.2.2.2.2.2.2.2.2.2.2.2.2.1) := by
  rcases lay_acc x1 x2 with ⟨h0, h1, h2⟩ | ⟨h0, h1 | ⟨h1, h2⟩⟩
  · obtain ⟨a1, a2, -⟩ := in_2 h1
    obtain ⟨b1, b2, -⟩ := in_2 h2
    have hk : x1.toNatClampNeg * x2.toNatClampNeg ≤ 25 := Nat.mul_le_mul a2 b2
    have e1 : lu = mlu := h.1
    unfold F_L_lay F_X7_lay F_X4_lay
    rw [if_pos h0, if_neg (lay4_acc h0).1, if_neg (lay4_acc h0).2, if_neg h1, if_neg h2, e1]
    exact ZQ_new hk _ rfl
  · unfold F_L_lay F_X7_lay
    rw [if_neg h0, if_pos h1]
    exact h
  · unfold F_L_lay F_X7_lay
    rw [if_neg h0, if_neg h1, if_pos h2]
    exact h

theorem mq_lay {sc : Nat} {pa : Int32} {gu : Int32} {cl : Int32} {se : Int32} {R : Nat} {C : Nat} {K : Nat} {fi : Int32} {di : Int32} {br : Int32} {li : Int32} {he : Int32} {dn : Int32} {ea : Int32} {lo : Int32} {Ch : Nat} {ct : Int32} {ml : Int32} {n : Nat} {fB : Nat → Int32} {fS : Nat → Int32} {fN : Nat → Int32} {fM : Nat → Int32} {fCn : Nat → Int32} {fE : Nat → Int32} {fLE : Nat → Int32} {fC : Nat → Int32} {fG : Nat → Int32} {fI : Nat → Int32} {x1 : Int32} {x2 : Int32} {mR : Nat} {mC : Nat} {mfi : Int32} {mdi : Int32} {mhe : Int32} {mbr : Int32} {mpa : Int32} {mgu : Int32} {msc : Nat} {mcl : Int32} {mse : Int32} {mlo : Int32} {mkm : Int32} {mK : Nat} {mkn : Nat} {mhm : Int32} {mnh : Nat} {mml : Int32} {mn : Nat} {mV : Nat → KV}  (h : pa = mpa ∧ gu = mgu ∧ sc = msc ∧ cl = mcl ∧ se = mse) : ((F_L_lay sc pa gu cl se R C K fi di br li he dn ea lo Ch ct ml n fB fS fN fM fCn fE fLE fC fG fI x1 x2).2.2.2.2.2.2.2.2.2.2.2.2.2.2.2.2.2.2.2.2.2.2.2.2.2.2.1) = ((F_X7_lay mR mC mfi mdi mhe mbr mpa mgu msc mcl mse mlo mkm mK mkn mhm mnh mml mn mV x1 x2).2.2.2.2.2.2.2.2.1) ∧ ((F_L_lay sc pa gu cl se R C K fi di br li he dn ea lo Ch ct ml n fB fS fN fM fCn fE fLE fC fG fI x1 x2).2.2.2.2.2.2.2.2.2.2.2.2.2.2.2.2.2.2.2.2.2.2.2.2.2.2.2.1) = ((F_X7_lay mR mC mfi mdi mhe mbr mpa mgu msc mcl mse mlo mkm mK mkn mhm mnh mml mn mV x1 x2).2.2.2.2.2.2.2.2.2.1) ∧ ((F_L_lay sc pa gu cl se R C K fi di br li he dn ea lo Ch ct ml n fB fS fN fM fCn fE fLE fC fG fI x1 x2).2.2.2.2.2.2.2.2.2.2.2.2.2.2.2.2.2.2.2.2.2.2.2.2.2.1) = ((F_X7_lay mR mC mfi mdi mhe mbr mpa mgu msc mcl mse mlo mkm mK mkn mhm mnh mml mn mV x1 x2).2.2.2.2.2.2.2.2.2.2.1) ∧ ((F_L_lay sc pa gu cl se R C K fi di br li he dn ea lo Ch ct ml n fB fS fN fM fCn fE fLE fC fG fI x1 x2).2.2.2.2.2.2.2.2.2.2.2.2.2.2.2.2.2.2.2.2.2.2.2.2.2.2.2.2.1) = ((F_X7_lay mR mC mfi mdi mhe mbr mpa mgu msc mcl mse mlo mkm mK mkn mhm mnh mml mn mV x1 x2).2.2.2.2.2.2.2.2.2.2.2.1) ∧ ((F_L_lay sc pa gu cl se R C K fi di br li he dn ea lo Ch ct ml n fB fS fN fM fCn fE fLE fC fG fI x1 x2).2.2.2.2.2.2.2.2.2.2.2.2.2.2.2.2.2.2.2.2.2.2.2.2.2.2.2.2.2) = ((F_X7_lay mR mC mfi mdi mhe mbr mpa mgu msc mcl mse mlo mkm mK mkn mhm mnh mml mn mV x1 x2).2.2.2.2.2.2.2.2.2.2.2.2.1) := by
  rcases lay_acc x1 x2 with ⟨h0, h1, h2⟩ | ⟨h0, h1 | ⟨h1, h2⟩⟩
  · unfold F_L_lay F_X7_lay
    rw [if_pos h0, if_neg h1, if_neg h2]
    exact ⟨rfl, rfl, rfl, rfl, rfl⟩
  · unfold F_L_lay F_X7_lay
    rw [if_neg h0, if_pos h1]
    exact h
  · unfold F_L_lay F_X7_lay
    rw [if_neg h0, if_neg h1, if_pos h2]
    exact h

theorem mq_pat {pa : Int32} {gu : Int32} {x1 : Int32} {x2 : Int32} {mpa : Int32} {mgu : Int32} {sc : Nat} {msc : Nat} {mcl : Int32} {mse : Int32} {cl : Int32} {se : Int32}  (h : pa = mpa ∧ gu = mgu ∧ sc = msc ∧ cl = mcl ∧ se = mse) : ((F_L_patience pa gu x1 x2).1) = ((F_X7_patience mpa mgu x1 x2).2.2.1) ∧ ((F_L_patience pa gu x1 x2).2) = ((F_X7_patience mpa mgu x1 x2).2.2.2) ∧ sc = msc ∧ cl = mcl ∧ se = mse := by
  have hp : (E_X4_patience x1 = 0 ∧ ¬ F_X7_isIn x1 1 6 = 0) ∨ (¬ E_X4_patience x1 = 0 ∧ F_X7_isIn x1 1 6 = 0) := by
    unfold E_X4_patience F_X7_isIn
    by_cases h1 : x1 < 1
    · rw [if_pos h1, if_pos h1]
      exact Or.inr ⟨by decide, rfl⟩
    · rw [if_neg h1, if_neg h1]
      by_cases h2 : x1 ≤ 6
      · rw [if_pos h2, if_neg (Int32.not_lt.mpr h2)]
        exact Or.inl ⟨rfl, by decide⟩
      · rw [if_neg h2, if_pos (Int32.not_le.mp h2)]
        exact Or.inr ⟨by decide, rfl⟩
  rcases hp with ⟨h0, h1⟩ | ⟨h0, h1⟩
  · have h2 : ¬ x1 < 1 ∧ x1 ≤ 6 := by
      unfold E_X4_patience at h0
      by_cases h3 : x1 < 1
      · rw [if_pos h3] at h0; exact absurd h0 (by decide)
      · rw [if_neg h3] at h0
        by_cases h4 : x1 ≤ 6
        · exact ⟨h3, h4⟩
        · rw [if_neg h4] at h0; exact absurd h0 (by decide)
    unfold F_L_patience F_X4_patience F_X7_patience
    rw [if_pos h0, if_neg h2.1, if_pos h2.2, if_neg h1, if_pos s0_eq]
    exact ⟨rfl, rfl, h.2.2⟩
  · unfold F_L_patience F_X7_patience
    rw [if_neg h0, if_pos h1, if_neg s1_ne]
    exact h

theorem zq_hold {sc : Nat} {K : Nat} {fi : Int32} {he : Int32} {fB : Nat → Int32} {fN : Nat → Int32} {fM : Nat → Int32} {x1 : Int32} {x2 : Int32} {mfi : Int32} {mhe : Int32} {msc : Nat} {mK : Nat} {mV : Nat → KV} {lu : Int32} {dn : Int32} {ea : Int32} {ct : Int32} {lo : Int32} {Ch : Nat} {n : Nat} {fS : Nat → Int32} {fCn : Nat → Int32} {fE : Nat → Int32} {fLE : Nat → Int32} {fC : Nat → Int32} {fG : Nat → Int32} {fI : Nat → Int32} {fK : Nat → Int32} {fL : Nat → Int32} {fQ : Nat → Int32} {fY : Nat → Int32} {mlu : Int32} {mlo : Int32} {mnh : Nat} {mn : Nat} {mhf : Nat → Nat → Int32} {mfY : Nat → Int32} (hs2 : sc ≤ 2000) (hK : K ≤ 25) (h0 : 0 < mK) (hKm : K = mK) (hsm : sc = msc) (hhe : he = mhe) (hfi : fi = mfi) (h : ZQ K sc lu dn ea ct lo Ch n fB fS fN fM fCn fE fLE fC fG fI fK fL fQ fY mlu mlo mnh mn mhf mfY mV) : ZQ K sc lu dn ea ct lo Ch n fB fS ((F_L_hold sc K fi he fB fN fM x1 x2).2.1) ((F_L_hold sc K fi he fB fN fM x1 x2).2.2) fCn fE fLE fC fG fI fK fL fQ fY mlu mlo mnh mn mhf mfY ((F_X7_hold mfi mhe msc mK mV x1 x2).2.2.2) := by
  subst hKm
  subst hsm
  subst hhe
  subst hfi
  rcases hold_acc (fi := fi) (x1 := x1) hK h0 with ⟨g0, g1⟩ | ⟨g1, k, g2, g3, ⟨g0, g4⟩ | ⟨g0, g4⟩⟩
  · have n1 : F_X7_isNoKey K x1 = 1 := (nk_01 K x1).resolve_left g1
    have hs : ¬ (F_X7_start (F_X7_isNoKey K x1) 1).1 = 0 := by rw [n1]; decide
    unfold F_L_hold F_X7_hold
    rw [if_neg g0, if_neg hs]
    exact h
  · have hs : (F_X7_start (F_X7_isNoKey K x1) 1).1 = 0 := by rw [g1]; decide
    unfold F_L_hold F_X7_hold
    rw [if_neg g0, if_pos hs, if_pos g4]
    exact h
  · have hs : (F_X7_start (F_X7_isNoKey K x1) 1).1 = 0 := by rw [g1]; decide
    have hk : ¬ F_X3_hasKey K x1 = 0 ∧ ¬ F_X4_holds fi x1 = 0 := by
      unfold E_X4_hold at g0
      by_cases q1 : F_X3_hasKey K x1 = 0
      · rw [if_pos q1] at g0; exact absurd g0 (by decide)
      · rw [if_neg q1] at g0
        by_cases q2 : F_X4_holds fi x1 = 0
        · rw [if_pos q2] at g0; exact absurd g0 (by decide)
        · exact ⟨q1, q2⟩
    have e1 : x1.toNatClampNeg = k := by rw [g3, nI_clamp (by omega)]
    unfold F_L_hold F_X7_hold F_X4_hold
    rw [if_pos g0, if_neg hk.1, if_neg hk.2, if_pos hs, if_neg g4, e1, g3]
    have q := move_F (k := k) (sc := sc) (he := he) (x2 := x2) hs2 h.2.1
    by_cases h7 : F_X7_has he (nI k) = x2
    · rw [if_pos h7] at q ⊢
      exact ZQ_f q (fun j => keepS_refl _) h
    · rw [if_neg h7] at q ⊢
      exact ZQ_f q touch_S h

theorem zq_key {sc : Nat} {R : Nat} {C : Nat} {K : Nat} {fi : Int32} {di : Int32} {br : Int32} {li : Int32} {he : Int32} {fB : Nat → Int32} {fS : Nat → Int32} {fN : Nat → Int32} {fM : Nat → Int32} {x1 : Int32} {x2 : Int32} {x3 : Int32} {x4 : Int32} {x5 : Int32} {mfi : Int32} {mdi : Int32} {mhe : Int32} {msc : Nat} {mK : Nat} {mV : Nat → KV} {lu : Int32} {dn : Int32} {ea : Int32} {ct : Int32} {lo : Int32} {Ch : Nat} {n : Nat} {fCn : Nat → Int32} {fE : Nat → Int32} {fLE : Nat → Int32} {fC : Nat → Int32} {fG : Nat → Int32} {fI : Nat → Int32} {fK : Nat → Int32} {fL : Nat → Int32} {fQ : Nat → Int32} {fY : Nat → Int32} {mlu : Int32} {mlo : Int32} {mnh : Nat} {mn : Nat} {mhf : Nat → Nat → Int32} {mfY : Nat → Int32} (hs2 : sc ≤ 2000) (hK : K ≤ 25) (h0 : 0 < mK) (hKm : K = mK) (hsm : sc = msc) (hhe : he = mhe) (hfi : fi = mfi) (h : ZQ K sc lu dn ea ct lo Ch n fB fS fN fM fCn fE fLE fC fG fI fK fL fQ fY mlu mlo mnh mn mhf mfY mV) : ZQ K sc lu dn ea ct lo Ch n ((F_L_key sc R C K fi di br li he fB fS fN fM x1 x2 x3 x4 x5).2.2.2.1) ((F_L_key sc R C K fi di br li he fB fS fN fM x1 x2 x3 x4 x5).2.2.2.2.1) ((F_L_key sc R C K fi di br li he fB fS fN fM x1 x2 x3 x4 x5).2.2.2.2.2.2.1) ((F_L_key sc R C K fi di br li he fB fS fN fM x1 x2 x3 x4 x5).2.2.2.2.2.2.2) fCn fE fLE fC fG fI fK fL fQ fY mlu mlo mnh mn mhf mfY ((F_X7_key mfi mdi mhe msc mK mV x1 x2 x3 x4 x5).2.2.2.2.2) := by
  subst hKm
  subst hsm
  subst hhe
  subst hfi
  rcases key_acc (x1 := x1) (x2 := x2) (x4 := x4) (x5 := x5) hK h0 with ⟨g0, g1⟩ | ⟨g1, k, g2, g3, ⟨g0, g4⟩ | ⟨g0, g4, g5⟩⟩
  · have n1 : F_X7_isNoKey K x1 = 1 := (nk_01 K x1).resolve_left g1
    have hs : ¬ (F_X7_start (F_X7_isNoKey K x1) 1).1 = 0 := by rw [n1]; decide
    unfold F_L_key F_X7_key
    rw [if_neg hs, if_neg (show ¬ E_X4_key K x1 x2 x4 x5 = 0 by rw [g0]; decide)]
    exact h
  · have hs : (F_X7_start (F_X7_isNoKey K x1) 1).1 = 0 := by rw [g1]; decide
    unfold F_L_key F_X7_key
    rw [if_pos hs, if_neg (show ¬ E_X4_key K x1 x2 x4 x5 = 0 by rw [g0]; decide)]
    rcases g4 with g4 | ⟨g4, g5⟩
    · rw [if_pos g4]; exact h
    · rw [if_neg g4, if_pos g5]; exact h
  · have hs : (F_X7_start (F_X7_isNoKey K x1) 1).1 = 0 := by rw [g1]; decide
    have e1 : x1.toNatClampNeg = k := by rw [g3, nI_clamp (by omega)]
    have hq := made_F (k := k) (x4 := x4) (stuck3 g5) h.2.1
    have hv := move_F (k := k) (sc := sc) (he := he) (x2 := 0) hs2 hq
    have hc : ¬ F_X3_hasKey K x1 = 0 ∧ ¬ x4 < 0 ∧ ¬ 5 < x4 ∧ ¬ x5 < 0 ∧ x5 ≤ 2 := by
      have q := g0
      unfold E_X4_key at q
      by_cases q1 : F_X3_hasKey K x1 = 0
      · rw [if_pos q1] at q; exact absurd q (by decide)
      · rw [if_neg q1] at q
        by_cases q2 : x4 < 0
        · rw [if_pos q2] at q; exact absurd q (by decide)
        · rw [if_neg q2] at q
          by_cases q3 : 5 < x4
          · rw [if_pos q3] at q; exact absurd q (by decide)
          · rw [if_neg q3] at q
            by_cases q4 : x5 < 0
            · rw [if_pos q4] at q; exact absurd q (by decide)
            · rw [if_neg q4] at q
              by_cases q5 : x5 ≤ 2
              · exact ⟨q1, q2, q3, q4, q5⟩
              · rw [if_neg q5] at q; exact absurd q (by decide)
    obtain ⟨c1, c2, c3, c4, c5⟩ := hc
    unfold F_L_key F_X7_key F_X4_key
    rw [if_pos g0, if_neg c1, if_neg c2, if_neg c3, if_neg c4, if_pos c5, if_pos hs, if_neg g4, if_neg g5, e1]
    by_cases h6 : x2 = 0
    · rw [if_pos h6, if_pos h6, g3]
      by_cases h7 : F_X7_has he (nI k) = 0
      · rw [if_pos h7] at hv ⊢
        exact ZQ_f hv made_S h
      · rw [if_neg h7] at hv ⊢
        exact ZQ_f hv (fun j => keepS_tr (touch_S (he := he) (x2 := 0) j) (made_S j)) h
    · rw [if_neg h6, if_neg h6]
      exact ZQ_f hq made_S h

theorem zq_code {K : Nat} {fC : Nat → Int32} {x1 : Int32} {x2 : Int32} {x3 : Int32} {mK : Nat} {mV : Nat → KV} {sc : Nat} {lu : Int32} {dn : Int32} {ea : Int32} {ct : Int32} {lo : Int32} {Ch : Nat} {n : Nat} {fB : Nat → Int32} {fS : Nat → Int32} {fN : Nat → Int32} {fM : Nat → Int32} {fCn : Nat → Int32} {fE : Nat → Int32} {fLE : Nat → Int32} {fG : Nat → Int32} {fI : Nat → Int32} {fK : Nat → Int32} {fL : Nat → Int32} {fQ : Nat → Int32} {fY : Nat → Int32} {mlu : Int32} {mlo : Int32} {mnh : Nat} {mn : Nat} {mhf : Nat → Nat → Int32} {mfY : Nat → Int32} (hK : K ≤ 25) (h0 : 0 < mK) (hKm : K = mK) (h : ZQ K sc lu dn ea ct lo Ch n fB fS fN fM fCn fE fLE fC fG fI fK fL fQ fY mlu mlo mnh mn mhf mfY mV) : ZQ K sc lu dn ea ct lo Ch n fB fS fN fM fCn fE fLE ((F_L_code K fC x1 x2 x3)) fG fI fK fL fQ fY mlu mlo mnh mn mhf mfY ((F_X7_code mK mV x1 x2 x3).2.2) := by
  subst hKm
  rcases key_iff (x := x2) hK h0 with ⟨a1, a2⟩ | ⟨a1, a2, k, a3, a4⟩
  · have n1 : F_X7_isNoKey K x2 = 1 := (nk_01 K x2).resolve_left a2
    have hs : ¬ (F_X7_start (F_X7_isNoKey K x2) 1).1 = 0 := by rw [n1]; decide
    have he : ¬ E_X4_code K x1 x2 x3 = 0 := by unfold E_X4_code; rw [if_pos a1]; decide
    unfold F_L_code F_X7_code
    rw [if_neg he, if_neg hs]
    exact h
  · have hs : (F_X7_start (F_X7_isNoKey K x2) 1).1 = 0 := by rw [a2]; decide
    unfold F_L_code F_X7_code
    rw [if_pos hs]
    rcases in_iff x1 0 2 with ⟨b1, b2⟩ | ⟨b1, b2, b3⟩
    · have he : ¬ E_X4_code K x1 x2 x3 = 0 := by
        unfold E_X4_code
        rw [if_neg a1]
        rcases b2 with b2 | ⟨b2, b3⟩
        · rw [if_pos b2]; decide
        · have h3 : (3 : Int32) ≤ x1 := by
            rw [Int32.lt_iff_toInt_lt, show (2 : Int32).toInt = 2 from by decide] at b3
            rw [Int32.le_iff_toInt_le, show (3 : Int32).toInt = 3 from by decide]
            omega
          rw [if_neg b2, if_pos h3]; decide
      rw [if_neg he, if_pos b1]
      exact h
    · have h3 : ¬ (3 : Int32) ≤ x1 := fun q => b3 (by
        rw [Int32.le_iff_toInt_le, show (3 : Int32).toInt = 3 from by decide] at q
        rw [Int32.lt_iff_toInt_lt, show (2 : Int32).toInt = 2 from by decide]
        omega)
      rcases in_iff x3 0 31 with ⟨c1, c2⟩ | ⟨c1, c2, c3⟩
      · have he : ¬ E_X4_code K x1 x2 x3 = 0 := by
          unfold E_X4_code
          rw [if_neg a1, if_neg b2, if_neg h3]
          rcases c2 with c2 | ⟨c2, c3⟩
          · rw [if_pos c2]; decide
          · rw [if_neg c2, if_neg (Int32.not_le.mpr c3)]; decide
        rw [if_neg he, if_neg b1, if_pos c1]
        exact h
      · have c4 : x3 ≤ 31 := Int32.not_lt.mp c3
        have he : E_X4_code K x1 x2 x3 = 0 := by
          unfold E_X4_code
          rw [if_neg a1, if_neg b2, if_neg h3, if_neg c2, if_pos c4]
        obtain ⟨l, hl, el⟩ := small (m := 2) (by decide) b2 (Int32.not_lt.mp b3)
        obtain ⟨c, hc, ec⟩ := small (m := 31) (by decide) c2 c4
        have ex : ((x1 * 25) + x2).toNatClampNeg = l * 25 + k := by
          rw [el, a4, show (25 : Int32) = nI 25 from rfl, pk_mul, nI_add, nI_clamp (by omega)]
        have e2 : x2.toNatClampNeg = k := by rw [a4, nI_clamp (by omega)]
        have e1 : x1.toNatClampNeg = l := by rw [el, nI_clamp (by omega)]
        unfold F_X4_code
        rw [if_pos he, if_neg b1, if_neg c1, if_neg a1, if_neg b2, if_neg h3, if_neg c2, if_pos c4, ex, e2, e1, ec]
        exact ZQ_code hK a3 (by omega) hc h

theorem zq_chord {K : Nat} {Ch : Nat} {fK : Nat → Int32} {fL : Nat → Int32} {fQ : Nat → Int32} {x1 : Int32} {x2 : Int32} {mK : Nat} {mhm : Int32} {mnh : Nat} {mhcp : Nat} {mhf : Nat → Nat → Int32} {sc : Nat} {lu : Int32} {dn : Int32} {ea : Int32} {ct : Int32} {lo : Int32} {n : Nat} {fB : Nat → Int32} {fS : Nat → Int32} {fN : Nat → Int32} {fM : Nat → Int32} {fCn : Nat → Int32} {fE : Nat → Int32} {fLE : Nat → Int32} {fC : Nat → Int32} {fG : Nat → Int32} {fI : Nat → Int32} {fY : Nat → Int32} {mlu : Int32} {mlo : Int32} {mn : Nat} {mfY : Nat → Int32} {mV : Nat → KV} (hK : K ≤ 25) (hKm : K = mK) (hs2 : sc ≤ 2000) (h : ZQ K sc lu dn ea ct lo Ch n fB fS fN fM fCn fE fLE fC fG fI fK fL fQ fY mlu mlo mnh mn mhf mfY mV) : ZQ K sc lu dn ea ct lo ((F_L_chord K Ch fK fL fQ x1 x2).2.2.2) n fB fS fN fM fCn fE fLE fC fG fI ((F_L_chord K Ch fK fL fQ x1 x2).1) ((F_L_chord K Ch fK fL fQ x1 x2).2.1) ((F_L_chord K Ch fK fL fQ x1 x2).2.2.1) fY mlu mlo ((F_X7_chord mK mhm mnh mhcp mhf x1 x2).2.2.2.2.2.1) mn ((F_X7_chord mK mhm mnh mhcp mhf x1 x2).2.2.2.2.2.2) mfY mV := by
  subst hKm
  have eC : Ch = mnh := h.2.2.2.2.2.1
  have h6 : mnh ≤ 6 := h.2.2.2.2.2.2.1
  subst eC
  rcases chord_acc (x1 := x1) (x2 := x2) hK h6 with ⟨g0, g1⟩ | ⟨g1, g2, g3, ⟨g0, g4⟩ | ⟨g0, g4⟩⟩
  · unfold F_L_chord F_X7_chord
    rw [if_neg (show ¬ E_X4_chord K Ch x1 x2 = 0 by rw [g0]; decide)]
    rcases g1 with g1 | ⟨g1, g2 | ⟨g2, g3⟩⟩
    · rw [if_neg g1]; exact h
    · rw [if_pos g1, if_pos g2]; exact h
    · rw [if_pos g1, if_neg g2, if_pos g3]; exact h
  · unfold F_L_chord F_X7_chord
    rw [if_neg (show ¬ E_X4_chord K Ch x1 x2 = 0 by rw [g0]; decide), if_pos g1, if_neg g2, if_neg g3, if_pos g4]
    exact h
  · have g5 : Ch ≠ 6 := fun e => g4 (by rw [e]; rfl)
    have hc : ¬ F_X3_isSet K x1 = 0 ∧ ¬ F_J6_bitCount_0f7a4 x1 < 2 ∧ ¬ 3 < F_J6_bitCount_0f7a4 x1 ∧ ¬ x2 < 0 ∧ x2 < 26 ∧ nI Ch < 6 := by
      unfold E_X4_chord at g0
      by_cases q1 : F_X3_isSet K x1 = 0
      · rw [if_pos q1] at g0; exact absurd g0 (by decide)
      · rw [if_neg q1] at g0
        by_cases q2 : F_J6_bitCount_0f7a4 x1 < 2
        · rw [if_pos q2] at g0; exact absurd g0 (by decide)
        · rw [if_neg q2] at g0
          by_cases q3 : 3 < F_J6_bitCount_0f7a4 x1
          · rw [if_pos q3] at g0; exact absurd g0 (by decide)
          · rw [if_neg q3] at g0
            by_cases q4 : x2 < 0
            · rw [if_pos q4] at g0; exact absurd g0 (by decide)
            · rw [if_neg q4] at g0
              by_cases q5 : x2 < 26
              · rw [if_pos q5] at g0
                by_cases q6 : nI Ch < 6
                · exact ⟨q1, q2, q3, q4, q5, q6⟩
                · rw [if_neg q6] at g0; exact absurd g0 (by decide)
              · rw [if_neg q5] at g0; exact absurd g0 (by decide)
    obtain ⟨c1, c2, c3, c4, c5, c6⟩ := hc
    unfold F_L_chord F_X7_chord F_X4_chord F_X1_addChord
    rw [if_pos g0, if_pos g1, if_neg g2, if_neg g3, if_neg g4, if_neg c1, if_neg c2, if_neg c3, if_neg c4, if_pos c5, if_pos c6]
    exact ZQ_chord (x2 := x2) hK hs2 g1 g2 (by omega) h

theorem scans_eq {sc R C K Ch n cap nh mn mcap k : Nat} {pa gu cl se mcl mse fi di li he lu dn ea lo ct ml br mlu mlo mml : Int32} {fY fB fS fN fM fCn fE fLE fC fG fI fK fL fQ mfY : Nat → Int32} {hf : Nat → Nat → Int32} {V : Nat → KV} (hK : K ≤ 25) (hk : sc + k ≤ 2000) (hse : ∀ x, F_X3_seenIf R C fi di li x = F_X7_seenOf R C fi br K x di) (h1 : cl = mcl) (h2 : se = mse) (h : ZQ K sc lu dn ea ct lo Ch n fB fS fN fM fCn fE fLE fC fG fI fK fL fQ fY mlu mlo nh mn hf mfY V) : SCR K sc Ch nh ea fB fS fM fC fK fL k (itr (fun i a => S_X4_scan_53 pa gu R C K fi di li he Ch fS fC fK fL i a) k 0 (sc, cl, se, fN, lu, fCn, fE, fLE, dn, ea, fG, fI, lo, ml, n, cap, fY, fQ, ct)) (itr (fun i a => S_X7_scan_54 R C fi di he br pa gu K nh i a) k 0 (0, sc, mcl, mse, mlu, mlo, V, mml, mn, mcap, mfY, hf)) := by
  have q := itr_sim (SCR K sc Ch nh ea fB fS fM fC fK fL) k 0 (sc, cl, se, fN, lu, fCn, fE, fLE, dn, ea, fG, fI, lo, ml, n, cap, fY, fQ, ct) (0, sc, mcl, mse, mlu, mlo, V, mml, mn, mcap, mfY, hf) (fun i a b _ hi h => scn_step (pa := pa) (gu := gu) (he := he) hK (by omega) hse a b h) ⟨rfl, rfl, h1, h2, h, (Int32.add_zero ea).symm⟩
  rw [Nat.zero_add] at q
  exact q
theorem scan_acc {sc : Nat} {x1 : Int32} (hs : sc ≤ 2000) : (¬ E_X4_scan sc x1 = 0 ∧ E_X4_scan sc x1 = 1 ∧ F_X7_isIn x1 1 50 = 0) ∨ (¬ F_X7_isIn x1 1 50 = 0 ∧ ((¬ E_X4_scan sc x1 = 0 ∧ E_X4_scan sc x1 = 3 ∧ ¬ (nI sc) + x1 ≤ 2000) ∨ (E_X4_scan sc x1 = 0 ∧ (nI sc) + x1 ≤ 2000 ∧ ¬ x1 < 1 ∧ x1 ≤ 50 ∧ ∃ k, x1 = nI k ∧ x1.toNatClampNeg = k ∧ sc + k ≤ 2000))) := by
  unfold E_X4_scan
  rcases in_iff x1 1 50 with ⟨b1, b2 | ⟨b2, b3⟩⟩ | ⟨b1, b2, b3⟩
  · rw [if_pos b2]; exact Or.inl ⟨by decide, rfl, b1⟩
  · rw [if_neg b2, if_neg (Int32.not_le.mpr b3)]; exact Or.inl ⟨by decide, rfl, b1⟩
  · have h4 : x1 ≤ 50 := Int32.not_lt.mp b3
    rw [if_neg b2, if_pos h4]
    refine Or.inr ⟨b1, ?_⟩
    by_cases h5 : (nI sc) + x1 ≤ 2000
    · rw [if_pos h5]
      have h0 : ¬ x1 < 0 := fun q => b2 (by
        rw [Int32.lt_iff_toInt_lt] at q ⊢
        rw [show (0 : Int32).toInt = 0 from by decide] at q
        rw [show (1 : Int32).toInt = 1 from by decide]
        omega)
      obtain ⟨k, hk, ek⟩ := small (m := 50) (by decide) h0 h4
      refine Or.inr ⟨rfl, h5, b2, h4, k, ek, by rw [ek, nI_clamp (by omega)], ?_⟩
      rw [ek, nI_add] at h5
      exact (nI_leI (show sc + k < 2 ^ 31 by omega) (show 2000 < 2 ^ 31 by decide)).mp h5
    · rw [if_neg h5]; exact Or.inl ⟨by decide, rfl, h5⟩
theorem sc1_ne : ¬ (F_X7_refuse ((F_X7_start 0 1).2) 1 2).1 = 0 := by decide
theorem sc0_eq : (F_X7_refuse ((F_X7_start 0 1).2) 0 2).1 = 0 := by decide

theorem zq_scan {sc : Nat} {pa : Int32} {gu : Int32} {cl : Int32} {se : Int32} {R : Nat} {C : Nat} {K : Nat} {fi : Int32} {di : Int32} {li : Int32} {he : Int32} {lu : Int32} {dn : Int32} {ea : Int32} {lo : Int32} {Ch : Nat} {ct : Int32} {ml : Int32} {n : Nat} {cap : Nat} {fY : Nat → Int32} {fS : Nat → Int32} {fN : Nat → Int32} {fCn : Nat → Int32} {fE : Nat → Int32} {fLE : Nat → Int32} {fC : Nat → Int32} {fG : Nat → Int32} {fI : Nat → Int32} {fK : Nat → Int32} {fL : Nat → Int32} {fQ : Nat → Int32} {x1 : Int32} {mR : Nat} {mC : Nat} {mfi : Int32} {mdi : Int32} {mhe : Int32} {mbr : Int32} {mpa : Int32} {mgu : Int32} {msc : Nat} {mcl : Int32} {mse : Int32} {mlo : Int32} {mlu : Int32} {mK : Nat} {mnh : Nat} {mhf : Nat → Nat → Int32} {mml : Int32} {mn : Nat} {mcap : Nat} {mfY : Nat → Int32} {mV : Nat → KV} {fB : Nat → Int32} {fM : Nat → Int32} {br : Int32} (hK : K ≤ 25) (hR : R ≤ 5) (hC : C ≤ 5) (h0 : 0 < mC) (hRC : mR * mC = mK) (hs : sc ≤ 2000) (hw : WQ R C K mR mC mK fi di br li mfi mdi mbr) (hm : pa = mpa ∧ gu = mgu ∧ sc = msc ∧ cl = mcl ∧ se = mse) (hhe : he = mhe) (hz : ZQ K sc lu dn ea ct lo Ch n fB fS fN fM fCn fE fLE fC fG fI fK fL fQ fY mlu mlo mnh mn mhf mfY mV) : ZQ K ((F_L_scan sc pa gu cl se R C K fi di li he lu dn ea lo Ch ct ml n cap fY fS fN fCn fE fLE fC fG fI fK fL fQ x1).1) ((F_L_scan sc pa gu cl se R C K fi di li he lu dn ea lo Ch ct ml n cap fY fS fN fCn fE fLE fC fG fI fK fL fQ x1).2.2.2.2.1) ((F_L_scan sc pa gu cl se R C K fi di li he lu dn ea lo Ch ct ml n cap fY fS fN fCn fE fLE fC fG fI fK fL fQ x1).2.2.2.2.2.2.2.2.1) ((F_L_scan sc pa gu cl se R C K fi di li he lu dn ea lo Ch ct ml n cap fY fS fN fCn fE fLE fC fG fI fK fL fQ x1).2.2.2.2.2.2.2.2.2.1) ((F_L_scan sc pa gu cl se R C K fi di li he lu dn ea lo Ch ct ml n cap fY fS fN fCn fE fLE fC fG fI fK fL fQ x1).2.2.2.2.2.2.2.2.2.2.2.2.2.2.2.2.2.2) ((F_L_scan sc pa gu cl se R C K fi di li he lu dn ea lo Ch ct ml n cap fY fS fN fCn fE fLE fC fG fI fK fL fQ x1).2.2.2.2.2.2.2.2.2.2.2.2.1) Ch ((F_L_scan sc pa gu cl se R C K fi di li he lu dn ea lo Ch ct ml n cap fY fS fN fCn fE fLE fC fG fI fK fL fQ x1).2.2.2.2.2.2.2.2.2.2.2.2.2.2.1) fB fS ((F_L_scan sc pa gu cl se R C K fi di li he lu dn ea lo Ch ct ml n cap fY fS fN fCn fE fLE fC fG fI fK fL fQ x1).2.2.2.1) fM ((F_L_scan sc pa gu cl se R C K fi di li he lu dn ea lo Ch ct ml n cap fY fS fN fCn fE fLE fC fG fI fK fL fQ x1).2.2.2.2.2.1) ((F_L_scan sc pa gu cl se R C K fi di li he lu dn ea lo Ch ct ml n cap fY fS fN fCn fE fLE fC fG fI fK fL fQ x1).2.2.2.2.2.2.1) ((F_L_scan sc pa gu cl se R C K fi di li he lu dn ea lo Ch ct ml n cap fY fS fN fCn fE fLE fC fG fI fK fL fQ x1).2.2.2.2.2.2.2.1) fC ((F_L_scan sc pa gu cl se R C K fi di li he lu dn ea lo Ch ct ml n cap fY fS fN fCn fE fLE fC fG fI fK fL fQ x1).2.2.2.2.2.2.2.2.2.2.1) ((F_L_scan sc pa gu cl se R C K fi di li he lu dn ea lo Ch ct ml n cap fY fS fN fCn fE fLE fC fG fI fK fL fQ x1).2.2.2.2.2.2.2.2.2.2.2.1) fK fL ((F_L_scan sc pa gu cl se R C K fi di li he lu dn ea lo Ch ct ml n cap fY fS fN fCn fE fLE fC fG fI fK fL fQ x1).2.2.2.2.2.2.2.2.2.2.2.2.2.2.2.2.2.1) ((F_L_scan sc pa gu cl se R C K fi di li he lu dn ea lo Ch ct ml n cap fY fS fN fCn fE fLE fC fG fI fK fL fQ x1).2.2.2.2.2.2.2.2.2.2.2.2.2.2.2.2.1) ((F_X7_scan mR mC mfi mdi mhe mbr mpa mgu msc mcl mse mlo mlu mK mnh mhf mml mn mcap mfY mV x1).2.2.2.2.2.1) ((F_X7_scan mR mC mfi mdi mhe mbr mpa mgu msc mcl mse mlo mlu mK mnh mhf mml mn mcap mfY mV x1).2.2.2.2.2.2.1) mnh ((F_X7_scan mR mC mfi mdi mhe mbr mpa mgu msc mcl mse mlo mlu mK mnh mhf mml mn mcap mfY mV x1).2.2.2.2.2.2.2.2.2.1) ((F_X7_scan mR mC mfi mdi mhe mbr mpa mgu msc mcl mse mlo mlu mK mnh mhf mml mn mcap mfY mV x1).2.2.2.2.2.2.2.2.2.2.2.2) ((F_X7_scan mR mC mfi mdi mhe mbr mpa mgu msc mcl mse mlo mlu mK mnh mhf mml mn mcap mfY mV x1).2.2.2.2.2.2.2.2.2.2.2.1) ((F_X7_scan mR mC mfi mdi mhe mbr mpa mgu msc mcl mse mlo mlu mK mnh mhf mml mn mcap mfY mV x1).2.2.2.2.2.2.2.1) := by
  have hse : ∀ x, F_X3_seenIf R C fi di li x = F_X7_seenOf mR mC mfi mbr mK x mdi := fun x => seen_w (x1 := x) hR hC h0 hRC hw
  have h := hz
  obtain ⟨e1, e2, e3, e4, e5, e6, -, -⟩ := hw
  subst e1
  subst e2
  subst e3
  subst e4
  subst e5
  subst e6
  obtain ⟨m1, m2, m3, m4, m5⟩ := hm
  subst m1
  subst m2
  subst m3
  subst hhe
  rcases scan_acc (x1 := x1) hs with ⟨g0, -, g1⟩ | ⟨g1, ⟨g0, -, g2⟩ | ⟨g0, g2, g3, g4, k, -, g5, g6⟩⟩
  · unfold F_L_scan F_X7_scan
    rw [if_neg g0, if_pos g1, if_neg s1_ne]
    first | exact h | (split <;> exact h)
  · unfold F_L_scan F_X7_scan
    rw [if_neg g0, if_neg g1, if_neg g2, if_pos s0_eq, if_neg sc1_ne]
    first | exact h | (split <;> exact h)
  · have q := scans_eq (pa := pa) (gu := gu) (he := he) (ml := ml) (cap := cap) (mml := mml) (mcap := mcap) hK g6 hse m4 m5 hz
    unfold F_L_scan F_X7_scan F_X4_scan
    rw [if_pos g0, if_neg g1, if_neg g3, if_pos g4, if_pos g2, if_pos g2, if_pos s0_eq, if_pos sc0_eq, g5]
    obtain ⟨q1, q2, q3, q4, q5, q6⟩ := q
    rw [← q1] at q5
    exact q5

theorem mq_scan {sc : Nat} {pa : Int32} {gu : Int32} {cl : Int32} {se : Int32} {R : Nat} {C : Nat} {K : Nat} {fi : Int32} {di : Int32} {li : Int32} {he : Int32} {lu : Int32} {dn : Int32} {ea : Int32} {lo : Int32} {Ch : Nat} {ct : Int32} {ml : Int32} {n : Nat} {cap : Nat} {fY : Nat → Int32} {fS : Nat → Int32} {fN : Nat → Int32} {fCn : Nat → Int32} {fE : Nat → Int32} {fLE : Nat → Int32} {fC : Nat → Int32} {fG : Nat → Int32} {fI : Nat → Int32} {fK : Nat → Int32} {fL : Nat → Int32} {fQ : Nat → Int32} {x1 : Int32} {mR : Nat} {mC : Nat} {mfi : Int32} {mdi : Int32} {mhe : Int32} {mbr : Int32} {mpa : Int32} {mgu : Int32} {msc : Nat} {mcl : Int32} {mse : Int32} {mlo : Int32} {mlu : Int32} {mK : Nat} {mnh : Nat} {mhf : Nat → Nat → Int32} {mml : Int32} {mn : Nat} {mcap : Nat} {mfY : Nat → Int32} {mV : Nat → KV} {fB : Nat → Int32} {fM : Nat → Int32} {br : Int32} (hK : K ≤ 25) (hR : R ≤ 5) (hC : C ≤ 5) (h0 : 0 < mC) (hRC : mR * mC = mK) (hs : sc ≤ 2000) (hw : WQ R C K mR mC mK fi di br li mfi mdi mbr) (hm : pa = mpa ∧ gu = mgu ∧ sc = msc ∧ cl = mcl ∧ se = mse) (hhe : he = mhe) (hz : ZQ K sc lu dn ea ct lo Ch n fB fS fN fM fCn fE fLE fC fG fI fK fL fQ fY mlu mlo mnh mn mhf mfY mV) : pa = mpa ∧ gu = mgu ∧ ((F_L_scan sc pa gu cl se R C K fi di li he lu dn ea lo Ch ct ml n cap fY fS fN fCn fE fLE fC fG fI fK fL fQ x1).1) = ((F_X7_scan mR mC mfi mdi mhe mbr mpa mgu msc mcl mse mlo mlu mK mnh mhf mml mn mcap mfY mV x1).2.2.1) ∧ ((F_L_scan sc pa gu cl se R C K fi di li he lu dn ea lo Ch ct ml n cap fY fS fN fCn fE fLE fC fG fI fK fL fQ x1).2.1) = ((F_X7_scan mR mC mfi mdi mhe mbr mpa mgu msc mcl mse mlo mlu mK mnh mhf mml mn mcap mfY mV x1).2.2.2.1) ∧ ((F_L_scan sc pa gu cl se R C K fi di li he lu dn ea lo Ch ct ml n cap fY fS fN fCn fE fLE fC fG fI fK fL fQ x1).2.2.1) = ((F_X7_scan mR mC mfi mdi mhe mbr mpa mgu msc mcl mse mlo mlu mK mnh mhf mml mn mcap mfY mV x1).2.2.2.2.1) := by
  have hse : ∀ x, F_X3_seenIf R C fi di li x = F_X7_seenOf mR mC mfi mbr mK x mdi := fun x => seen_w (x1 := x) hR hC h0 hRC hw
  have h := hm
  obtain ⟨e1, e2, e3, e4, e5, e6, -, -⟩ := hw
  subst e1
  subst e2
  subst e3
  subst e4
  subst e5
  subst e6
  obtain ⟨m1, m2, m3, m4, m5⟩ := hm
  subst m1
  subst m2
  subst m3
  subst hhe
  rcases scan_acc (x1 := x1) hs with ⟨g0, -, g1⟩ | ⟨g1, ⟨g0, -, g2⟩ | ⟨g0, g2, g3, g4, k, -, g5, g6⟩⟩
  · unfold F_L_scan F_X7_scan
    rw [if_neg g0, if_pos g1, if_neg s1_ne]
    first | exact h | (split <;> exact h)
  · unfold F_L_scan F_X7_scan
    rw [if_neg g0, if_neg g1, if_neg g2, if_pos s0_eq, if_neg sc1_ne]
    first | exact h | (split <;> exact h)
  · have q := scans_eq (pa := pa) (gu := gu) (he := he) (ml := ml) (cap := cap) (mml := mml) (mcap := mcap) hK g6 hse m4 m5 hz
    unfold F_L_scan F_X7_scan F_X4_scan
    rw [if_pos g0, if_neg g1, if_neg g3, if_pos g4, if_pos g2, if_pos g2, if_pos s0_eq, if_pos sc0_eq, g5]
    obtain ⟨q1, q2, q3, q4, q5, q6⟩ := q
    exact ⟨rfl, rfl, q1.trans q2.symm, q3, q4⟩

theorem brq_lay {sc : Nat} {pa : Int32} {gu : Int32} {cl : Int32} {se : Int32} {R : Nat} {C : Nat} {K : Nat} {fi : Int32} {di : Int32} {br : Int32} {li : Int32} {he : Int32} {dn : Int32} {ea : Int32} {lo : Int32} {Ch : Nat} {ct : Int32} {ml : Int32} {n : Nat} {fB : Nat → Int32} {fS : Nat → Int32} {fN : Nat → Int32} {fM : Nat → Int32} {fCn : Nat → Int32} {fE : Nat → Int32} {fLE : Nat → Int32} {fC : Nat → Int32} {fG : Nat → Int32} {fI : Nat → Int32} {x1 : Int32} {x2 : Int32} (h : ∃ b, b < 2 ^ 25 ∧ br = nI b) : ∃ b, b < 2 ^ 25 ∧ (F_L_lay sc pa gu cl se R C K fi di br li he dn ea lo Ch ct ml n fB fS fN fM fCn fE fLE fC fG fI x1 x2).2.2.2.2.2.2.2.2.2.2.2.2.2.2.2.2.2.2.2.2.2.2.2.1 = nI b := by
  rcases lay_acc x1 x2 with ⟨h0, h1, h2⟩ | ⟨h0, -⟩
  · refine ⟨0, by decide, ?_⟩
    unfold F_L_lay
    rw [if_pos h0]
    rfl
  · unfold F_L_lay
    rw [if_neg h0]
    exact h

theorem brq_line {R : Nat} {C : Nat} {fi : Int32} {br : Int32} {li : Int32} {x1 : Int32} {x2 : Int32} (hR : R ≤ 5) (hC : C ≤ 5) (h : ∃ b, b < 2 ^ 25 ∧ br = nI b) : ∃ b, b < 2 ^ 25 ∧ (F_L_line R C fi br li x1 x2).1 = nI b := by
  by_cases g0 : E_X4_line R C x1 = 0
  · have l4 : (F_X4_line R C fi br li x1 x2).2.1 = F_X7_with br x1 x2 ∧ ∃ k, k < 25 ∧ x1 = nI k := by
      have h := g0
      unfold E_X4_line at h
      unfold F_X4_line
      by_cases h1 : x1 < 0
      · rw [if_pos h1] at h; exact absurd h (by decide)
      · rw [if_neg h1] at h ⊢
        by_cases h2 : x1 < nI R + nI C
        · rw [if_pos h2]
          refine ⟨brk_w.1, ?_⟩
          obtain ⟨j, hj, rfl⟩ := nI_of h1
          rw [nI_add, Int32.lt_iff_toInt_lt, nI_toInt hj, nI_toInt (by omega)] at h2
          exact ⟨j, by omega, rfl⟩
        · rw [if_neg h2] at h; exact absurd h (by decide)
    obtain ⟨l5, k, hk, ek⟩ := l4
    unfold F_L_line
    rw [if_pos g0]
    dsimp only
    rw [l5, ek]
    exact with25 h hk
  · unfold F_L_line
    rw [if_neg g0]
    exact h

section
variable {R C K : Nat} {fi di li br : Int32}
/-- the board is clear, both sides -/
theorem clear_L (hse : ∀ x, F_X3_seenIf R C fi di li x = F_X7_seenOf R C fi br K x di) : ∀ n i, i + n ≤ 32 → L_X3_isClear_2 R C fi di li n i () = L_X7_isClear_2 R C fi di br K n i ()
  | 0, _, _ => rfl
  | n + 1, i, h => by
    have ih := clear_L hse n (i + 1) (by omega)
    show (if (F_X4_holds (F_X3_seenIf R C fi di li (fi &&& (((1 : Int32) <<< ((nI i) &&& 31)) ^^^ (-1)))) (nI i)) = 0 then L_X3_isClear_2 R C fi di li n (i + 1) () else 0) = (if (F_X7_has fi (nI i)) = 0 then L_X7_isClear_2 R C fi di br K n (i + 1) () else (if (F_X7_has (F_X7_seenOf R C fi br K (fi &&& (((1 : Int32) <<< ((nI i) &&& 31)) ^^^ (-1))) di) (nI i)) = 0 then L_X7_isClear_2 R C fi di br K n (i + 1) () else 0))
    rw [ih]
    by_cases h1 : F_X7_has fi (nI i) = 0
    · rw [if_pos h1, if_pos]
      refine (holds_iff (by omega)).mpr ?_
      unfold F_X3_seenIf
      rw [bt_and, (has_iff (by omega)).mp h1, Bool.and_false]
    · rw [if_neg h1, hse]
      rfl
theorem clear_eq (hK : K ≤ 25) (hse : ∀ x, F_X3_seenIf R C fi di li x = F_X7_seenOf R C fi br K x di) : F_X3_isClear R C K fi di li = F_X7_isClear R C fi di br K := clear_L hse K 0 (by omega)
theorem exact_eq (hse : ∀ x, F_X3_seenIf R C fi di li x = F_X7_seenOf R C fi br K x di) (x : Int32) : F_X3_isExact R C fi di li x = F_X7_isExact R C fi br K x di := by
  unfold F_X3_isExact F_X7_isExact
  rw [hse]
theorem exact_one {s : Int32} {i : Nat} (hi : i < 32) (h : s &&& (((1 : Int32) <<< ((nI i) &&& 31)) ^^^ (-1)) = 0) : s = (1 : Int32) <<< ((nI i) &&& 31) ↔ ¬ F_X7_has s (nI i) = 0 := by
  constructor
  · intro e h2
    have h3 := (has_iff hi).mp h2
    rw [e, bt_bit hi hi] at h3
    simp at h3
  · intro h2
    have h3 : bt s i = true := by
      cases e : bt s i with
      | true => rfl
      | false => exact absurd ((has_iff hi).mpr e) h2
    refine bt_ext (fun j hj => ?_)
    have h4 := bt_zero.mp h j hj
    rw [bt_and, bt_not _ hj, bt_bit hi hj] at h4
    rw [bt_bit hi hj]
    by_cases e : j = i
    · subst e; rw [h3]; simp
    · rw [decide_eq_false e] at h4 ⊢
      simpa using h4
/-- what holds at all times, both sides -/
theorem sound_L (hK : K ≤ 25) (hse : ∀ x, F_X3_seenIf R C fi di li x = F_X7_seenOf R C fi br K x di) (hli : li = F_X7_able R C fi br K) (hle : F_X3_leastKeys R C K li di = F_X7_leastOf R C fi br K di) : ∀ n i, i + n ≤ 32 → L_X7_isWhole_35 R C fi di br K n i () = if L_X3_keysAloneAreSound_2 R C fi di li n i () = 0 then 0 else F_X3_leastIsSound R C K fi di li
  | 0, i, _ => by
    show (if (F_X7_isClear R C fi di br K) = 0 then (if (F_X7_leastOf R C fi br K di) < 3 then 0 else (if ((F_X7_leastOf R C fi br K di) - (F_X7_leastOf R C fi br K di) / 2 * 2) = 1 then 1 else 0)) else (if (F_X7_leastOf R C fi br K di) = (-1) then (if (F_X7_isExact R C fi br K fi di) = 0 then 0 else 1) else 0)) = if (1 : Int32) = 0 then 0 else F_X3_leastIsSound R C K fi di li
    unfold F_X3_leastIsSound
    rw [if_neg (show ¬ (1 : Int32) = 0 by decide), clear_eq hK hse, hle, exact_eq hse]
  | n + 1, i, h => by
    have ih := sound_L hK hse hli hle n (i + 1) (by omega)
    show (if (F_X7_has fi (nI i)) = 0 then L_X7_isWhole_35 R C fi di br K n (i + 1) () else (if (F_X7_isExact R C fi br K ((1 : Int32) <<< ((nI i) &&& 31)) di) = 0 then 0 else (if (F_X7_has (F_X7_able R C fi br K) (nI i)) = 0 then L_X7_isWhole_35 R C fi di br K n (i + 1) () else (if (F_X7_has (F_X7_seenOf R C fi br K ((1 : Int32) <<< ((nI i) &&& 31)) di) (nI i)) = 0 then 0 else L_X7_isWhole_35 R C fi di br K n (i + 1) ())))) = if (if (F_X3_seenIf R C fi di li ((1 : Int32) <<< ((nI i) &&& 31))) = ((1 : Int32) <<< ((nI i) &&& 31)) then (if (F_X4_holds fi (nI i)) = 0 then L_X3_keysAloneAreSound_2 R C fi di li n (i + 1) () else (if (F_X3_isExact R C fi di li ((1 : Int32) <<< ((nI i) &&& 31))) = 0 then 0 else (if (F_X4_holds li (nI i)) = 0 then L_X3_keysAloneAreSound_2 R C fi di li n (i + 1) () else L_X3_keysAloneAreSound_2 R C fi di li n (i + 1) ()))) else (if (F_X4_holds fi (nI i)) = 0 then L_X3_keysAloneAreSound_2 R C fi di li n (i + 1) () else (if (F_X3_isExact R C fi di li ((1 : Int32) <<< ((nI i) &&& 31))) = 0 then 0 else (if (F_X4_holds li (nI i)) = 0 then L_X3_keysAloneAreSound_2 R C fi di li n (i + 1) () else 0)))) = 0 then 0 else F_X3_leastIsSound R C K fi di li
    rw [ih, exact_eq hse, hse, ← hli, show F_X4_holds fi (nI i) = F_X7_has fi (nI i) from rfl, show F_X4_holds li (nI i) = F_X7_has li (nI i) from rfl]
    generalize hu : L_X3_keysAloneAreSound_2 R C fi di li n (i + 1) () = u
    by_cases h1 : F_X7_has fi (nI i) = 0
    · rw [if_pos h1, if_pos h1, if_pos h1, ite_self]
    · rw [if_neg h1, if_neg h1, if_neg h1]
      by_cases h2 : F_X7_isExact R C fi br K ((1 : Int32) <<< ((nI i) &&& 31)) di = 0
      · rw [if_pos h2, if_pos h2, if_pos h2, ite_self, if_pos rfl]
      · rw [if_neg h2, if_neg h2, if_neg h2]
        by_cases h3 : F_X7_has li (nI i) = 0
        · rw [if_pos h3, if_pos h3, if_pos h3, ite_self]
        · rw [if_neg h3, if_neg h3, if_neg h3]
          have h4 : (F_X7_seenOf R C fi br K ((1 : Int32) <<< ((nI i) &&& 31)) di) &&& (((1 : Int32) <<< ((nI i) &&& 31)) ^^^ (-1)) = 0 := by
            unfold F_X7_isExact at h2
            by_cases e : (F_X7_seenOf R C fi br K ((1 : Int32) <<< ((nI i) &&& 31)) di) &&& (((1 : Int32) <<< ((nI i) &&& 31)) ^^^ (-1)) = 0
            · exact e
            · rw [if_neg e] at h2; exact absurd rfl h2
          have h5 := exact_one (i := i) (by omega) h4
          by_cases h6 : F_X7_has (F_X7_seenOf R C fi br K ((1 : Int32) <<< ((nI i) &&& 31)) di) (nI i) = 0
          · rw [if_pos h6, if_neg (fun e => h5.mp e h6), if_pos rfl]
          · rw [if_neg h6, if_pos (h5.mpr h6)]
end
theorem n60_le {n : Nat} (h : n ≤ 60) : nI n ≤ 60 ∧ ¬ (60 : Int32) < nI n := by
  have h1 : nI n ≤ nI 60 := nI_le h (by decide)
  exact ⟨h1, fun h2 => absurd h1 (Int32.not_le.mpr h2)⟩
/-- isSound, both sides -/
theorem sound_eq {R C K : Nat} {fi di li he br : Int32} {n n2 : Nat} (hK : K ≤ 25) (hse : ∀ x, F_X3_seenIf R C fi di li x = F_X7_seenOf R C fi br K x di) (hli : li = F_X7_able R C fi br K) (hle : F_X3_leastKeys R C K li di = F_X7_leastOf R C fi br K di) (hn : n ≤ 60) (hn2 : n2 ≤ 60) : F_X4_isSound R C K fi di li he n = F_X7_isWhole R C fi di he br K n2 := by
  unfold F_X4_isSound F_X7_isWhole
  rw [if_neg (n60_le hn).2, if_pos (n60_le hn2).1, if_neg (n60_le hn).2]
  by_cases h1 : he &&& (fi ^^^ (-1)) = 0
  · rw [if_pos h1, if_pos h1, sound_L hK hse hli hle K 0 (by omega)]
    show (if F_X3_keysAloneAreSound R C K fi di li = 0 then (0 : Int32) else (if F_X3_leastIsSound R C K fi di li = 0 then 0 else 1)) = if F_X3_keysAloneAreSound R C K fi di li = 0 then 0 else F_X3_leastIsSound R C K fi di li
    by_cases h2 : F_X3_keysAloneAreSound R C K fi di li = 0
    · rw [if_pos h2, if_pos h2]
    · rw [if_neg h2, if_neg h2]
      have h01 : F_X3_leastIsSound R C K fi di li = 0 ∨ F_X3_leastIsSound R C K fi di li = 1 := by
        unfold F_X3_leastIsSound
        (repeat' split) <;> first | exact Or.inl rfl | exact Or.inr rfl
      rcases h01 with e | e
      · rw [e]; rfl
      · rw [e]; rfl
  · rw [if_neg h1, if_neg h1]

theorem lag_eq {K T k : Nat} {fB fS fN fM fC : Nat → Int32} {cn e le g s : Int32} {V : Nat → KV} (hT : T ≤ 2000) (hk : k < K) (hF : FQ K fB fS fN fM V) (hq : KQ T fC k cn e le g s (V k)) {fLE : Nat → Int32} (hl : fLE k = le) : F_X4_lagOf fM fLE k = F_X6_lag (kto (V k)) (kne (V k)) (kev (V k)) := by
  obtain ⟨-, -, -, f4, -, f6⟩ := hF k hk
  obtain ⟨-, -, q3, -, -, -, q7, q8⟩ := hq
  unfold F_X4_lagOf F_X6_lag
  rw [hl, f4, q3]
  rcases f6 with h | ⟨u, u1, h⟩
  · rw [if_pos h, if_pos h]
  · have hn : ¬ kto (V k) = -1 := fun q => by
      rw [h] at q
      have q3 := congrArg Int32.toInt q
      rw [nI_toInt (by omega), show (-1 : Int32).toInt = -1 from by decide] at q3
      omega
    rw [if_neg hn, if_neg hn, h]
    by_cases h0 : kne (V k) = 0
    · have e1 : lst (V k) = nI 0 := by unfold lst; rw [if_pos h0]; rfl
      have e2 : F_X6_last (kne (V k)) (kev (V k)) = -1 := by
        unfold F_X6_last F_Jx4a65c_isEmpty_aae02
        rw [h0]
        rfl
      rw [e1, e2, if_pos (nI_le (Nat.zero_le _) (by omega)), if_neg]
      rw [Int32.lt_iff_toInt_lt, show (-1 : Int32) - nI u = nI 0 - nI (u + 1) from ?_, pk_sub_toInt (by omega) (by omega), show (0 : Int32).toInt = 0 from by decide]
      · omega
      · rw [← nI_1 u, nI_0, Int32.zero_sub, Int32.neg_add, Int32.sub_eq_add_neg, Int32.add_comm]
        exact (Int32.sub_eq_add_neg _ _).symm
    · obtain ⟨t, t1, t2, t3⟩ := q8 h0
      have e1 : lst (V k) = nI t := by unfold lst; rw [if_neg h0]; exact t3
      have e2 : F_X6_last (kne (V k)) (kev (V k)) = nI t := by
        unfold F_X6_last F_Jx4a65c_isEmpty_aae02 F_J6_intValue_8abf5
        rw [if_neg (show ¬ nI (kne (V k)) = 0 from nI_ne0 (by omega) (by omega)), if_pos rfl]
        exact t3
      have h9 : (0 : Int32) < nI t - nI u ↔ u < t := by
        rw [Int32.lt_iff_toInt_lt, pk_sub_toInt (by omega) (by omega), show (0 : Int32).toInt = 0 from by decide]
        omega
      rw [e1, e2]
      by_cases h8 : t ≤ u
      · rw [if_pos (nI_le h8 (by omega)), if_neg (fun q => by have := h9.mp q; omega)]
      · rw [if_neg (nI_ge (by omega) (by omega)), if_pos (h9.mpr (by omega))]
/-- what is told of a key, both sides -/
theorem tellOf_eq {K T k w : Nat} {fi di he dn : Int32} {fB fS fN fM fC fCn fE fLE fG fI : Nat → Int32} {V : Nat → KV} (hK : K ≤ 25) (hT : T ≤ 2000) (hk : k < K) (hw : w ≤ 10) (hF : FQ K fB fS fN fM V) (hS : SQ K T fC fCn fE fLE dn fG fI V) : F_X4_tellOf fi di he dn fB fS fN fM fCn fE fLE fG k w = F_X7_keyTold fi di he V k w := by
  have hq := hS.2.2.1 k hk
  have hl := lag_eq hT hk hF hq rfl
  obtain ⟨q1, q2, q3, q4, -, -, q7, -⟩ := hq
  obtain ⟨f1, f2, f3, -, -, -⟩ := hF k hk
  have hb : kne (V k) < 2 ^ 31 := by omega
  have hd : F_X4_holds dn (nI k) = F_X6_isDown (kne (V k)) := by rw [holds_bt (by omega), down_dwn hb, hS.1 k hk]
  unfold F_X4_tellOf F_X7_keyTold
  rw [hd, hl, f1, f2, f3, q1, q2, q4, down_dwn hb]
  have hw2 : w = 0 ∨ w = 1 ∨ w = 2 ∨ w = 3 ∨ w = 4 ∨ w = 5 ∨ w = 6 ∨ w = 7 ∨ w = 8 ∨ w = 9 ∨ w = 10 := by omega
  cases dwn (V k)
  · rw [show (if false = true then (1 : Int32) else 0) = 0 from rfl, show (if false = true then kgo (V k) else (-1 : Int32)) = -1 from rfl, if_pos (show (0 : Int32) = 0 from rfl)]
    rcases hw2 with rfl | rfl | rfl | rfl | rfl | rfl | rfl | rfl | rfl | rfl | rfl <;> rfl
  · rw [show (if true = true then (1 : Int32) else 0) = 1 from rfl, show (if true = true then kgo (V k) else (-1 : Int32)) = kgo (V k) from rfl, if_neg (show ¬ (1 : Int32) = 0 by decide)]
    rcases hw2 with rfl | rfl | rfl | rfl | rfl | rfl | rfl | rfl | rfl | rfl | rfl <;> rfl
theorem set_dn {K T : Nat} {dn : Int32} {fC fCn fE fLE fG fI : Nat → Int32} {V : Nat → KV} (hK : K ≤ 25) (hT : T ≤ 2000) (hS : SQ K T fC fCn fE fLE dn fG fI V) : itr (fun i a => S_X7_setTold_4 V i a) K 0 0 = dn := by
  have q := itr_in (f := fun i a => S_X7_setTold_4 V i a) (fun k (a : Int32) => ∀ j, j < 32 → bt a j = (decide (j < k) && dwn (V j))) K 0 0 (fun k a _ h2 h j hj => by
    have hb : kne (V k) < 2 ^ 31 := by have := (hS.2.2.1 k (by omega)).2.2.2.2.2.2.1; omega
    show bt (F_X7_with a (nI k) (F_X6_isDown (kne (V k)))) j = _
    rw [down_dwn hb]
    unfold F_X7_with
    cases e : dwn (V k) with
    | true =>
      rw [if_pos rfl, if_neg (show ¬ (1 : Int32) = 0 by decide), bt_or, bt_bit (by omega) hj, h j hj]
      by_cases e2 : j = k
      · subst e2; rw [e]; simp
      · rw [decide_eq_false e2, Bool.or_false]
        exact congrArg (fun b => b && dwn (V j)) (decide_eq_decide.mpr (by omega))
    | false =>
      rw [show (if false = true then (1 : Int32) else 0) = 0 from rfl, if_pos rfl, bt_and, bt_not _ hj, bt_bit (by omega) hj, h j hj]
      by_cases e2 : j = k
      · subst e2; rw [e]; simp
      · rw [decide_eq_false e2, Bool.not_false, Bool.and_true]
        exact congrArg (fun b => b && dwn (V j)) (decide_eq_decide.mpr (by omega))) (fun j _ => by rw [bt_0]; rfl)
  rw [Nat.zero_add] at q
  refine bt_ext (fun j hj => ?_)
  rw [q j hj]
  by_cases e : j < K
  · rw [decide_eq_true e, hS.1 j e, Bool.true_and]
  · rw [decide_eq_false e, Bool.false_and]
    cases e2 : bt dn j with
    | false => rfl
    | true => exact absurd (hS.2.1 j e2) e
/-- the sets told, both sides -/
theorem tellSet_eq {K T w : Nat} {fi he dn cl se : Int32} {fC fCn fE fLE fG fI : Nat → Int32} {V : Nat → KV} (hK : K ≤ 25) (hT : T ≤ 2000) (hw : w ≤ 5) (hS : SQ K T fC fCn fE fLE dn fG fI V) : F_X4_tellSet cl se fi he dn w = F_X7_setTold fi he cl se K V w := by
  unfold F_X4_tellSet F_X7_setTold
  rw [set_dn hK hT hS]
  have hw2 : w = 0 ∨ w = 1 ∨ w = 2 ∨ w = 3 ∨ w = 4 ∨ w = 5 := by omega
  rcases hw2 with rfl | rfl | rfl | rfl | rfl | rfl <;> rfl
theorem ev_sum {K : Nat} {V : Nat → KV} : (itr (fun i a => S_X7_boardTold_10 V i a) K 0 (0, (-1))).1 = nI (sumK K V kne) := by
  have q := itr_in (f := fun i a => S_X7_boardTold_10 V i a) (fun k (a : Int32 × Int32) => a.1 = nI (sumK k V kne)) K 0 (0, (-1)) (fun k a _ _ h => by
    show a.1 + nI (kne (V k)) = nI (sumK k V kne + kne (V k))
    rw [h, nI_add]) rfl
  rw [Nat.zero_add] at q
  exact q
theorem ch_sum {n : Nat} {hf : Nat → Nat → Int32} : (itr (fun i a => S_X7_boardTold_55 hf i a) n 0 (0, (-1))).1 = hsum hf n := by
  have q := itr_in (f := fun i a => S_X7_boardTold_55 hf i a) (fun k (a : Int32 × Int32) => a.1 = hsum hf k) n 0 (0, (-1)) (fun k a _ _ h => by
    show a.1 + hf k 2 = hsum hf k + hf k 2
    rw [h]) rfl
  rw [Nat.zero_add] at q
  exact q
theorem upd15 (v0 v1 v2 v3 v4 v5 v6 v7 v8 v9 v10 v11 v12 v13 v14 : Int32) : ∀ (w : Nat) (_ : w ≤ 14), (if w = 0 then v0 else (if w = 1 then v1 else (if w = 2 then v2 else (if w = 3 then v3 else (if w = 4 then v4 else (if w = 5 then v5 else (if w = 6 then v6 else (if w = 7 then v7 else (if w = 8 then v8 else (if w = 9 then v9 else (if w = 10 then v10 else (if w = 11 then v11 else (if w = 12 then v12 else (if w = 13 then v13 else v14)))))))))))))) = (upd (upd (upd (upd (upd (upd (upd (upd (upd (upd (upd (upd (upd (upd (upd (fun _ => 0) 0 v0) 1 v1) 2 v2) 3 v3) 4 v4) 5 v5) 6 v6) 7 v7) 8 v8) 9 v9) 10 v10) 11 v11) 12 v12) 13 v13) 14 v14) w
  | 0, _ => rfl | 1, _ => rfl | 2, _ => rfl | 3, _ => rfl | 4, _ => rfl | 5, _ => rfl | 6, _ => rfl | 7, _ => rfl | 8, _ => rfl | 9, _ => rfl | 10, _ => rfl | 11, _ => rfl | 12, _ => rfl | 13, _ => rfl | 14, _ => rfl
  | n + 15, h => absurd h (by omega)
/-- the board told, both sides -/
theorem tellBoard_eq {sc R C K Ch nh n mn w : Nat} {pa gu rf fi di br li lu ea lo ct dn mlu mlo : Int32} {fB fS fN fM fCn fE fLE fC fG fI fK fL fQ fY mfY : Nat → Int32} {hf : Nat → Nat → Int32} {V : Nat → KV} (hK : K ≤ 25) (hs : sc ≤ 2000) (hw : w ≤ 14) (hse : ∀ x, F_X3_seenIf R C fi di li x = F_X7_seenOf R C fi br K x di) (hle : F_X3_leastKeys R C K li di = F_X7_leastOf R C fi br K di) (hbr : ∃ b, b < 2 ^ 25 ∧ br = nI b) (h : ZQ K sc lu dn ea ct lo Ch n fB fS fN fM fCn fE fLE fC fG fI fK fL fQ fY mlu mlo nh mn hf mfY V) : F_X4_tellBoard sc pa gu rf R C K fi di br li lu ea lo Ch ct fG w = F_X7_boardTold R C fi di br pa gu sc mlo mlu rf K nh hf V w := by
  obtain ⟨z1, z2, z3, z4, z5, z6, z7, z8, z9⟩ := h
  have e10 : F_J6_bitCount_0f7a4 br = F_X7_many br := by
    obtain ⟨b, b1, b2⟩ := hbr
    rw [b2]
    exact bit_many (by omega)
  unfold F_X4_tellBoard F_X7_boardTold
  refine Eq.trans ?_ (upd15 _ _ _ _ _ _ _ _ _ _ _ _ _ _ _ w hw)
  rw [ev_sum, ch_sum, (layer_eq hK (SQ_G hs z3)).1, clear_eq hK hse, hle, e10, z1, z4, z5.1, z6, z8]
  rfl
/-- the mean lag, both sides -/
theorem lagTold_eq {K T : Nat} {dn : Int32} {fB fS fN fM fC fCn fE fLE fG fI : Nat → Int32} {V : Nat → KV} (hT : T ≤ 2000) (hF : FQ K fB fS fN fM V) (hS : SQ K T fC fCn fE fLE dn fG fI V) : F_X4_lag K fM fE fLE = F_X7_lagTold K V := by
  have q := itr_sim (f := fun i a => S_X4_lag_6 fM fE fLE i a) (g := fun i a => S_X7_lagTold_12 V i a) (fun _ (a : Int32 × Int32) (b : Int32 × Int32 × Int32) => a.1 = b.1 ∧ a.2 = b.2.1) K 0 (0, 0) (0, 0, (-1)) (fun k a b _ h2 h => by
    have hk : k < K := by omega
    have hq := hS.2.2.1 k hk
    have hl := lag_eq hT hk hF hq rfl
    obtain ⟨-, q2, -, -, -, -, q7, -⟩ := hq
    show (S_X4_lag_6 fM fE fLE k a).1 = (S_X7_lagTold_12 V k b).1 ∧ (S_X4_lag_6 fM fE fLE k a).2 = (S_X7_lagTold_12 V k b).2.1
    unfold S_X4_lag_6 S_X7_lagTold_12 F_Jx4a65c_isEmpty_aae02
    rw [q2, hl]
    by_cases h0 : kne (V k) = 0
    · rw [h0, if_pos (show nI 0 ≤ 0 by decide), if_pos (show nI 0 = 0 from rfl), if_neg (show ¬ (1 : Int32) = 0 by decide)]
      exact h
    · rw [if_neg (nI_nle (by omega) (by omega)), if_neg (nI_ne0 (by omega) (by omega)), if_pos rfl, h.1, h.2]
      exact ⟨rfl, rfl⟩) ⟨rfl, rfl⟩
  unfold F_X4_lag F_X7_lagTold
  rw [q.1, q.2]

theorem lag_cmp {K : Nat} {sc : Nat} {lu : Int32} {dn : Int32} {ea : Int32} {ct : Int32} {lo : Int32} {Ch : Nat} {n : Nat} {fB : Nat → Int32} {fS : Nat → Int32} {fN : Nat → Int32} {fM : Nat → Int32} {fCn : Nat → Int32} {fE : Nat → Int32} {fLE : Nat → Int32} {fC : Nat → Int32} {fG : Nat → Int32} {fI : Nat → Int32} {fK : Nat → Int32} {fL : Nat → Int32} {fQ : Nat → Int32} {fY : Nat → Int32} {mlu : Int32} {mlo : Int32} {mnh : Nat} {mn : Nat} {mhf : Nat → Nat → Int32} {mfY : Nat → Int32} {mV : Nat → KV} {mK : Nat} (hs : sc ≤ 2000) (hKm : K = mK) (hz : ZQ K sc lu dn ea ct lo Ch n fB fS fN fM fCn fE fLE fC fG fI fK fL fQ fY mlu mlo mnh mn mhf mfY mV) : F_X4_lag K fM fE fLE = (F_X7_lag mK mV).1 := by
  subst hKm
  exact lagTold_eq hs hz.2.1 hz.2.2.1
theorem cmp_same {P Q : UInt64} {op : CmpOp} (h : P = Q) (hn : ¬ Op.cmpValue (FP.dcmp P Q) op = 0) : ¬ Op.cmpValue (FP.dcmp P P) op = 0 ∧ ¬ Op.cmpValue (FP.dcmp Q Q) op = 0 := by
  subst h
  exact ⟨hn, hn⟩
