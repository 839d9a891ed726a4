theorem gi_SX {own : String} {idx : Nat} {y : MethodName} {b : Cond} (h1 : Cond.methodLink own idx y ∈ lwAll) (h2 : Cond.static y ∈ lwAll) (h4 : Cond.initialized y.cls ∈ lwAll) (h5 : b ∈ lwAll) : GoodIn lwAll (va_wsS own idx y (b :: lwAll)) :=
  gi_cons h1 (gi_cons h2 (gi_cons h4 (gi_sub h5)))
theorem sPre_mk {D : va_G} {wc : va_W} {s : State} {H : Heap} {A : Nat → Prop} {av : List Value} (hstr : ∃ sa, vk_R "RowscanModel" 271 "" sa s) (hI : lwI D (va_A wc H.size) s H) (hP : va_P D vwCl wc H) (hK : va_K D vwCl (lwTY2 D) s) (hD : va_D A wc) (hN : (∀ w ∈ lwNest, va_Nw w s) ∧ lwTx s) (hZ : lwZ (va_A wc H.size) s H) : ∀ U : State, U.heap = H → s.WarmedH U.vm → va_Pc av (sPre D (lwTY2 D) wc H.size) av.toArray U :=
  fun U hU hW => by
    obtain ⟨h0, h1⟩ := rPre_mk (av := av) hI hP hK hD hN hZ U hU hW
    obtain ⟨sa, h2⟩ := hstr
    exact ⟨h0, h1, sa, vk_R.warm hW h2⟩
theorem and31 (x : Int32) : ∃ w, w < 32 ∧ x &&& 31 = nI w := by
  have h1 : (x &&& 31).toBitVec.toNat < 32 := by
    rw [show (x &&& 31).toBitVec = x.toBitVec &&& 31#32 from rfl, BitVec.toNat_and]
    exact Nat.lt_of_le_of_lt Nat.and_le_right (by decide)
  refine ⟨(x &&& 31).toBitVec.toNat, h1, ?_⟩
  apply Int32.toBitVec_inj.mp
  apply BitVec.eq_of_toNat_eq
  show (x &&& 31).toBitVec.toNat = (BitVec.ofNat 32 (x &&& 31).toBitVec.toNat).toNat
  rw [BitVec.toNat_ofNat]
  omega

theorem lay_e0 {R : Nat} {C : Nat} {fi : Int32} {di : Int32} {he : Int32} {br : Int32} {pa : Int32} {gu : Int32} {sc : Nat} {cl : Int32} {se : Int32} {lo : Int32} {km : Int32} {K : Nat} {kn : Nat} {hm : Int32} {nh : Nat} {ml : Int32} {n : Nat} {V : Nat → KV} {x1 : Int32} {x2 : Int32} : (F_X7_lay R C fi di he br pa gu sc cl se lo km K kn hm nh ml n V x1 x2).2.2.2.2.2.2.2.2.2.2.2.2.2.2.2.1 = (F_X7_lay R C fi di he br pa gu sc cl se lo km K kn hm nh ml n V x1 x2).2.2.2.2.2.2.2.2.2.2.2.2.2.2.2.2.2.2.2.2.2.1 := by
  unfold F_X7_lay
  (repeat' split) <;> rfl

theorem lay_e1 {R : Nat} {C : Nat} {fi : Int32} {di : Int32} {he : Int32} {br : Int32} {pa : Int32} {gu : Int32} {sc : Nat} {cl : Int32} {se : Int32} {lo : Int32} {km : Int32} {K : Nat} {kn : Nat} {hm : Int32} {nh : Nat} {ml : Int32} {n : Nat} {V : Nat → KV} {x1 : Int32} {x2 : Int32} : (F_X7_lay R C fi di he br pa gu sc cl se lo km K kn hm nh ml n V x1 x2).2.2.2.2.2.2.2.2.2.2.2.2.2.2.2.2.2.2.1 = (F_X7_lay R C fi di he br pa gu sc cl se lo km K kn hm nh ml n V x1 x2).2.2.2.2.2.2.2.2.2.2.2.2.2.2.2.2.2.2.2.2.2.2.2 := by
  unfold F_X7_lay
  (repeat' split) <;> rfl

theorem chord_e0 {K : Nat} {hm : Int32} {nh : Nat} {hcp : Nat} {hf : Nat → Nat → Int32} {x1 : Int32} {x2 : Int32} : (F_X7_chord K hm nh hcp hf x1 x2).2.2.2.1 = (F_X7_chord K hm nh hcp hf x1 x2).2.2.2.2.2.1 := by
  unfold F_X7_chord
  (repeat' split) <;> rfl

theorem chord_cap {K : Nat} {hm : Int32} {nh : Nat} {hcp : Nat} {hf : Nat → Nat → Int32} {x1 : Int32} {x2 : Int32} (h1 : nh ≤ hcp) (h2 : hcp ≤ 40) (h3 : nh ≤ 6) (h4 : hcp ≠ 0 → 10 ≤ hcp) : (F_X7_chord K hm nh hcp hf x1 x2).2.2.2.2.1 ≤ 40 := by
  unfold F_X7_chord
  (repeat' split) <;> first | exact h2 | exact (add_cap h1 h2 (by omega) h4).2.1

theorem lgc_self (x : Int64) : lg_cmp x x = 0 := Int32.le_antisymm ((lg_cmp_le x x).mpr (Int64.le_refl x)) ((lg_cmp_ge x x).mpr (Int64.le_refl x))

theorem lay_acc (x1 x2 : Int32) : (E_X4_lay x1 x2 = 0 ∧ ¬ F_X7_isIn x1 2 5 = 0 ∧ ¬ F_X7_isIn x2 2 5 = 0) ∨ (¬ E_X4_lay x1 x2 = 0 ∧ (F_X7_isIn x1 2 5 = 0 ∨ (¬ F_X7_isIn x1 2 5 = 0 ∧ F_X7_isIn x2 2 5 = 0))) := by
  have e : E_X4_lay x1 x2 = if F_X7_isIn x1 2 5 = 0 then 1 else if F_X7_isIn x2 2 5 = 0 then 1 else 0 := rfl
  by_cases h1 : F_X7_isIn x1 2 5 = 0
  · refine Or.inr ⟨?_, Or.inl h1⟩
    rw [e, if_pos h1]
    decide
  · by_cases h2 : F_X7_isIn x2 2 5 = 0
    · refine Or.inr ⟨?_, Or.inr ⟨h1, h2⟩⟩
      rw [e, if_neg h1, if_pos h2]
      decide
    · refine Or.inl ⟨?_, h1, h2⟩
      rw [e, if_neg h1, if_neg h2]

theorem lay4_acc {x1 x2 : Int32} (h : E_X4_lay x1 x2 = 0) : ¬ F_X4_isSize x1 = 0 ∧ ¬ F_X4_isSize x2 = 0 := by
  unfold E_X4_lay at h
  by_cases h1 : F_X4_isSize x1 = 0
  · rw [if_pos h1] at h; exact absurd h (by decide)
  · rw [if_neg h1] at h
    by_cases h2 : F_X4_isSize x2 = 0
    · rw [if_pos h2] at h; exact absurd h (by decide)
    · exact ⟨h1, h2⟩

/-! the class's count of bits and the reference's -/
def pcf : Nat → Nat → Nat
  | 0, _ => 0
  | f + 1, n => n % 2 + pcf f (n / 2)
theorem pcf_0 : ∀ f, pcf f 0 = 0
  | 0 => rfl
  | f + 1 => by
    show 0 % 2 + pcf f (0 / 2) = 0
    rw [show 0 / 2 = 0 from rfl, pcf_0 f]
theorem pcf_add : ∀ (a b n : Nat), pcf (a + b) n = pcf a n + pcf b (n / 2 ^ a)
  | 0, b, n => by
    rw [Nat.zero_add, Nat.pow_zero, Nat.div_one]
    exact (Nat.zero_add _).symm
  | a + 1, b, n => by
    rw [show a + 1 + b = (a + b) + 1 by omega]
    show n % 2 + pcf (a + b) (n / 2) = n % 2 + pcf a (n / 2) + pcf b (n / 2 ^ (a + 1))
    rw [pcf_add a b (n / 2), Nat.div_div_eq_div_mul, Nat.pow_succ', Nat.add_assoc]
theorem pcf_mod : ∀ (f n : Nat), pcf f (n % 2 ^ f) = pcf f n
  | 0, _ => rfl
  | f + 1, n => by
    show (n % 2 ^ (f + 1)) % 2 + pcf f (n % 2 ^ (f + 1) / 2) = n % 2 + pcf f (n / 2)
    rw [Nat.pow_succ', Nat.mod_mul_right_mod, Nat.mod_mul_right_div_self, pcf_mod f (n / 2)]
theorem many_L : ∀ (f i m n : Nat), n < 2 ^ 31 → L_X7_many_4 f i (nI m, nI n) = nI (m + pcf f n)
  | 0, _, _, _, _ => rfl
  | f + 1, i, m, n, h => by
    show (if nI n ≤ 0 then nI m else L_X7_many_4 f (i + 1) (nI m + (nI n - nI n / 2 * 2), nI n / 2)) = _
    by_cases h0 : nI n ≤ 0
    · rw [if_pos h0]
      have h1 : n = 0 := by
        rw [Int32.le_iff_toInt_le, nI_toInt h] at h0
        have e0 : (0 : Int32).toInt = 0 := by decide
        rw [e0] at h0
        omega
      rw [h1, pcf_0]
      rfl
    · rw [if_neg h0, show (2 : Int32) = nI 2 from rfl, pk_rem h (by decide) (by decide), pk_div h (by decide) (by decide), nI_add, many_L f (i + 1) (m + n % 2) (n / 2) (by omega)]
      show nI (m + n % 2 + pcf f (n / 2)) = nI (m + (n % 2 + pcf f (n / 2)))
      rw [Nat.add_assoc]
theorem many_pc {n : Nat} (h : n < 2 ^ 31) : F_X7_many (nI n) = nI (pcf 31 n) := by
  have h1 := many_L 31 0 0 n h
  rw [Nat.zero_add] at h1
  exact h1
theorem and_nI (a b : Nat) : nI a &&& nI b = nI (a &&& b) := by
  apply Int32.toBitVec_inj.mp
  apply BitVec.eq_of_toNat_eq
  rw [Int32.toBitVec_and, BitVec.toNat_and]
  show a % 2 ^ 32 &&& b % 2 ^ 32 = (a &&& b) % 2 ^ 32
  rw [Nat.and_mod_two_pow]
theorem and_split (j : Nat) {a b m M : Nat} (ha : a < 2 ^ j) (hm : m < 2 ^ j) : (a + 2 ^ j * b) &&& (m + 2 ^ j * M) = (a &&& m) + 2 ^ j * (b &&& M) := by
  have h1 : ((a + 2 ^ j * b) &&& (m + 2 ^ j * M)) % 2 ^ j = a &&& m := by
    rw [Nat.and_mod_two_pow, Nat.add_mul_mod_self_left, Nat.add_mul_mod_self_left, Nat.mod_eq_of_lt ha, Nat.mod_eq_of_lt hm]
  have h2 : ((a + 2 ^ j * b) &&& (m + 2 ^ j * M)) / 2 ^ j = b &&& M := by
    rw [Nat.and_div_two_pow, Nat.add_mul_div_left _ _ (Nat.two_pow_pos j), Nat.add_mul_div_left _ _ (Nat.two_pow_pos j), Nat.div_eq_of_lt ha, Nat.div_eq_of_lt hm, Nat.zero_add, Nat.zero_add]
  have h3 := Nat.mod_add_div ((a + 2 ^ j * b) &&& (m + 2 ^ j * M)) (2 ^ j)
  rw [h1, h2] at h3
  exact h3.symm
def A16 (x : Nat) : Nat := x - (x / 2 &&& 21845)
def B16 (x : Nat) : Nat := (A16 x &&& 13107) + (A16 x / 4 &&& 13107)
def C16 (x : Nat) : Nat := (B16 x + B16 x / 16) &&& 3855
def A8 (x : Nat) : Nat := x - (x / 2 &&& 85)
def B8 (x : Nat) : Nat := (A8 x &&& 51) + (A8 x / 4 &&& 51)
def C8 (x : Nat) : Nat := (B8 x + B8 x / 16) &&& 15
theorem B8_eq (x : Nat) : B8 x = (A8 x &&& 51) + (A8 x / 4 &&& 51) := rfl
theorem C8_eq (x : Nat) : C8 x = (B8 x + B8 x / 16) &&& 15 := rfl
theorem B16_eq (x : Nat) : B16 x = (A16 x &&& 13107) + (A16 x / 4 &&& 13107) := rfl
theorem C16_eq (x : Nat) : C16 x = (B16 x + B16 x / 16) &&& 3855 := rfl
theorem all_8 : ∀ a, a < 256 → C8 a = pcf 8 a ∧ C8 a ≤ 8 ∧ B8 a % 16 ≤ 4 ∧ B8 a ≤ 68 := by decide +kernel
theorem mA {lo hi : Nat} (h : lo < 256) : (lo + 256 * hi) - ((lo + 256 * hi) / 2 &&& 21845) = A8 lo + 256 * (hi - (hi / 2 &&& 85)) := by
  have h1 : (lo + 256 * hi) / 2 = (lo / 2 + 2 ^ 7 * (hi % 2)) + 2 ^ 8 * (hi / 2) := by omega
  have h2 : (lo / 2 + 2 ^ 7 * (hi % 2)) &&& (85 + 2 ^ 7 * 0) = (lo / 2 &&& 85) + 2 ^ 7 * (hi % 2 &&& 0) := and_split 7 (by omega) (by decide)
  have h3 : ((lo / 2 + 2 ^ 7 * (hi % 2)) + 2 ^ 8 * (hi / 2)) &&& (85 + 2 ^ 8 * 85) = ((lo / 2 + 2 ^ 7 * (hi % 2)) &&& 85) + 2 ^ 8 * (hi / 2 &&& 85) := and_split 8 (by omega) (by decide)
  simp only [Nat.and_zero, Nat.mul_zero, Nat.add_zero] at h2
  rw [h1, show (21845 : Nat) = 85 + 2 ^ 8 * 85 from rfl, h3, h2]
  unfold A8
  have g1 : lo / 2 &&& 85 ≤ lo / 2 := Nat.and_le_left
  have g2 : hi / 2 &&& 85 ≤ hi / 2 := Nat.and_le_left
  omega
theorem mB {l h : Nat} (hl : l < 256) : ((l + 256 * h) &&& 13107) + ((l + 256 * h) / 4 &&& 13107) = ((l &&& 51) + (l / 4 &&& 51)) + 256 * ((h &&& 51) + (h / 4 &&& 51)) := by
  have h0 : (l + 2 ^ 8 * h) &&& (51 + 2 ^ 8 * 51) = (l &&& 51) + 2 ^ 8 * (h &&& 51) := and_split 8 (by omega) (by decide)
  have h1 : (l + 256 * h) / 4 = (l / 4 + 2 ^ 6 * (h % 4)) + 2 ^ 8 * (h / 4) := by omega
  have h2 : (l / 4 + 2 ^ 6 * (h % 4)) &&& (51 + 2 ^ 6 * 0) = (l / 4 &&& 51) + 2 ^ 6 * (h % 4 &&& 0) := and_split 6 (by omega) (by decide)
  have h3 : ((l / 4 + 2 ^ 6 * (h % 4)) + 2 ^ 8 * (h / 4)) &&& (51 + 2 ^ 8 * 51) = ((l / 4 + 2 ^ 6 * (h % 4)) &&& 51) + 2 ^ 8 * (h / 4 &&& 51) := and_split 8 (by omega) (by decide)
  simp only [Nat.and_zero, Nat.mul_zero, Nat.add_zero] at h2
  have e : (13107 : Nat) = 51 + 2 ^ 8 * 51 := rfl
  have e2 : l + 256 * h = l + 2 ^ 8 * h := rfl
  rw [h1, e, h3, h2, e2, h0]
  omega
theorem mC {l h : Nat} (hl : l ≤ 68) (hq : h % 16 ≤ 4) : ((l + 256 * h) + (l + 256 * h) / 16) &&& 3855 = ((l + l / 16) &&& 15) + 256 * ((h + h / 16) &&& 15) := by
  have h1 : (l + 256 * h) + (l + 256 * h) / 16 = (l + l / 16 + 2 ^ 4 * (h % 16)) + 2 ^ 8 * (h + h / 16) := by omega
  have h3 : ((l + l / 16 + 2 ^ 4 * (h % 16)) + 2 ^ 8 * (h + h / 16)) &&& (15 + 2 ^ 8 * 15) = ((l + l / 16 + 2 ^ 4 * (h % 16)) &&& 15) + 2 ^ 8 * ((h + h / 16) &&& 15) := and_split 8 (by omega) (by decide)
  have h4 : ((l + l / 16) % 16 + 2 ^ 4 * ((l + l / 16) / 16 + h % 16)) &&& (15 + 2 ^ 4 * 0) = ((l + l / 16) % 16 &&& 15) + 2 ^ 4 * (((l + l / 16) / 16 + h % 16) &&& 0) := and_split 4 (by omega) (by decide)
  have h5 : ((l + l / 16) % 16 + 2 ^ 4 * ((l + l / 16) / 16)) &&& (15 + 2 ^ 4 * 0) = ((l + l / 16) % 16 &&& 15) + 2 ^ 4 * (((l + l / 16) / 16) &&& 0) := and_split 4 (by omega) (by decide)
  simp only [Nat.and_zero, Nat.mul_zero, Nat.add_zero] at h4 h5
  have e4 : (l + l / 16) % 16 + 2 ^ 4 * ((l + l / 16) / 16 + h % 16) = l + l / 16 + 2 ^ 4 * (h % 16) := by omega
  have e5 : (l + l / 16) % 16 + 2 ^ 4 * ((l + l / 16) / 16) = l + l / 16 := by omega
  rw [e4] at h4
  rw [e5] at h5
  rw [h1, show (3855 : Nat) = 15 + 2 ^ 8 * 15 from rfl, h3, h4, h5]
theorem c16 {x : Nat} (h : x < 65536) : C16 x % 256 + C16 x / 256 = pcf 16 x ∧ C16 x / 256 ≤ 8 ∧ C16 x % 256 ≤ 8 ∧ B16 x % 16 ≤ 4 ∧ B16 x ≤ 17476 := by
  obtain ⟨a, b, h1, h2, rfl⟩ : ∃ a b, a < 256 ∧ b < 256 ∧ x = a + 256 * b := ⟨x % 256, x / 256, by omega, by omega, by omega⟩
  obtain ⟨p1, p2, p3, p4⟩ := all_8 a h1
  obtain ⟨q1, q2, q3, q4⟩ := all_8 b h2
  have e1 : A16 (a + 256 * b) = A8 a + 256 * A8 b := mA h1
  have e2 : B16 (a + 256 * b) = B8 a + 256 * B8 b := by
    unfold B16
    rw [e1, mB (l := A8 a) (show A8 a < 256 from Nat.lt_of_le_of_lt (Nat.sub_le _ _) h1), B8_eq, B8_eq]
  have e3 : C16 (a + 256 * b) = C8 a + 256 * C8 b := by
    unfold C16
    rw [e2, mC p4 q3, C8_eq, C8_eq]
  have e4 : pcf 16 (a + 256 * b) = pcf 8 a + pcf 8 b := by
    rw [show (16 : Nat) = 8 + 8 from rfl, pcf_add 8 8, ← pcf_mod 8 (a + 256 * b), show (2 : Nat) ^ 8 = 256 from rfl, Nat.add_mul_mod_self_left, Nat.mod_eq_of_lt h1, show (a + 256 * b) / 256 = b by omega]
  rw [e2, e3, e4, ← p1, ← q1]
  omega
theorem A16_le (x : Nat) : A16 x ≤ x := Nat.sub_le _ _
theorem nA {lo hi : Nat} (h : lo < 65536) : (lo + 65536 * hi) - ((lo + 65536 * hi) / 2 &&& 1431655765) = A16 lo + 65536 * A16 hi := by
  have h1 : (lo + 65536 * hi) / 2 = (lo / 2 + 2 ^ 15 * (hi % 2)) + 2 ^ 16 * (hi / 2) := by omega
  have h2 : (lo / 2 + 2 ^ 15 * (hi % 2)) &&& (21845 + 2 ^ 15 * 0) = (lo / 2 &&& 21845) + 2 ^ 15 * (hi % 2 &&& 0) := and_split 15 (by omega) (by decide)
  have h3 : ((lo / 2 + 2 ^ 15 * (hi % 2)) + 2 ^ 16 * (hi / 2)) &&& (21845 + 2 ^ 16 * 21845) = ((lo / 2 + 2 ^ 15 * (hi % 2)) &&& 21845) + 2 ^ 16 * (hi / 2 &&& 21845) := and_split 16 (by omega) (by decide)
  simp only [Nat.and_zero, Nat.mul_zero, Nat.add_zero] at h2
  rw [h1, show (1431655765 : Nat) = 21845 + 2 ^ 16 * 21845 from rfl, h3, h2]
  unfold A16
  have g1 : lo / 2 &&& 21845 ≤ lo / 2 := Nat.and_le_left
  have g2 : hi / 2 &&& 21845 ≤ hi / 2 := Nat.and_le_left
  omega
theorem nB {l h : Nat} (hl : l < 65536) : ((l + 65536 * h) &&& 858993459) + ((l + 65536 * h) / 4 &&& 858993459) = ((l &&& 13107) + (l / 4 &&& 13107)) + 65536 * ((h &&& 13107) + (h / 4 &&& 13107)) := by
  have h0 : (l + 2 ^ 16 * h) &&& (13107 + 2 ^ 16 * 13107) = (l &&& 13107) + 2 ^ 16 * (h &&& 13107) := and_split 16 (by omega) (by decide)
  have h1 : (l + 65536 * h) / 4 = (l / 4 + 2 ^ 14 * (h % 4)) + 2 ^ 16 * (h / 4) := by omega
  have h2 : (l / 4 + 2 ^ 14 * (h % 4)) &&& (13107 + 2 ^ 14 * 0) = (l / 4 &&& 13107) + 2 ^ 14 * (h % 4 &&& 0) := and_split 14 (by omega) (by decide)
  have h3 : ((l / 4 + 2 ^ 14 * (h % 4)) + 2 ^ 16 * (h / 4)) &&& (13107 + 2 ^ 16 * 13107) = ((l / 4 + 2 ^ 14 * (h % 4)) &&& 13107) + 2 ^ 16 * (h / 4 &&& 13107) := and_split 16 (by omega) (by decide)
  simp only [Nat.and_zero, Nat.mul_zero, Nat.add_zero] at h2
  have e : (858993459 : Nat) = 13107 + 2 ^ 16 * 13107 := rfl
  have e2 : l + 65536 * h = l + 2 ^ 16 * h := rfl
  rw [h1, e, h3, h2, e2, h0]
  omega
theorem nC {l h : Nat} (hl : l ≤ 17476) (hq : h % 16 ≤ 4) : ((l + 65536 * h) + (l + 65536 * h) / 16) &&& 252645135 = ((l + l / 16) &&& 3855) + 65536 * ((h + h / 16) &&& 3855) := by
  have h1 : (l + 65536 * h) + (l + 65536 * h) / 16 = (l + l / 16 + 2 ^ 12 * (h % 16)) + 2 ^ 16 * (h + h / 16) := by omega
  have h3 : ((l + l / 16 + 2 ^ 12 * (h % 16)) + 2 ^ 16 * (h + h / 16)) &&& (3855 + 2 ^ 16 * 3855) = ((l + l / 16 + 2 ^ 12 * (h % 16)) &&& 3855) + 2 ^ 16 * ((h + h / 16) &&& 3855) := and_split 16 (by omega) (by decide)
  have h4 : ((l + l / 16) % 4096 + 2 ^ 12 * ((l + l / 16) / 4096 + h % 16)) &&& (3855 + 2 ^ 12 * 0) = ((l + l / 16) % 4096 &&& 3855) + 2 ^ 12 * (((l + l / 16) / 4096 + h % 16) &&& 0) := and_split 12 (by omega) (by decide)
  have h5 : ((l + l / 16) % 4096 + 2 ^ 12 * ((l + l / 16) / 4096)) &&& (3855 + 2 ^ 12 * 0) = ((l + l / 16) % 4096 &&& 3855) + 2 ^ 12 * (((l + l / 16) / 4096) &&& 0) := and_split 12 (by omega) (by decide)
  simp only [Nat.and_zero, Nat.mul_zero, Nat.add_zero] at h4 h5
  have e4 : (l + l / 16) % 4096 + 2 ^ 12 * ((l + l / 16) / 4096 + h % 16) = l + l / 16 + 2 ^ 12 * (h % 16) := by omega
  have e5 : (l + l / 16) % 4096 + 2 ^ 12 * ((l + l / 16) / 4096) = l + l / 16 := by omega
  rw [e4] at h4
  rw [e5] at h5
  rw [h1, show (252645135 : Nat) = 3855 + 2 ^ 16 * 3855 from rfl, h3, h4, h5]
theorem sum_1 {u v U V : Nat} (h1 : u ≤ 8) (h2 : v ≤ 8) (h3 : U ≤ 8) (h4 : V ≤ 8) : (u + 256 * v + 65536 * (U + 256 * V)) / 256 = v + 256 * U + 65536 * V := by omega
theorem sum_2 {u v U V : Nat} (h1 : u ≤ 8) (h2 : v ≤ 8) (h3 : U ≤ 8) (h4 : V ≤ 8) : (u + 256 * v + 65536 * (U + 256 * V) + (v + 256 * U + 65536 * V)) / 65536 = U + V + 256 * V := by omega
theorem sum_3 {u v U V : Nat} (h1 : u ≤ 8) (h2 : v ≤ 8) (h3 : U ≤ 8) (h4 : V ≤ 8) : (u + 256 * v + 65536 * (U + 256 * V) + (v + 256 * U + 65536 * V) + (U + V + 256 * V)) % 64 = u + v + (U + V) := by
  have e : u + 256 * v + 65536 * (U + 256 * V) + (v + 256 * U + 65536 * V) + (U + V + 256 * V) = (u + v + (U + V)) + 64 * (4 * v + 1024 * U + 262144 * V + 4 * U + 1024 * V + 4 * V) := by omega
  rw [e, Nat.add_mul_mod_self_left]
  exact Nat.mod_eq_of_lt (by omega)
theorem bit_pc {n : Nat} (h : n < 2 ^ 31) : F_J6_bitCount_0f7a4 (nI n) = nI (pcf 31 n) := by
  obtain ⟨lo, hi, h1, h2, rfl⟩ : ∃ lo hi, lo < 65536 ∧ hi < 32768 ∧ n = lo + 65536 * hi := ⟨n % 65536, n / 65536, by omega, by omega, by omega⟩
  obtain ⟨p1, p2, p3, p4, p5⟩ := c16 h1
  obtain ⟨q1, q2, q3, q4, q5⟩ := c16 (show hi < 65536 by omega)
  have hAl := A16_le lo
  have hAh := A16_le hi
  have t9 : T_J6_bitCount_0f7a4_9 (nI (lo + 65536 * hi)) = nI (A16 lo + 65536 * A16 hi) := by
    unfold T_J6_bitCount_0f7a4_9
    rw [pk_ushrN (by omega) 1 1 (by decide), show (1431655765 : Int32) = nI 1431655765 from rfl, and_nI, pk_sub (Nat.le_trans Nat.and_le_left (by omega)), Nat.pow_one, nA h1]
  have t23 : T_J6_bitCount_0f7a4_23 (nI (lo + 65536 * hi)) = nI (B16 lo + 65536 * B16 hi) := by
    unfold T_J6_bitCount_0f7a4_23
    rw [t9, pk_ushrN (by omega) 2 2 (by decide), show (858993459 : Int32) = nI 858993459 from rfl, and_nI, and_nI, nI_add, show (2 : Nat) ^ 2 = 4 from rfl, nB (by omega), B16_eq, B16_eq]
  have t33 : T_J6_bitCount_0f7a4_33 (nI (lo + 65536 * hi)) = nI (C16 lo + 65536 * C16 hi) := by
    unfold T_J6_bitCount_0f7a4_33
    rw [t23, pk_ushrN (by omega) 4 4 (by decide), nI_add, show (252645135 : Int32) = nI 252645135 from rfl, and_nI, show (2 : Nat) ^ 4 = 16 from rfl, nC p5 q4, C16_eq, C16_eq]
  have hc : C16 lo = C16 lo % 256 + 256 * (C16 lo / 256) := (Nat.mod_add_div _ _).symm
  have hd : C16 hi = C16 hi % 256 + 256 * (C16 hi / 256) := (Nat.mod_add_div _ _).symm
  generalize C16 lo % 256 = u at *
  generalize C16 lo / 256 = v at *
  generalize C16 hi % 256 = U at *
  generalize C16 hi / 256 = V at *
  rw [hc, hd] at t33
  have t40 : T_J6_bitCount_0f7a4_40 (nI (lo + 65536 * hi)) = nI (u + 256 * v + 65536 * (U + 256 * V) + (v + 256 * U + 65536 * V)) := by
    unfold T_J6_bitCount_0f7a4_40
    rw [t33, pk_ushrN (by omega) 8 8 (by decide), nI_add, show (2 : Nat) ^ 8 = 256 from rfl, sum_1 p3 p2 q3 q2]
  have t47 : T_J6_bitCount_0f7a4_47 (nI (lo + 65536 * hi)) = nI (u + 256 * v + 65536 * (U + 256 * V) + (v + 256 * U + 65536 * V) + (U + V + 256 * V)) := by
    unfold T_J6_bitCount_0f7a4_47
    rw [t40, pk_ushrN (by omega) 16 16 (by decide), nI_add, show (2 : Nat) ^ 16 = 65536 from rfl, sum_2 p3 p2 q3 q2]
  unfold F_J6_bitCount_0f7a4
  rw [t47, pk_andN (by omega) 6 (by decide), show (2 : Nat) ^ 6 = 64 from rfl, sum_3 p3 p2 q3 q2, p1, q1]
  refine congrArg nI ?_
  rw [show (31 : Nat) = 16 + 15 from rfl, pcf_add 16 15, ← pcf_mod 16 (lo + 65536 * hi), show (2 : Nat) ^ 16 = 65536 from rfl, Nat.add_mul_mod_self_left, Nat.mod_eq_of_lt h1, show (lo + 65536 * hi) / 65536 = hi by omega]
  refine congrArg (pcf 16 lo + ·) ?_
  have h9 := pcf_add 15 1 hi
  rw [Nat.div_eq_of_lt (show hi < 2 ^ 15 by omega)] at h9
  exact h9.trans (by rw [pcf_0]; rfl)
theorem bit_many {n : Nat} (h : n < 2 ^ 31) : F_J6_bitCount_0f7a4 (nI n) = F_X7_many (nI n) := (bit_pc h).trans (many_pc h).symm
theorem bit_manyx {x : Int32} (h : 0 ≤ x) : F_J6_bitCount_0f7a4 x = F_X7_many x := by
  obtain ⟨j, hj, rfl⟩ := nI_of (x := x) (fun h2 => by
    rw [Int32.le_iff_toInt_le] at h
    rw [Int32.lt_iff_toInt_lt] at h2
    omega)
  exact bit_many hj

theorem has_hold (x k : Int32) : F_X4_holds x k = F_X7_has x k := rfl
theorem in_iff (x : Int32) (a b : Int32) : (F_X7_isIn x a b = 0 ∧ (x < a ∨ (¬ x < a ∧ b < x))) ∨ (¬ F_X7_isIn x a b = 0 ∧ ¬ x < a ∧ ¬ b < x) := by
  unfold F_X7_isIn
  by_cases h1 : x < a
  · rw [if_pos h1]; exact Or.inl ⟨rfl, Or.inl h1⟩
  · rw [if_neg h1]
    by_cases h2 : b < x
    · rw [if_pos h2]; exact Or.inl ⟨rfl, Or.inr ⟨h1, h2⟩⟩
    · rw [if_neg h2]; exact Or.inr ⟨by decide, h1, h2⟩
theorem key_iff {K : Nat} {x : Int32} (hK : K ≤ 25) (h0 : 0 < K) : (F_X3_hasKey K x = 0 ∧ ¬ F_X7_isNoKey K x = 0) ∨ (¬ F_X3_hasKey K x = 0 ∧ F_X7_isNoKey K x = 0 ∧ ∃ k, k < K ∧ x = nI k) := by
  unfold F_X3_hasKey F_X7_isNoKey
  rw [show F_Jx4a65c_size_8abf5 K - 1 = nI (K - 1) from nI_m1 h0]
  rcases in_iff x 0 (nI (K - 1)) with ⟨a1, a2 | ⟨a2, a3⟩⟩ | ⟨a1, a2, a3⟩
  · rw [if_pos a2, if_pos a1]; exact Or.inl ⟨rfl, by decide⟩
  · have h1 : nI K ≤ x := by
      rw [Int32.lt_iff_toInt_lt, nI_toInt (by omega)] at a3
      rw [Int32.le_iff_toInt_le, nI_toInt (by omega)]
      omega
    rw [if_neg a2, if_pos h1, if_pos a1]; exact Or.inl ⟨rfl, by decide⟩
  · have h1 : ¬ nI K ≤ x := by
      rw [Int32.lt_iff_toInt_lt, nI_toInt (by omega)] at a3
      rw [Int32.le_iff_toInt_le, nI_toInt (by omega)]
      omega
    obtain ⟨j, hj, rfl⟩ := nI_of a2
    rw [if_neg a2, if_neg h1, if_neg a1]
    refine Or.inr ⟨by decide, rfl, j, ?_, rfl⟩
    rcases Nat.lt_or_ge j K with q | q
    · exact q
    · exact absurd (nI_le q hj) h1
theorem i_nI (x : Int32) : x = nI x.toBitVec.toNat := by
  apply Int32.toBitVec_inj.mp
  apply BitVec.eq_of_toNat_eq
  show x.toBitVec.toNat = (BitVec.ofNat 32 x.toBitVec.toNat).toNat
  rw [BitVec.toNat_ofNat]
  omega
theorem shl25 : ∀ k, k < 26 → (1 : Int32) <<< (nI k &&& 31) = nI (2 ^ k) := by decide +kernel
theorem or_nI (a b : Nat) : nI a ||| nI b = nI (a ||| b) := by
  apply Int32.toBitVec_inj.mp
  apply BitVec.eq_of_toNat_eq
  rw [Int32.toBitVec_or, BitVec.toNat_or]
  show a % 2 ^ 32 ||| b % 2 ^ 32 = (a ||| b) % 2 ^ 32
  rw [Nat.or_mod_two_pow]
theorem with25 {x x2 : Int32} {k : Nat} (hx : ∃ b, b < 2 ^ 25 ∧ x = nI b) (hk : k < 25) : ∃ b, b < 2 ^ 25 ∧ F_X7_with x (nI k) x2 = nI b := by
  obtain ⟨b, hb, rfl⟩ := hx
  unfold F_X7_with
  by_cases h : x2 = 0
  · rw [if_pos h]
    refine ⟨(nI b &&& (((1 : Int32) <<< (nI k &&& 31)) ^^^ (-1))).toBitVec.toNat, ?_, i_nI _⟩
    rw [Int32.toBitVec_and, BitVec.toNat_and]
    refine Nat.lt_of_le_of_lt Nat.and_le_left ?_
    show b % 2 ^ 32 < 2 ^ 25
    rw [Nat.mod_eq_of_lt (by omega)]
    exact hb
  · rw [if_neg h, shl25 k (by omega), or_nI]
    exact ⟨_, Nat.or_lt_two_pow hb (Nat.pow_lt_pow_right (by decide) hk), rfl⟩
theorem hold_01 (x k : Int32) : F_X4_holds x k = 0 ∨ F_X4_holds x k = 1 := has_01 x k
theorem xor_with {he x2 : Int32} {k : Nat} (hk : k < 25) (h2 : x2 = 0 ∨ x2 = 1) (hne : ¬ F_X4_holds he (nI k) = x2) : he ^^^ ((1 : Int32) <<< (nI k &&& 31)) = F_X7_with he (nI k) x2 := by
  unfold F_X7_with
  rcases h2 with rfl | rfl
  · have hb : bt he k = true := by
      cases e : bt he k with
      | true => rfl
      | false => exact absurd ((holds_iff (by omega)).mpr e) hne
    rw [if_pos rfl]
    apply bt_ext
    intro j hj
    rw [bt_xor, bt_and, bt_not _ hj, bt_bit (by omega) hj]
    by_cases e : j = k
    · subst e; simp [hb]
    · simp [e]
  · have hb : bt he k = false := (holds_iff (by omega)).mp ((hold_01 he (nI k)).resolve_right hne)
    rw [if_neg (by decide)]
    apply bt_ext
    intro j hj
    rw [bt_xor, bt_or, bt_bit (by omega) hj]
    by_cases e : j = k
    · subst e; simp [hb]
    · simp [e]
theorem move_w {fB fN fM : Nat → Int32} {he x2 x3 : Int32} {k : Nat} (hk : k < 25) (h2 : x2 = 0 ∨ x2 = 1) : (F_X0_move fB fN fM he k x2 x3).1 = if F_X7_has he (nI k) = x2 then he else F_X7_with he (nI k) x2 := by
  unfold F_X0_move
  by_cases h : F_X4_holds he (nI k) = x2
  · rw [if_pos h, if_pos (show F_X7_has he (nI k) = x2 from h)]
  · rw [if_neg h, if_neg (show ¬ F_X7_has he (nI k) = x2 from h)]
    exact xor_with hk h2 h
theorem fit_w {R C : Nat} {fi di br x1 x2 x3 : Int32} : (F_X3_fit R C fi di br x1 x2 x3).1 = F_X7_with fi x1 x2 := by
  unfold F_X3_fit F_X7_with
  by_cases h : x2 = 0
  · rw [if_pos h, if_pos h]
    by_cases h3 : x3 = 0
    · rw [if_pos h3]; rfl
    · rw [if_neg h3]; rfl
  · rw [if_neg h, if_neg h]
    by_cases h3 : x3 = 0
    · rw [if_pos h3]; rfl
    · rw [if_neg h3]; rfl
theorem key_acc {K : Nat} {x1 x2 x4 x5 : Int32} (hK : K ≤ 25) (h0 : 0 < K) :
    (E_X4_key K x1 x2 x4 x5 = 2 ∧ ¬ F_X7_isNoKey K x1 = 0) ∨ (F_X7_isNoKey K x1 = 0 ∧ ∃ k, k < K ∧ x1 = nI k ∧ ((E_X4_key K x1 x2 x4 x5 = 1 ∧ (F_X7_isIn x4 0 5 = 0 ∨ (¬ F_X7_isIn x4 0 5 = 0 ∧ F_X7_isIn x5 0 2 = 0))) ∨ (E_X4_key K x1 x2 x4 x5 = 0 ∧ ¬ F_X7_isIn x4 0 5 = 0 ∧ ¬ F_X7_isIn x5 0 2 = 0))) := by
  unfold E_X4_key
  rcases key_iff (x := x1) hK h0 with ⟨a1, a2⟩ | ⟨a1, a2, k, a3, a4⟩
  · rw [if_pos a1]; exact Or.inl ⟨rfl, a2⟩
  · rw [if_neg a1]
    refine Or.inr ⟨a2, k, a3, a4, ?_⟩
    rcases in_iff x4 0 5 with ⟨b1, b2 | ⟨b2, b3⟩⟩ | ⟨b1, b2, b3⟩
    · rw [if_pos b2]; exact Or.inl ⟨rfl, Or.inl b1⟩
    · rw [if_neg b2, if_pos b3]; exact Or.inl ⟨rfl, Or.inl b1⟩
    · rw [if_neg b2, if_neg b3]
      rcases in_iff x5 0 2 with ⟨c1, c2 | ⟨c2, c3⟩⟩ | ⟨c1, c2, c3⟩
      · rw [if_pos c2]; exact Or.inl ⟨rfl, Or.inr ⟨b1, c1⟩⟩
      · rw [if_neg c2, if_neg (Int32.not_le.mpr c3)]; exact Or.inl ⟨rfl, Or.inr ⟨b1, c1⟩⟩
      · rw [if_neg c2, if_pos (Int32.not_lt.mp c3)]
        refine Or.inr ⟨?_, b1, c1⟩
        split <;> rfl

theorem key4 {sc : Nat} {R : Nat} {C : Nat} {K : Nat} {fi : Int32} {di : Int32} {br : Int32} {li : Int32} {he : Int32} {fB : Nat → Int32} {fS : Nat → Int32} {fN : Nat → Int32} {fM : Nat → Int32} {x1 : Int32} {x2 : Int32} {x3 : Int32} {x4 : Int32} {x5 : Int32} (h : E_X4_key K x1 x2 x4 x5 = 0) : (F_X4_key sc R C K fi di br li he fB fS fN fM x1 x2 x3 x4 x5).1 = F_J6_bitCount_0f7a4 (F_X7_with fi x1 x2) ∧ (F_X4_key sc R C K fi di br li he fB fS fN fM x1 x2 x3 x4 x5).2.1 = F_X7_with fi x1 x2 ∧ (F_X4_key sc R C K fi di br li he fB fS fN fM x1 x2 x3 x4 x5).2.2.2.2.2.2.1 = if x2 = 0 then (F_X0_move (upd fB x1.toNatClampNeg x4) fN fM he x1.toNatClampNeg 0 (nI sc)).1 else he := by
  unfold E_X4_key at h
  unfold F_X4_key
  by_cases h1 : F_X3_hasKey K x1 = 0
  · rw [if_pos h1] at h; exact absurd h (by decide)
  · rw [if_neg h1] at h ⊢
    by_cases h2 : x4 < 0
    · rw [if_pos h2] at h; exact absurd h (by decide)
    · rw [if_neg h2] at h ⊢
      by_cases h3 : 5 < x4
      · rw [if_pos h3] at h; exact absurd h (by decide)
      · rw [if_neg h3] at h ⊢
        by_cases h4 : x5 < 0
        · rw [if_pos h4] at h; exact absurd h (by decide)
        · rw [if_neg h4] at h ⊢
          by_cases h5 : x5 ≤ 2
          · rw [if_pos h5]
            by_cases h6 : x2 = 0
            · rw [if_pos h6, if_pos h6]
              exact ⟨congrArg F_J6_bitCount_0f7a4 fit_w, fit_w, rfl⟩
            · rw [if_neg h6, if_neg h6]
              exact ⟨congrArg F_J6_bitCount_0f7a4 fit_w, fit_w, rfl⟩
          · rw [if_neg h5] at h; exact absurd h (by decide)
theorem keym_acc {fi : Int32} {di : Int32} {he : Int32} {sc : Nat} {K : Nat} {V : Nat → KV} {x1 : Int32} {x2 : Int32} {x3 : Int32} {x4 : Int32} {x5 : Int32} (h1 : F_X7_isNoKey K x1 = 0) (h2 : ¬ F_X7_isIn x4 0 5 = 0) (h3 : ¬ F_X7_isIn x5 0 2 = 0) : (F_X7_key fi di he sc K V x1 x2 x3 x4 x5).1 = F_X7_many (F_X7_with fi x1 x2) ∧ (F_X7_key fi di he sc K V x1 x2 x3 x4 x5).2.1 = (F_X7_refuse ((F_X7_start (F_X7_isNoKey K x1) 1).2) 0 2).2 ∧ (F_X7_key fi di he sc K V x1 x2 x3 x4 x5).2.2.1 = F_X7_with fi x1 x2 ∧ (F_X7_key fi di he sc K V x1 x2 x3 x4 x5).2.2.2.2.1 = if x2 = 0 then (if F_X7_has he x1 = 0 then he else F_X7_with he (nI x1.toNatClampNeg) 0) else he := by
  have hs : (F_X7_start (F_X7_isNoKey K x1) 1).1 = 0 := by rw [h1]; decide
  unfold F_X7_key
  rw [if_pos hs, if_neg h2, if_neg h3]
  by_cases h6 : x2 = 0
  · rw [if_pos h6, if_pos h6]
    by_cases h7 : F_X7_has he x1 = 0
    · rw [if_pos h7, if_pos h7]; exact ⟨rfl, rfl, rfl, rfl⟩
    · rw [if_neg h7, if_neg h7]; exact ⟨rfl, rfl, rfl, rfl⟩
  · rw [if_neg h6, if_neg h6]; exact ⟨rfl, rfl, rfl, rfl⟩
theorem keym_ref {fi : Int32} {di : Int32} {he : Int32} {sc : Nat} {K : Nat} {V : Nat → KV} {x1 : Int32} {x2 : Int32} {x3 : Int32} {x4 : Int32} {x5 : Int32} (h1 : F_X7_isNoKey K x1 = 0) (h2 : F_X7_isIn x4 0 5 = 0 ∨ (¬ F_X7_isIn x4 0 5 = 0 ∧ F_X7_isIn x5 0 2 = 0)) : (F_X7_key fi di he sc K V x1 x2 x3 x4 x5).2.1 = (F_X7_refuse ((F_X7_start (F_X7_isNoKey K x1) 1).2) 1 2).2 ∧ (F_X7_key fi di he sc K V x1 x2 x3 x4 x5).2.2.1 = fi ∧ (F_X7_key fi di he sc K V x1 x2 x3 x4 x5).2.2.2.2.1 = he := by
  have hs : (F_X7_start (F_X7_isNoKey K x1) 1).1 = 0 := by rw [h1]; decide
  unfold F_X7_key
  rcases h2 with h2 | ⟨h2, h3⟩
  · rw [if_pos hs, if_pos h2]; exact ⟨rfl, rfl, rfl⟩
  · rw [if_pos hs, if_neg h2, if_pos h3]; exact ⟨rfl, rfl, rfl⟩
theorem keym_no {fi : Int32} {di : Int32} {he : Int32} {sc : Nat} {K : Nat} {V : Nat → KV} {x1 : Int32} {x2 : Int32} {x3 : Int32} {x4 : Int32} {x5 : Int32} (h1 : ¬ F_X7_isNoKey K x1 = 0) : (F_X7_key fi di he sc K V x1 x2 x3 x4 x5).2.1 = 1 ∧ (F_X7_key fi di he sc K V x1 x2 x3 x4 x5).2.2.1 = fi ∧ (F_X7_key fi di he sc K V x1 x2 x3 x4 x5).2.2.2.2.1 = he := by
  have h2 : F_X7_isNoKey K x1 = 1 := (nk_01 K x1).resolve_left h1
  have hs : ¬ (F_X7_start (F_X7_isNoKey K x1) 1).1 = 0 := by rw [h2]; decide
  unfold F_X7_key
  rw [if_neg hs]
  refine ⟨?_, rfl, rfl⟩
  show (F_X7_start (F_X7_isNoKey K x1) 1).2 = 1
  rw [h2]
  decide

/-- key leaves what is fitted and what is held alike on both sides -/
theorem key_eq {sc : Nat} {R : Nat} {C : Nat} {K : Nat} {fi : Int32} {di : Int32} {br : Int32} {li : Int32} {he : Int32} {fB : Nat → Int32} {fS : Nat → Int32} {fN : Nat → Int32} {fM : Nat → Int32} {x1 : Int32} {x2 : Int32} {x3 : Int32} {x4 : Int32} {x5 : Int32} {mfi : Int32} {mdi : Int32} {mhe : Int32} {msc : Nat} {mK : Nat} {mV : Nat → KV} (hK : K ≤ 25) (h0 : 0 < mK) (hx2 : x2 = 0 ∨ x2 = 1) (h : he = mhe ∧ fi = mfi ∧ K = mK ∧ (∃ b, b < 2 ^ 25 ∧ he = nI b) ∧ ∃ b, b < 2 ^ 25 ∧ fi = nI b) : (F_L_key sc R C K fi di br li he fB fS fN fM x1 x2 x3 x4 x5).2.2.2.2.2.1 = (F_X7_key mfi mdi mhe msc mK mV x1 x2 x3 x4 x5).2.2.2.2.1 ∧ (F_L_key sc R C K fi di br li he fB fS fN fM x1 x2 x3 x4 x5).1 = (F_X7_key mfi mdi mhe msc mK mV x1 x2 x3 x4 x5).2.2.1 ∧ (∃ b, b < 2 ^ 25 ∧ (F_L_key sc R C K fi di br li he fB fS fN fM x1 x2 x3 x4 x5).2.2.2.2.2.1 = nI b) ∧ ∃ b, b < 2 ^ 25 ∧ (F_L_key sc R C K fi di br li he fB fS fN fM x1 x2 x3 x4 x5).1 = nI b := by
  obtain ⟨e1, e2, e3, hb, hf⟩ := h
  subst e1
  subst e2
  subst e3
  rcases key_acc (x1 := x1) (x2 := x2) (x4 := x4) (x5 := x5) hK h0 with ⟨g0, g1⟩ | ⟨g1, k, g2, g3, ⟨g0, g4⟩ | ⟨g0, g4, g5⟩⟩
  · obtain ⟨-, m2, m3⟩ := keym_no (fi := fi) (di := mdi) (he := he) (sc := msc) (V := mV) (x2 := x2) (x3 := x3) (x4 := x4) (x5 := x5) g1
    have f1 : (F_L_key sc R C K fi di br li he fB fS fN fM x1 x2 x3 x4 x5).2.2.2.2.2.1 = he ∧ (F_L_key sc R C K fi di br li he fB fS fN fM x1 x2 x3 x4 x5).1 = fi := by unfold F_L_key; rw [if_neg (show ¬ E_X4_key K x1 x2 x4 x5 = 0 by rw [g0]; decide)]; exact ⟨rfl, rfl⟩
    rw [f1.1, f1.2, m2, m3]
    exact ⟨rfl, rfl, hb, hf⟩
  · obtain ⟨-, m2, m3⟩ := keym_ref (fi := fi) (di := mdi) (he := he) (sc := msc) (V := mV) (x2 := x2) (x3 := x3) (x4 := x4) (x5 := x5) g1 g4
    have f1 : (F_L_key sc R C K fi di br li he fB fS fN fM x1 x2 x3 x4 x5).2.2.2.2.2.1 = he ∧ (F_L_key sc R C K fi di br li he fB fS fN fM x1 x2 x3 x4 x5).1 = fi := by unfold F_L_key; rw [if_neg (show ¬ E_X4_key K x1 x2 x4 x5 = 0 by rw [g0]; decide)]; exact ⟨rfl, rfl⟩
    rw [f1.1, f1.2, m2, m3]
    exact ⟨rfl, rfl, hb, hf⟩
  · obtain ⟨-, -, m2, m3⟩ := keym_acc (fi := fi) (di := mdi) (he := he) (sc := msc) (V := mV) (x2 := x2) (x3 := x3) (x4 := x4) (x5 := x5) g1 g4 g5
    obtain ⟨-, l1, l2⟩ := key4 (sc := sc) (R := R) (C := C) (fi := fi) (di := di) (br := br) (li := li) (he := he) (fB := fB) (fS := fS) (fN := fN) (fM := fM) (x3 := x3) g0
    have f1 : (F_L_key sc R C K fi di br li he fB fS fN fM x1 x2 x3 x4 x5).2.2.2.2.2.1 = (F_X4_key sc R C K fi di br li he fB fS fN fM x1 x2 x3 x4 x5).2.2.2.2.2.2.1 ∧ (F_L_key sc R C K fi di br li he fB fS fN fM x1 x2 x3 x4 x5).1 = (F_X4_key sc R C K fi di br li he fB fS fN fM x1 x2 x3 x4 x5).2.1 := by unfold F_L_key; rw [if_pos g0]; exact ⟨rfl, rfl⟩
    subst g3
    rw [nI_clamp (by omega)] at l2 m3
    have hw : (if x2 = 0 then (F_X0_move (upd fB k x4) fN fM he k 0 (nI sc)).1 else he) = if x2 = 0 then (if F_X7_has he (nI k) = 0 then he else F_X7_with he (nI k) 0) else he := by
      by_cases h6 : x2 = 0
      · rw [if_pos h6, if_pos h6, move_w (by omega) (Or.inl rfl)]
      · rw [if_neg h6, if_neg h6]
    rw [f1.1, f1.2, l1, l2, m2, m3, hw]
    refine ⟨rfl, rfl, ?_, with25 hf (by omega)⟩
    by_cases h6 : x2 = 0
    · rw [if_pos h6]
      by_cases h7 : F_X7_has he (nI k) = 0
      · rw [if_pos h7]; exact hb
      · rw [if_neg h7]; exact with25 hb (by omega)
    · rw [if_neg h6]; exact hb

/-! what a set of closed keys shows: both sides are the closure of each row -/
theorem mul_nI : ∀ i, i < 6 → ∀ C, C < 6 → nI i * nI C = nI (i * C) := by decide +kernel
theorem mask_b : ∀ C, C < 6 → ∀ j, j < 32 → bt (((1 : Int32) <<< (nI C &&& 31)) - 1) j = decide (j < C) := by decide +kernel
theorem rc_lt {R C r c : Nat} (hR : R ≤ 5) (hC : C ≤ 5) (hr : r < R) (hc : c < C) : r * C + c < 25 := by
  have h1 : r * C ≤ 4 * C := Nat.mul_le_mul_right C (by omega)
  omega
theorem bt_col {C : Nat} (hC : C ≤ 5) (x : Int32) {r : Nat} (hr : r < 5) (c : Nat) : bt (F_X3_columnsOf C x (nI r)) c = (decide (c < C) && bt x (r * C + c)) := by
  unfold F_X3_columnsOf
  by_cases h32 : c < 32
  · rw [bt_and, mask_b C (by omega) c h32, mul_nI r (by omega) C (by omega)]
    by_cases hc : c < C
    · have h1 := rc_lt (R := 5) (by omega) hC hr hc
      rw [bt_shr x (by omega) (by omega), Nat.add_comm c (r * C), Bool.and_comm]
    · rw [decide_eq_false hc, Bool.and_false, Bool.false_and]
  · rw [bt_big _ (by omega), decide_eq_false (by omega), Bool.false_and]
theorem col_ne {C : Nat} (hC : C ≤ 5) {x a : Int32} {r : Nat} (hr : r < 5) : ¬ (F_X3_columnsOf C x (nI r)) &&& a = 0 ↔ ∃ c, c < C ∧ bt x (r * C + c) = true ∧ bt a c = true := by
  constructor
  · intro h
    refine Classical.byContradiction fun hn => h (bt_zero.mpr fun j hj => ?_)
    rw [bt_and, bt_col hC x hr]
    cases e : (decide (j < C) && bt x (r * C + j)) && bt a j with
    | false => rfl
    | true =>
      simp only [Bool.and_eq_true, decide_eq_true_eq] at e
      exact absurd ⟨j, e.1.1, e.1.2, e.2⟩ hn
  · rintro ⟨c, h1, h2, h3⟩ h
    have h4 := bt_zero.mp h c (by omega)
    rw [bt_and, bt_col hC x hr, h2, h3, decide_eq_true h1] at h4
    exact absurd h4 (by decide)
/-- the columns that a row comes to -/
def rch (R C : Nat) (fo ba : Int32) (r c : Nat) : Prop := ∀ P : Nat → Prop, (∀ c, c < C → bt fo (r * C + c) = true → P c) → (∀ i c d, i < R → P d → bt ba (i * C + d) = true → c < C → bt fo (i * C + c) = true → P c) → P c
theorem rch.base {R C : Nat} {fo ba : Int32} {r c : Nat} (h1 : c < C) (h2 : bt fo (r * C + c) = true) : rch R C fo ba r c := fun _ hb _ => hb c h1 h2
theorem rch.step {R C : Nat} {fo ba : Int32} {r i c d : Nat} (h1 : i < R) (h2 : rch R C fo ba r d) (h3 : bt ba (i * C + d) = true) (h4 : c < C) (h5 : bt fo (i * C + c) = true) : rch R C fo ba r c := fun P hb hs => hs i c d h1 (h2 P hb hs) h3 h4 h5
theorem rch.ind {R C : Nat} {fo ba : Int32} {r : Nat} {P : Nat → Prop} (hb : ∀ c, c < C → bt fo (r * C + c) = true → P c) (hs : ∀ i c d, i < R → rch R C fo ba r d → bt ba (i * C + d) = true → c < C → bt fo (i * C + c) = true → P d → P c) {c : Nat} (h : rch R C fo ba r c) : P c :=
  (h (fun c => rch R C fo ba r c ∧ P c) (fun c h1 h2 => ⟨.base h1 h2, hb c h1 h2⟩) (fun i c d h1 h2 h3 h4 h5 => ⟨.step h1 h2.1 h3 h4 h5, hs i c d h1 h2.1 h3 h4 h5 h2.2⟩)).2
theorem rch_lt {R C : Nat} {fo ba : Int32} {r c : Nat} (h : rch R C fo ba r c) : c < C := h (fun c => c < C) (fun _ h _ => h) (fun _ _ _ _ _ _ h _ => h)
theorem rch_first {R C : Nat} {fo ba : Int32} {r c : Nat} (h : rch R C fo ba r c) : ∃ d, d < C ∧ bt fo (r * C + d) = true := h (fun _ => ∃ d, d < C ∧ bt fo (r * C + d) = true) (fun c h1 h2 => ⟨c, h1, h2⟩) (fun _ _ _ _ h _ _ _ => h)
/-- sets taken in where a test says so -/
theorem itr_or {p : Nat → Prop} [∀ i, Decidable (p i)] {v : Nat → Int32} : ∀ (n i : Nat) (a : Int32) (j : Nat), bt (itr (fun i a => if p i then a else a ||| v i) n i a) j = true ↔ bt a j = true ∨ ∃ k, i ≤ k ∧ k < i + n ∧ ¬ p k ∧ bt (v k) j = true := by
  intro n
  induction n with
  | zero =>
    intro i a j
    constructor
    · exact fun h => Or.inl h
    · rintro (h | ⟨k, h1, h2, -⟩)
      · exact h
      · omega
  | succ n ih =>
    intro i a j
    refine (ih (i + 1) (if p i then a else a ||| v i) j).trans ?_
    by_cases hp : p i
    · rw [if_pos hp]
      constructor
      · rintro (h | ⟨k, h1, h2, h3, h4⟩)
        · exact Or.inl h
        · exact Or.inr ⟨k, by omega, by omega, h3, h4⟩
      · rintro (h | ⟨k, h1, h2, h3, h4⟩)
        · exact Or.inl h
        · by_cases e : k = i
          · subst e; exact absurd hp h3
          · exact Or.inr ⟨k, by omega, by omega, h3, h4⟩
    · rw [if_neg hp, bt_or]
      constructor
      · rintro (h | ⟨k, h1, h2, h3, h4⟩)
        · rcases (Bool.or_eq_true _ _).mp h with h | h
          · exact Or.inl h
          · exact Or.inr ⟨i, by omega, by omega, hp, h⟩
        · exact Or.inr ⟨k, by omega, by omega, h3, h4⟩
      · rintro (h | ⟨k, h1, h2, h3, h4⟩)
        · exact Or.inl (by rw [h, Bool.true_or])
        · by_cases e : k = i
          · subst e; exact Or.inl (by rw [h4, Bool.or_true])
          · exact Or.inr ⟨k, by omega, by omega, h3, h4⟩
/-- how many of the first n hold -/
def ct (p : Nat → Bool) : Nat → Nat
  | 0 => 0
  | n + 1 => ct p n + (if p n = true then 1 else 0)
theorem ct_le (p : Nat → Bool) : ∀ n, ct p n ≤ n
  | 0 => Nat.le_refl _
  | n + 1 => by
    have := ct_le p n
    rw [ct]
    split <;> omega
theorem ct_all {p : Nat → Bool} : ∀ {n : Nat}, ct p n = n → ∀ i, i < n → p i = true
  | 0, _, i, hi => absurd hi (Nat.not_lt_zero _)
  | n + 1, h, i, hi => by
    have h1 := ct_le p n
    rw [ct] at h
    by_cases hp : p n = true
    · rw [if_pos hp] at h
      by_cases e : i = n
      · rw [e]; exact hp
      · exact ct_all (n := n) (by omega) i (by omega)
    · rw [if_neg hp] at h; omega
theorem ct_mono {p q : Nat → Bool} (h : ∀ i, p i = true → q i = true) : ∀ n, ct p n ≤ ct q n
  | 0 => Nat.le_refl _
  | n + 1 => by
    have := ct_mono h n
    rw [ct, ct]
    by_cases hp : p n = true
    · rw [if_pos hp, if_pos (h n hp)]; omega
    · rw [if_neg hp]; omega
theorem ct_lt {p q : Nat → Bool} (h : ∀ i, p i = true → q i = true) {k : Nat} (hp : ¬ p k = true) (hq : q k = true) : ∀ n, k < n → ct p n < ct q n
  | 0, hk => absurd hk (Nat.not_lt_zero _)
  | n + 1, hk => by
    rw [ct, ct]
    by_cases e : k = n
    · subst e
      have := ct_mono h k
      rw [if_neg hp, if_pos hq]; omega
    · have := ct_lt h hp hq n (by omega)
      by_cases h2 : p n = true
      · rw [if_pos h2, if_pos (h n h2)]; omega
      · rw [if_neg h2]; omega
section
variable {R C : Nat} {fo ba : Int32}
/-- one step of the spread -/
theorem spr_1 (hR : R ≤ 5) (hC : C ≤ 5) (a : Int32) (c : Nat) : bt (itr (fun i b => S_X3_spread_20 C fo ba a i b) R 0 a) c = true ↔ bt a c = true ∨ ∃ i, i < R ∧ (∃ d, d < C ∧ bt ba (i * C + d) = true ∧ bt a d = true) ∧ c < C ∧ bt fo (i * C + c) = true := by
  refine (itr_or (p := fun i => (F_X3_columnsOf C ba (nI i)) &&& a = 0) (v := fun i => F_X3_columnsOf C fo (nI i)) R 0 a c).trans ?_
  constructor
  · rintro (h | ⟨k, -, h2, h3, h4⟩)
    · exact Or.inl h
    · rw [bt_col hC fo (by omega), Bool.and_eq_true, decide_eq_true_eq] at h4
      exact Or.inr ⟨k, by omega, (col_ne hC (by omega)).mp h3, h4.1, h4.2⟩
  · rintro (h | ⟨k, h2, h3, h4, h5⟩)
    · exact Or.inl h
    · refine Or.inr ⟨k, Nat.zero_le _, by omega, (col_ne hC (by omega)).mpr h3, ?_⟩
      rw [bt_col hC fo (by omega), h5, decide_eq_true h4]; rfl
/-- rows that have given all they have -/
def dnR (C : Nat) (fo ba a : Int32) (i : Nat) : Bool := decide (¬ (F_X3_columnsOf C ba (nI i)) &&& a = 0 ∧ ∀ c, c < C → bt fo (i * C + c) = true → bt a c = true)
theorem dnR_iff (hC : C ≤ 5) {a : Int32} {i : Nat} (hi : i < 5) : dnR C fo ba a i = true ↔ (∃ d, d < C ∧ bt ba (i * C + d) = true ∧ bt a d = true) ∧ ∀ c, c < C → bt fo (i * C + c) = true → bt a c = true := by
  unfold dnR
  rw [decide_eq_true_eq, col_ne hC hi]
def clR (R C : Nat) (fo ba a : Int32) : Prop := ∀ i, i < R → (∃ d, d < C ∧ bt ba (i * C + d) = true ∧ bt a d = true) → ∀ c, c < C → bt fo (i * C + c) = true → bt a c = true
theorem spr_cl (hR : R ≤ 5) (hC : C ≤ 5) : ∀ (n k : Nat) (a : Int32), R ≤ ct (fun i => decide (i < R) && dnR C fo ba a i) R + n → clR R C fo ba (L_X3_spread_6 R C fo ba n k a) ∧ (∀ c, bt a c = true → bt (L_X3_spread_6 R C fo ba n k a) c = true) := by
  intro n
  induction n with
  | zero =>
    intro k a h
    have h1 := ct_le (fun i => decide (i < R) && dnR C fo ba a i) R
    refine ⟨fun i hi _ c hc hf => ?_, fun c h => h⟩
    have h2 := ct_all (p := fun i => decide (i < R) && dnR C fo ba a i) (n := R) (by omega) i hi
    have h3 : dnR C fo ba a i = true := by
      have h4 : (decide (i < R) && dnR C fo ba a i) = true := h2
      rw [Bool.and_eq_true] at h4
      exact h4.2
    exact ((dnR_iff hC (by omega)).mp h3).2 c hc hf
  | succ n ih =>
    intro k a h
    have hs := spr_1 (fo := fo) (ba := ba) hR hC a
    have hu : ∀ c, bt a c = true → bt (itr (fun i b => S_X3_spread_20 C fo ba a i b) R 0 a) c = true := fun c hc => (hs c).mpr (Or.inl hc)
    show clR R C fo ba (if (itr (fun i b => S_X3_spread_20 C fo ba a i b) R 0 a) = a then a else L_X3_spread_6 R C fo ba n (k + 1) (itr (fun i b => S_X3_spread_20 C fo ba a i b) R 0 a)) ∧ ∀ c, bt a c = true → bt (if (itr (fun i b => S_X3_spread_20 C fo ba a i b) R 0 a) = a then a else L_X3_spread_6 R C fo ba n (k + 1) (itr (fun i b => S_X3_spread_20 C fo ba a i b) R 0 a)) c = true
    generalize (itr (fun i b => S_X3_spread_20 C fo ba a i b) R 0 a) = a' at hs hu ⊢
    by_cases he : a' = a
    · rw [if_pos he]
      refine ⟨fun i hi hd c hc hf => ?_, fun c h => h⟩
      have h1 := (hs c).mpr (Or.inr ⟨i, hi, hd, hc, hf⟩)
      rw [he] at h1
      exact h1
    · rw [if_neg he]
      have hne : ∃ c, bt a' c = true ∧ ¬ bt a c = true := by
        refine Classical.byContradiction fun hn => he (bt_ext fun j _ => ?_)
        cases e : bt a' j with
        | true =>
          cases e2 : bt a j with
          | true => rfl
          | false => exact absurd ⟨j, e, by rw [e2]; decide⟩ hn
        | false =>
          cases e2 : bt a j with
          | false => rfl
          | true => rw [hu j e2] at e; exact absurd e (by decide)
      obtain ⟨c, c1, c2⟩ := hne
      obtain ⟨i, i1, i2, i3, i4⟩ := ((hs c).mp c1).resolve_left c2
      have hall : ∀ c, c < C → bt fo (i * C + c) = true → bt a' c = true := fun c hc hf => (hs c).mpr (Or.inr ⟨i, i1, i2, hc, hf⟩)
      have h5 : ct (fun i => decide (i < R) && dnR C fo ba a i) R < ct (fun i => decide (i < R) && dnR C fo ba a' i) R := by
        refine ct_lt (fun q hq => ?_) (k := i) ?_ ?_ R i1
        · have hq : (decide (q < R) && dnR C fo ba a q) = true := hq
          rw [Bool.and_eq_true, decide_eq_true_eq] at hq
          obtain ⟨q1, q2⟩ := hq
          obtain ⟨⟨d, d1, d2, d3⟩, q3⟩ := (dnR_iff hC (by omega)).mp q2
          show (decide (q < R) && dnR C fo ba a' q) = true
          rw [decide_eq_true q1, (dnR_iff hC (by omega)).mpr ⟨⟨d, d1, d2, hu d d3⟩, fun c hc hf => hu c (q3 c hc hf)⟩]
          rfl
        · intro hq
          have hq : (decide (i < R) && dnR C fo ba a i) = true := hq
          rw [Bool.and_eq_true] at hq
          exact c2 (((dnR_iff hC (by omega)).mp hq.2).2 c i3 i4)
        · obtain ⟨d, d1, d2, d3⟩ := i2
          show (decide (i < R) && dnR C fo ba a' i) = true
          rw [decide_eq_true i1, (dnR_iff hC (by omega)).mpr ⟨⟨d, d1, d2, hu d d3⟩, hall⟩]
          rfl
      obtain ⟨r1, r2⟩ := ih (k + 1) a' (by omega)
      exact ⟨r1, fun c hc => r2 c (hu c hc)⟩
theorem spr_sd (hR : R ≤ 5) (hC : C ≤ 5) {P : Nat → Prop} (hP : ∀ i d c, i < R → P d → bt ba (i * C + d) = true → c < C → bt fo (i * C + c) = true → P c) : ∀ (n k : Nat) (a : Int32), (∀ c, bt a c = true → P c) → ∀ c, bt (L_X3_spread_6 R C fo ba n k a) c = true → P c := by
  intro n
  induction n with
  | zero => exact fun k a h => h
  | succ n ih =>
    intro k a h
    show ∀ c, bt (if (itr (fun i b => S_X3_spread_20 C fo ba a i b) R 0 a) = a then a else L_X3_spread_6 R C fo ba n (k + 1) (itr (fun i b => S_X3_spread_20 C fo ba a i b) R 0 a)) c = true → P c
    by_cases he : (itr (fun i b => S_X3_spread_20 C fo ba a i b) R 0 a) = a
    · rw [if_pos he]; exact h
    · rw [if_neg he]
      refine ih (k + 1) _ (fun c hc => ?_)
      rcases (spr_1 hR hC a c).mp hc with h1 | ⟨i, i1, ⟨d, d1, d2, d3⟩, i3, i4⟩
      · exact h c h1
      · exact hP i d c i1 (h d d3) d2 i3 i4
theorem spread_iff (hR : R ≤ 5) (hC : C ≤ 5) {r : Nat} (hr : r < R) (c : Nat) : bt (F_X3_spread R C (F_X3_columnsOf C fo (nI r)) fo ba R) c = true ↔ rch R C fo ba r c := by
  unfold F_X3_spread
  have hf : ∀ c, bt (F_X3_columnsOf C fo (nI r)) c = true ↔ c < C ∧ bt fo (r * C + c) = true := fun c => by
    rw [bt_col hC fo (by omega), Bool.and_eq_true, decide_eq_true_eq]
  obtain ⟨h1, h2⟩ := spr_cl (fo := fo) (ba := ba) hR hC R 0 (F_X3_columnsOf C fo (nI r)) (by omega)
  constructor
  · exact spr_sd hR hC (P := rch R C fo ba r) (fun i d c hi hd hb hc hf => .step hi hd hb hc hf) R 0 _ (fun c hc => .base ((hf c).mp hc).1 ((hf c).mp hc).2) c
  · intro h
    exact rch.ind (P := fun c => bt (L_X3_spread_6 R C fo ba R 0 (F_X3_columnsOf C fo (nI r))) c = true) (fun c q1 q2 => h2 _ ((hf _).mpr ⟨q1, q2⟩)) (fun i c d q1 q2 q3 q4 q5 ih => h1 _ q1 ⟨_, rch_lt q2, q3, ih⟩ _ q4 q5) h
end
theorem shl_or {C : Nat} (hC : C ≤ 5) {i : Nat} (hi : i < 5) (x : Int32) (j : Nat) : bt (x <<< (((nI i) * (nI C)) &&& 31)) j = (decide (j < 32) && (decide (i * C ≤ j) && bt x (j - i * C))) := by
  have h1 : i * C ≤ 4 * C := Nat.mul_le_mul_right C (by omega)
  rw [mul_nI i (by omega) C (by omega), bt_shl x (by omega) j]
section
variable {R C : Nat} {fo ba : Int32}
/-- the class's board seen -/
theorem seenI_iff (hR : R ≤ 5) (hC : C ≤ 5) (j : Nat) : bt (itr (fun i a => if F_X3_columnsOf C fo (nI i) = 0 then a else a ||| ((F_X3_spread R C (F_X3_columnsOf C fo (nI i)) fo ba R) <<< (((nI i) * (nI C)) &&& 31))) R 0 0) j = true ↔ ∃ r c, r < R ∧ j = r * C + c ∧ rch R C fo ba r c := by
  refine (itr_or (p := fun i => F_X3_columnsOf C fo (nI i) = 0) (v := fun i => (F_X3_spread R C (F_X3_columnsOf C fo (nI i)) fo ba R) <<< (((nI i) * (nI C)) &&& 31)) R 0 0 j).trans ?_
  constructor
  · rintro (h | ⟨i, -, h2, h3, h4⟩)
    · rw [bt_0] at h; exact absurd h (by decide)
    · rw [shl_or hC (by omega), Bool.and_eq_true, Bool.and_eq_true, decide_eq_true_eq, decide_eq_true_eq] at h4
      exact ⟨i, j - i * C, by omega, by omega, (spread_iff hR hC (by omega) _).mp h4.2.2⟩
  · rintro ⟨r, c, h1, rfl, h3⟩
    have hc := rch_lt h3
    have h4 := rc_lt hR hC h1 hc
    refine Or.inr ⟨r, Nat.zero_le _, by omega, fun e => ?_, ?_⟩
    · obtain ⟨d, d1, d2⟩ := rch_first h3
      have h5 := bt_col hC fo (r := r) (by omega) d
      rw [e, bt_0, decide_eq_true d1, d2] at h5
      exact absurd h5 (by decide)
    · rw [shl_or hC (by omega), decide_eq_true (by omega), decide_eq_true (Nat.le_add_right _ _), Nat.add_sub_cancel_left, (spread_iff hR hC h1 c).mpr h3]
      rfl
end
theorem itr_fix {f : Nat → Int32 → Int32} (h : ∀ i a j, bt a j = true → bt (f i a) j = true) : ∀ (n i : Nat) (a : Int32), itr f n i a = a → ∀ k, i ≤ k → k < i + n → f k a = a := by
  intro n
  induction n with
  | zero => intro i a _ k h1 h2; omega
  | succ n ih =>
    intro i a he k h1 h2
    have he : itr f n (i + 1) (f i a) = a := he
    have h3 : f i a = a := by
      refine bt_ext fun j _ => ?_
      cases e : bt (f i a) j with
      | true =>
        have h4 := itr_up h n (i + 1) (f i a) j e
        rw [he] at h4
        exact h4.symm
      | false =>
        cases e2 : bt a j with
        | false => rfl
        | true => rw [h i a j e2] at e; exact absurd e (by decide)
    by_cases e : k = i
    · rw [e]; exact h3
    · rw [h3] at he
      exact ih (i + 1) a he k (by omega) (by omega)
theorem s46_up {R C : Nat} {fi br : Int32} {K : Nat} {x1 x2 : Int32} {i1 : Nat} : ∀ i2 a j, bt a j = true → bt (S_X7_seenOf_46 R C fi br K x1 x2 i1 i2 a) j = true := fun i2 a j hj => by
  unfold S_X7_seenOf_46
  split
  · exact hj
  · rw [bt_or, hj, Bool.true_or]
/-- the reference's board seen stands still at the end -/
theorem seenL_fix {R C : Nat} {fi br : Int32} {K : Nat} {x1 x2 : Int32} : ∀ (n i : Nat) (a b : Int32), i + n = 33 → (b = a ∨ i ≤ cn a 32) → (∀ P : Int32 → Prop, P a → (∀ c, P c → P (itr (fun i a => S_X7_seenOf_34 R C fi br K x1 x2 i a) R 0 c)) → (b = a → itr (fun i a => S_X7_seenOf_34 R C fi br K x1 x2 i a) R 0 a = a) → ∃ m, L_X7_seenOf_20 R C fi br K x1 x2 n i (a, b) = m &&& fi ∧ P m ∧ itr (fun i a => S_X7_seenOf_34 R C fi br K x1 x2 i a) R 0 m = m) := by
  intro n
  induction n with
  | zero =>
    intro i a b hi hb P hPa _ hfx
    have e : b = a := grow_z (by omega) hb
    exact ⟨a, rfl, hPa, hfx e⟩
  | succ n ih =>
    intro i a b hi hb P hPa hPs hfx
    show ∃ m, (if b = a then a &&& fi else L_X7_seenOf_20 R C fi br K x1 x2 n (i + 1) ((itr (fun i a => S_X7_seenOf_34 R C fi br K x1 x2 i a) R 0 a), a)) = m &&& fi ∧ _
    by_cases e : b = a
    · rw [if_pos e]; exact ⟨a, rfl, hPa, hfx e⟩
    · rw [if_neg e]
      refine ih (i + 1) _ a (by omega) (grow_s hb e (sn_up a)) P (hPs a hPa) hPs (fun e2 => ?_)
      rw [← e2]
      exact e2.symm
theorem itr_keepB {α : Type} {f : Nat → α → α} (P : α → Prop) : ∀ (n i : Nat) (a : α), (∀ k a, i ≤ k → k < i + n → P a → P (f k a)) → P a → P (itr f n i a) := by
  intro n
  induction n with
  | zero => intro i a _ h; exact h
  | succ n ih =>
    intro i a hs h
    exact ih (i + 1) (f i a) (fun k a h1 h2 => hs k a (by omega) (by omega)) (hs i a (by omega) (by omega) h)
theorem rc_inj {C r c r' c' : Nat} (h : r * C + c = r' * C + c') (hc : c < C) (hc' : c' < C) : r = r' ∧ c = c' := by
  have h1 : (r * C + c) / C = r := by rw [Nat.mul_comm, Nat.mul_add_div (by omega), Nat.div_eq_of_lt hc]; rfl
  have h2 : (r' * C + c') / C = r' := by rw [Nat.mul_comm, Nat.mul_add_div (by omega), Nat.div_eq_of_lt hc']; rfl
  have h3 : r = r' := by rw [← h1, ← h2, h]
  subst h3
  exact ⟨rfl, by omega⟩
section
variable {R C : Nat} {fi br : Int32} {K : Nat} {x1 x2 : Int32}
theorem s46_sd (hR : R ≤ 5) (hC : C ≤ 5) {fo ba : Int32} (hfo : fo = T_X7_seenOf_6 R C fi br K x1) (hba : ba = T_X7_seenOf_12 R C fi br K x1 x2) {i1 i2 : Nat} (h1 : i1 < R) (h2 : i2 < R) {a : Int32} (ha : ∀ j, bt a j = true → ∃ r c, r < R ∧ j = r * C + c ∧ rch R C fo ba r c) (j : Nat) (hj : bt (S_X7_seenOf_46 R C fi br K x1 x2 i1 i2 a) j = true) : ∃ r c, r < R ∧ j = r * C + c ∧ rch R C fo ba r c := by
  unfold S_X7_seenOf_46 at hj
  rw [← hfo, ← hba] at hj
  by_cases hp : (F_X7_rowOf C a (nI i1)) &&& (F_X7_rowOf C ba (nI i2)) = 0
  · rw [if_pos hp] at hj; exact ha j hj
  · rw [if_neg hp, bt_or, Bool.or_eq_true] at hj
    rcases hj with hj | hj
    · exact ha j hj
    · rw [shl_or hC (by omega), Bool.and_eq_true, Bool.and_eq_true, decide_eq_true_eq, decide_eq_true_eq] at hj
      obtain ⟨-, q1, q2⟩ := hj
      have q3 : bt (F_X3_columnsOf C fo (nI i2)) (j - i1 * C) = true := q2
      rw [bt_col hC fo (by omega), Bool.and_eq_true, decide_eq_true_eq] at q3
      obtain ⟨d, d1, d2, d3⟩ := (col_ne hC (x := a) (a := F_X3_columnsOf C ba (nI i2)) (by omega)).mp hp
      rw [bt_col hC ba (by omega), Bool.and_eq_true] at d3
      obtain ⟨r, c, r1, r2, r3⟩ := ha _ d2
      obtain ⟨e1, e2⟩ := rc_inj r2 d1 (rch_lt r3)
      subst e1
      subst e2
      exact ⟨i1, j - i1 * C, h1, by omega, .step h2 r3 d3.2 q3.1 q3.2⟩
theorem seenO_iff (hR : R ≤ 5) (hC : C ≤ 5) {fo ba : Int32} (hfo : fo = T_X7_seenOf_6 R C fi br K x1) (hba : ba = T_X7_seenOf_12 R C fi br K x1 x2) (hb : ∀ j, bt fo j = true → ∃ r c, r < R ∧ c < C ∧ j = r * C + c) : ∃ m, F_X7_seenOf R C fi br K x1 x2 = m &&& fi ∧ ∀ j, bt m j = true ↔ ∃ r c, r < R ∧ j = r * C + c ∧ rch R C fo ba r c := by
  obtain ⟨m, h1, ⟨h2, h2b⟩, h3⟩ := seenL_fix (R := R) (C := C) (fi := fi) (br := br) (K := K) (x1 := x1) (x2 := x2) 33 0 fo (-1) rfl (Or.inr (Nat.zero_le _)) (fun m => (∀ j, bt m j = true → ∃ r c, r < R ∧ j = r * C + c ∧ rch R C fo ba r c) ∧ ∀ j, bt fo j = true → bt m j = true)
    ⟨fun j hj => by
      obtain ⟨r, c, r1, c1, rfl⟩ := hb j hj
      exact ⟨r, c, r1, rfl, .base c1 hj⟩, fun j h => h⟩
    (fun m hm => ⟨itr_keepB (f := fun i a => S_X7_seenOf_34 R C fi br K x1 x2 i a) (fun m => ∀ j, bt m j = true → ∃ r c, r < R ∧ j = r * C + c ∧ rch R C fo ba r c) R 0 m (fun i a _ hi ha =>
        itr_keepB (f := fun i2 a => S_X7_seenOf_46 R C fi br K x1 x2 i i2 a) (fun m => ∀ j, bt m j = true → ∃ r c, r < R ∧ j = r * C + c ∧ rch R C fo ba r c) R 0 a (fun i2 a _ hi2 ha => s46_sd hR hC hfo hba (by omega) (by omega) ha) ha) hm.1, fun j hj => sn_up m j (hm.2 j hj)⟩)
    (fun e => by
      have h9 := hb 31 (by rw [← e]; exact bt_m1 (by omega))
      obtain ⟨r, c, r1, c1, e9⟩ := h9
      have := rc_lt hR hC r1 c1
      omega)
  refine ⟨m, ?_, fun j => ⟨h2 j, ?_⟩⟩
  · unfold F_X7_seenOf
    rw [← hfo]
    exact h1
  · rintro ⟨r, c, r1, rfl, hr⟩
    have f1 : ∀ i2, i2 < R → S_X7_seenOf_46 R C fi br K x1 x2 r i2 m = m := fun i2 hi2 => by
      have g1 := itr_fix (f := fun i a => S_X7_seenOf_34 R C fi br K x1 x2 i a) (fun i1 a1 j hj => itr_up (fun i2 a2 j hj => s46_up i2 a2 j hj) R 0 a1 j hj) R 0 m h3 r (Nat.zero_le _) (by omega)
      exact itr_fix (f := fun i a => S_X7_seenOf_46 R C fi br K x1 x2 r i a) s46_up R 0 m g1 i2 (Nat.zero_le _) (by omega)
    refine rch.ind (P := fun c => bt m (r * C + c) = true) (fun c q1 q2 => h2b _ q2) (fun i c d q1 q2 q3 q4 q5 ih => ?_) hr
    · show bt m (r * C + c) = true
      rw [← f1 i q1]
      unfold S_X7_seenOf_46
      rw [← hfo, ← hba]
      have hp : ¬ (F_X7_rowOf C m (nI r)) &&& (F_X7_rowOf C ba (nI i)) = 0 := (col_ne hC (x := m) (a := F_X3_columnsOf C ba (nI i)) (by omega)).mpr ⟨d, rch_lt q2, ih, by rw [bt_col hC ba (by omega), decide_eq_true (rch_lt q2), q3]; rfl⟩
      rw [if_neg hp, bt_or]
      have h4 := rc_lt hR hC r1 q4
      have h5 : bt ((F_X7_rowOf C fo (nI i)) <<< (((nI r) * (nI C)) &&& 31)) (r * C + c) = true := by
        rw [shl_or hC (by omega), decide_eq_true (by omega), decide_eq_true (Nat.le_add_right _ _), Nat.add_sub_cancel_left]
        show (true && (true && bt (F_X3_columnsOf C fo (nI i)) c)) = true
        rw [bt_col hC fo (by omega), decide_eq_true q4, q5]
        rfl
      rw [h5, Bool.or_true]
end
theorem itr_orB {f : Nat → Int32 → Int32} {Q : Nat → Nat → Prop} : ∀ (n i : Nat) (a : Int32), (∀ k a j, i ≤ k → k < i + n → j < 32 → (bt (f k a) j = true ↔ bt a j = true ∨ Q k j)) → ∀ j, j < 32 → (bt (itr f n i a) j = true ↔ bt a j = true ∨ ∃ k, i ≤ k ∧ k < i + n ∧ Q k j) := by
  intro n
  induction n with
  | zero =>
    intro i a _ j _
    constructor
    · exact fun h => Or.inl h
    · rintro (h | ⟨k, h1, h2, -⟩)
      · exact h
      · omega
  | succ n ih =>
    intro i a h j hj
    refine (ih (i + 1) (f i a) (fun k a j h1 h2 h3 => h k a j (by omega) (by omega) h3) j hj).trans ?_
    rw [h i a j (Nat.le_refl _) (by omega) hj]
    constructor
    · rintro ((h1 | h1) | ⟨k, h1, h2, h3⟩)
      · exact Or.inl h1
      · exact Or.inr ⟨i, by omega, by omega, h1⟩
      · exact Or.inr ⟨k, by omega, by omega, h3⟩
    · rintro (h1 | ⟨k, h1, h2, h3⟩)
      · exact Or.inl (Or.inl h1)
      · by_cases e : k = i
        · subst e; exact Or.inl (Or.inr h3)
        · exact Or.inr ⟨k, by omega, by omega, h3⟩
theorem itr_andB {f : Nat → Int32 → Int32} {Q : Nat → Prop} : ∀ (n i : Nat) (a : Int32), (∀ k a j, i ≤ k → k < i + n → j < 32 → (bt (f k a) j = true ↔ bt a j = true ∧ (j = k → Q k))) → ∀ j, j < 32 → (bt (itr f n i a) j = true ↔ bt a j = true ∧ (i ≤ j → j < i + n → Q j)) := by
  intro n
  induction n with
  | zero =>
    intro i a _ j _
    exact ⟨fun h => ⟨h, fun h1 h2 => by omega⟩, fun h => h.1⟩
  | succ n ih =>
    intro i a h j hj
    refine (ih (i + 1) (f i a) (fun k a j h1 h2 h3 => h k a j (by omega) (by omega) h3) j hj).trans ?_
    rw [h i a j (Nat.le_refl _) (by omega) hj]
    constructor
    · rintro ⟨⟨h1, h2⟩, h3⟩
      refine ⟨h1, fun q1 q2 => ?_⟩
      by_cases e : j = i
      · have := h2 e; rw [e]; exact this
      · exact h3 (by omega) (by omega)
    · rintro ⟨h1, h2⟩
      exact ⟨⟨h1, fun e => by rw [← e]; exact h2 (by omega) (by omega)⟩, fun q1 q2 => h2 (by omega) (by omega)⟩
theorem has_iff {x : Int32} {k : Nat} (hk : k < 32) : F_X7_has x (nI k) = 0 ↔ bt x k = false := holds_iff hk
theorem with0_b {a : Int32} {i j : Nat} (hi : i < 32) (hj : j < 32) : bt (F_X7_with a (nI i) 0) j = true ↔ bt a j = true ∧ ¬ j = i := by
  unfold F_X7_with
  rw [if_pos rfl, bt_and, bt_not _ hj, bt_bit hi hj, Bool.and_eq_true, Bool.not_eq_true', decide_eq_false_iff_not]
theorem rc_div {R C j : Nat} (h : j < R * C) : j / C < R ∧ j % C < C ∧ j = j / C * C + j % C := by
  have hC : 0 < C := Nat.pos_of_ne_zero fun e => by rw [e, Nat.mul_zero] at h; exact absurd h (Nat.not_lt_zero _)
  refine ⟨(Nat.div_lt_iff_lt_mul hC).mpr h, Nat.mod_lt _ hC, ?_⟩
  have := Nat.div_add_mod j C
  rw [Nat.mul_comm] at this
  exact this.symm
theorem rc_mod {C r c : Nat} (hc : c < C) : (r * C + c) / C = r ∧ (r * C + c) % C = c := by
  refine ⟨?_, ?_⟩
  · rw [Nat.mul_comm, Nat.mul_add_div (by omega), Nat.div_eq_of_lt hc]; rfl
  · rw [Nat.mul_comm, Nat.mul_add_mod, Nat.mod_eq_of_lt hc]
section
variable {R C K : Nat} {fi br : Int32}
theorem able_iff (hR : R ≤ 5) (hC : C ≤ 5) (h0 : 0 < C) (hK : K = R * C) (hf : ∀ j, bt fi j = true → j < K) {j : Nat} (hj : j < 32) : bt (F_X7_able R C fi br K) j = true ↔ ∃ r c, r < R ∧ c < C ∧ j = r * C + c ∧ bt br r = false ∧ bt br (R + c) = false ∧ bt fi j = true := by
  have hk : K ≤ 25 := by rw [hK]; exact Nat.mul_le_mul hR hC
  refine (itr_andB (f := fun i a => S_X7_able_7 R C br i a) (Q := fun i => bt br (i / C) = false ∧ bt br (R + i % C) = false) K 0 fi (fun i a j _ h2 hj => ?_) j hj).trans ?_
  · obtain ⟨d1, d2, -⟩ := rc_div (R := R) (C := C) (j := i) (by omega)
    have e1 : (nI i) / (nI C) = nI (i / C) := pk_div (by omega) (by omega) (by omega)
    have e2 : (nI i) - (nI i) / (nI C) * (nI C) = nI (i % C) := pk_rem (by omega) (by omega) (by omega)
    show bt (S_X7_able_7 R C br i a) j = true ↔ _
    unfold S_X7_able_7
    rw [e2, e1, show nI R + nI (i % C) = nI (R + i % C) from nI_add R (i % C)]
    by_cases h3 : F_X7_has br (nI (i / C)) = 0
    · rw [if_pos h3]
      have h4 := (has_iff (by omega)).mp h3
      by_cases h5 : F_X7_has br (nI (R + i % C)) = 0
      · rw [if_pos h5]
        have h6 := (has_iff (by omega)).mp h5
        exact ⟨fun h => ⟨h, fun _ => ⟨h4, h6⟩⟩, fun h => h.1⟩
      · rw [if_neg h5, with0_b (by omega) hj]
        have h6 : ¬ bt br (R + i % C) = false := fun h => h5 ((has_iff (by omega)).mpr h)
        exact ⟨fun h => ⟨h.1, fun e => absurd e h.2⟩, fun h => ⟨h.1, fun e => h6 (h.2 e).2⟩⟩
    · rw [if_neg h3, with0_b (by omega) hj]
      have h4 : ¬ bt br (i / C) = false := fun h => h3 ((has_iff (by omega)).mpr h)
      exact ⟨fun h => ⟨h.1, fun e => absurd e h.2⟩, fun h => ⟨h.1, fun e => h4 (h.2 e).1⟩⟩
  · constructor
    · rintro ⟨h1, h2⟩
      have h3 := hf j h1
      obtain ⟨d1, d2, d3⟩ := rc_div (R := R) (C := C) (j := j) (by omega)
      obtain ⟨b1, b2⟩ := h2 (Nat.zero_le _) (by omega)
      exact ⟨j / C, j % C, d1, d2, d3, b1, b2, h1⟩
    · rintro ⟨r, c, r1, c1, rfl, b1, b2, b3⟩
      obtain ⟨e1, e2⟩ := rc_mod (r := r) c1
      exact ⟨b3, fun _ _ => by show bt br ((r * C + c) / C) = false ∧ bt br (R + (r * C + c) % C) = false; rw [e1, e2]; exact ⟨b1, b2⟩⟩
theorem live_iff (hR : R ≤ 5) (hC : C ≤ 5) {j : Nat} (hj : j < 32) : bt (F_X3_findLive R C fi br) j = true ↔ ∃ r c, r < R ∧ c < C ∧ j = r * C + c ∧ bt br r = false ∧ bt br (R + c) = false ∧ bt fi j = true := by
  refine (itr_orB (f := fun i a => S_X3_findLive_7 R C fi br i a) (Q := fun r j => ∃ c, c < C ∧ j = r * C + c ∧ bt br r = false ∧ bt br (R + c) = false ∧ bt fi j = true) R 0 0 (fun r a j _ h2 hj => ?_) j hj).trans ?_
  · refine (itr_orB (f := fun i a => S_X3_findLive_17 R C fi br r i a) (Q := fun c j => j = r * C + c ∧ bt br r = false ∧ bt br (R + c) = false ∧ bt fi j = true) C 0 a (fun c a j _ h3 hj => ?_) j hj).trans ?_
    · have hr : r < R := by omega
      have hc : c < C := by omega
      have h25 := rc_lt hR hC hr hc
      show bt (S_X3_findLive_17 R C fi br r c a) j = true ↔ _
      unfold S_X3_findLive_17
      rw [mul_nI r (by omega) C (by omega), show nI (r * C) + nI c = nI (r * C + c) from nI_add _ _, show nI R + nI c = nI (R + c) from nI_add _ _]
      by_cases h4 : F_X4_holds br (nI r) = 0
      · have b4 := (holds_iff (by omega)).mp h4
        rw [if_pos h4]
        by_cases h5 : F_X4_holds br (nI (R + c)) = 0
        · have b5 := (holds_iff (by omega)).mp h5
          rw [if_pos h5]
          by_cases h6 : F_X4_holds fi (nI (r * C + c)) = 0
          · have b6 := (holds_iff (by omega)).mp h6
            rw [if_pos h6]
            exact ⟨fun h => Or.inl h, fun h => h.resolve_right (fun ⟨e, _, _, b⟩ => by rw [e, b6] at b; exact absurd b (by decide))⟩
          · have b6 : bt fi (r * C + c) = true := by
              cases e : bt fi (r * C + c) with
              | true => rfl
              | false => exact absurd ((holds_iff (by omega)).mpr e) h6
            rw [if_neg h6, bt_or, bt_bit (by omega) hj, Bool.or_eq_true, decide_eq_true_eq]
            exact ⟨fun h => h.imp id (fun e => ⟨e, b4, b5, by rw [e]; exact b6⟩), fun h => h.imp id (fun e => e.1)⟩
        · have b5 : ¬ bt br (R + c) = false := fun h => h5 ((holds_iff (by omega)).mpr h)
          rw [if_neg h5]
          have : (if F_X4_holds fi (nI (r * C + c)) = 0 then a else a) = a := by split <;> rfl
          rw [this]
          exact ⟨fun h => Or.inl h, fun h => h.resolve_right (fun ⟨_, _, b, _⟩ => b5 b)⟩
      · have b4 : ¬ bt br r = false := fun h => h4 ((holds_iff (by omega)).mpr h)
        rw [if_neg h4]
        have : (if F_X4_holds fi (nI (r * C + c)) = 0 then a else a) = a := by split <;> rfl
        rw [this]
        exact ⟨fun h => Or.inl h, fun h => h.resolve_right (fun ⟨_, b, _, _⟩ => b4 b)⟩
    · constructor
      · rintro (h | ⟨c, -, h1, h2⟩)
        · exact Or.inl h
        · exact Or.inr ⟨c, by omega, h2⟩
      · rintro (h | ⟨c, h1, h2⟩)
        · exact Or.inl h
        · exact Or.inr ⟨c, Nat.zero_le _, by omega, h2⟩
  · constructor
    · rintro (h | ⟨r, -, h1, c, h2, h3⟩)
      · rw [bt_0] at h; exact absurd h (by decide)
      · exact ⟨r, c, by omega, h2, h3⟩
    · rintro ⟨r, c, h1, h2, h3⟩
      exact Or.inr ⟨r, Nat.zero_le _, by omega, c, h2, h3⟩
/-- the class's live keys are the reference's able ones -/
theorem live_able (hR : R ≤ 5) (hC : C ≤ 5) (h0 : 0 < C) (hK : K = R * C) (hf : ∀ j, bt fi j = true → j < K) : F_X3_findLive R C fi br = F_X7_able R C fi br K := bt_ext fun j hj => by
  have h1 := live_iff (fi := fi) (br := br) hR hC hj
  have h2 := able_iff (fi := fi) (br := br) hR hC h0 hK hf hj
  have h3 := h1.trans h2.symm
  cases e : bt (F_X3_findLive R C fi br) j with
  | true => exact (h3.mp e).symm
  | false =>
    cases e2 : bt (F_X7_able R C fi br K) j with
    | false => rfl
    | true => rw [h3.mpr e2] at e; exact absurd e (by decide)
/-- what is seen, both sides -/
theorem seen_eq (hR : R ≤ 5) (hC : C ≤ 5) (h0 : 0 < C) (hK : K = R * C) (hf : ∀ j, bt fi j = true → j < K) {di li x1 : Int32} (hli : li = F_X3_findLive R C fi br) : F_X3_seenIf R C fi di li x1 = F_X7_seenOf R C fi br K x1 di := by
  subst hli
  have hla := live_able (br := br) hR hC h0 hK hf
  have e6 : T_X3_seenIf_6 (F_X3_findLive R C fi br) x1 = T_X7_seenOf_6 R C fi br K x1 := by
    show x1 &&& (F_X3_findLive R C fi br) = x1 &&& (F_X7_able R C fi br K)
    rw [hla]
  have e15 : T_X3_seenIf_15 di (F_X3_findLive R C fi br) x1 = T_X7_seenOf_12 R C fi br K x1 di := by
    show (T_X3_seenIf_6 (F_X3_findLive R C fi br) x1) &&& (di ^^^ (-1)) = (T_X7_seenOf_6 R C fi br K x1) &&& (di ^^^ (-1))
    rw [e6]
  obtain ⟨m, m1, m2⟩ := seenO_iff (R := R) (C := C) (fi := fi) (br := br) (K := K) (x1 := x1) (x2 := di) hR hC rfl rfl (fun j hj => by
    have hj32 : j < 32 := Nat.lt_of_not_le fun h => by rw [bt_big _ h] at hj; exact absurd hj (by decide)
    have hj : bt (x1 &&& (F_X7_able R C fi br K)) j = true := hj
    rw [bt_and, Bool.and_eq_true] at hj
    obtain ⟨r, c, h1, h2, h3, -⟩ := (able_iff hR hC h0 hK hf hj32).mp hj.2
    exact ⟨r, c, h1, h2, h3⟩)
  have hS : (fun i a => S_X3_seenIf_22 R C di (F_X3_findLive R C fi br) x1 i a) = fun i a => if F_X3_columnsOf C (T_X7_seenOf_6 R C fi br K x1) (nI i) = 0 then a else a ||| ((F_X3_spread R C (F_X3_columnsOf C (T_X7_seenOf_6 R C fi br K x1) (nI i)) (T_X7_seenOf_6 R C fi br K x1) (T_X7_seenOf_12 R C fi br K x1 di) R) <<< (((nI i) * (nI C)) &&& 31)) := by
    funext i a
    unfold S_X3_seenIf_22
    rw [e6, e15]
  rw [m1]
  unfold F_X3_seenIf
  refine congrArg (fun y => y &&& fi) (bt_ext fun j hj => ?_)
  rw [hS]
  have h3 := (seenI_iff (fo := T_X7_seenOf_6 R C fi br K x1) (ba := T_X7_seenOf_12 R C fi br K x1 di) hR hC j).trans (m2 j).symm
  cases e : bt m j with
  | true => exact h3.mpr e
  | false =>
    cases e2 : bt (itr (fun i a => if F_X3_columnsOf C (T_X7_seenOf_6 R C fi br K x1) (nI i) = 0 then a else a ||| ((F_X3_spread R C (F_X3_columnsOf C (T_X7_seenOf_6 R C fi br K x1) (nI i)) (T_X7_seenOf_6 R C fi br K x1) (T_X7_seenOf_12 R C fi br K x1 di) R) <<< (((nI i) * (nI C)) &&& 31))) R 0 0) j with
    | false => rfl
    | true => rw [h3.mp e2] at e; exact absurd e (by decide)
end

theorem smod25 : ∀ k, k < 26 → ((nI k &&& 31).toBitVec.smod 32).toNat = k := by decide +kernel

theorem set_iff {K : Nat} {x : Int32} (hK : K ≤ 25) : (F_X3_isSet K x = 0 ∧ ¬ F_X7_isNoSet K x = 0) ∨ (¬ F_X3_isSet K x = 0 ∧ F_X7_isNoSet K x = 0 ∧ 0 ≤ x) := by
  unfold F_X3_isSet F_X7_isNoSet
  by_cases h1 : x < 0
  · rw [if_pos h1, if_pos h1]
    exact Or.inl ⟨rfl, by decide⟩
  · obtain ⟨j, hj, rfl⟩ := nI_of h1
    have h2 : 2 ^ K ≤ 2 ^ 25 := Nat.pow_le_pow_right (by decide) hK
    have h3 : nI j >>> (F_Jx4a65c_size_8abf5 K &&& 31) = nI (j / 2 ^ K) := pk_shrN hj _ K (smod25 K (by omega))
    rw [if_neg h1, if_neg h1, shl25 K (by omega), h3]
    by_cases h4 : j < 2 ^ K
    · rw [if_neg (nI_ge h4 (by omega)), Nat.div_eq_of_lt h4, if_pos (show nI 0 = 0 from rfl)]
      exact Or.inr ⟨by decide, rfl, Int32.not_lt.mp h1⟩
    · have h5 : ¬ nI (j / 2 ^ K) = 0 := fun e => by
        have h6 := congrArg Int32.toInt e
        have h7 : j / 2 ^ K ≤ j := Nat.div_le_self _ _
        rw [nI_toInt (by omega), show (0 : Int32).toInt = 0 from by decide] at h6
        have h8 : 0 < j / 2 ^ K := Nat.div_pos (by omega) (Nat.two_pow_pos K)
        omega
      rw [if_pos (nI_le (by omega) hj), if_neg h5]
      exact Or.inl ⟨rfl, by decide⟩
/-- the wiring alike on both sides -/
def WQ (R C K mR mC mK : Nat) (fi di br li mfi mdi mbr : Int32) : Prop := R = mR ∧ C = mC ∧ K = mK ∧ fi = mfi ∧ di = mdi ∧ br = mbr ∧ li = F_X3_findLive R C fi br ∧ ∀ j, bt fi j = true → j < K
theorem lay_live : ∀ a, a < 6 → ∀ b, b < 6 → fitI (a * b) = F_X3_findLive a b (fitI (a * b)) 0 := by decide +kernel
theorem fit_b : ∀ k, k < 26 → ∀ j, j < 32 → bt (fitI k) j = decide (j < k) := by decide +kernel
theorem lay_w {sc : Nat} {pa : Int32} {gu : Int32} {cl : Int32} {se : Int32} {R : Nat} {C : Nat} {K : Nat} {fi : Int32} {di : Int32} {br : Int32} {li : Int32} {he : Int32} {dn : Int32} {ea : Int32} {lo : Int32} {Ch : Nat} {ct : Int32} {ml : Int32} {n : Nat} {fB : Nat → Int32} {fS : Nat → Int32} {fN : Nat → Int32} {fM : Nat → Int32} {fCn : Nat → Int32} {fE : Nat → Int32} {fLE : Nat → Int32} {fC : Nat → Int32} {fG : Nat → Int32} {fI : Nat → Int32} {x1 : Int32} {x2 : Int32} {mR : Nat} {mC : Nat} {mfi : Int32} {mdi : Int32} {mhe : Int32} {mbr : Int32} {mpa : Int32} {mgu : Int32} {msc : Nat} {mcl : Int32} {mse : Int32} {mlo : Int32} {mkm : Int32} {mK : Nat} {mkn : Nat} {mhm : Int32} {mnh : Nat} {mml : Int32} {mn : Nat} {mV : Nat → KV} (h : WQ R C K mR mC mK fi di br li mfi mdi mbr) : WQ ((F_L_lay sc pa gu cl se R C K fi di br li he dn ea lo Ch ct ml n fB fS fN fM fCn fE fLE fC fG fI x1 x2).2.2.2.2.2.2.2.2.2.2.2.2.2.2.2.2.2.2.1) ((F_L_lay sc pa gu cl se R C K fi di br li he dn ea lo Ch ct ml n fB fS fN fM fCn fE fLE fC fG fI x1 x2).2.2.2.2.2.2.2.2.2.2.2.2.2.2.2.2.2.2.2.1) ((F_L_lay sc pa gu cl se R C K fi di br li he dn ea lo Ch ct ml n fB fS fN fM fCn fE fLE fC fG fI x1 x2).2.2.2.2.2.2.2.2.2.2.2.2.2.2.2.2.2.2.2.2.1) ((F_X7_lay mR mC mfi mdi mhe mbr mpa mgu msc mcl mse mlo mkm mK mkn mhm mnh mml mn mV x1 x2).2.2.1) ((F_X7_lay mR mC mfi mdi mhe mbr mpa mgu msc mcl mse mlo mkm mK mkn mhm mnh mml mn mV x1 x2).2.2.2.1) ((F_X7_lay mR mC mfi mdi mhe mbr mpa mgu msc mcl mse mlo mkm mK mkn mhm mnh mml mn mV x1 x2).2.2.2.2.2.2.2.2.2.2.2.2.2.2.2.2.2.2.2.2.2.1) ((F_L_lay sc pa gu cl se R C K fi di br li he dn ea lo Ch ct ml n fB fS fN fM fCn fE fLE fC fG fI x1 x2).2.2.2.2.2.2.2.2.2.2.2.2.2.2.2.2.2.2.2.2.2.1) ((F_L_lay sc pa gu cl se R C K fi di br li he dn ea lo Ch ct ml n fB fS fN fM fCn fE fLE fC fG fI x1 x2).2.2.2.2.2.2.2.2.2.2.2.2.2.2.2.2.2.2.2.2.2.2.1) ((F_L_lay sc pa gu cl se R C K fi di br li he dn ea lo Ch ct ml n fB fS fN fM fCn fE fLE fC fG fI x1 x2).2.2.2.2.2.2.2.2.2.2.2.2.2.2.2.2.2.2.2.2.2.2.2.1) ((F_L_lay sc pa gu cl se R C K fi di br li he dn ea lo Ch ct ml n fB fS fN fM fCn fE fLE fC fG fI x1 x2).2.2.2.2.2.2.2.2.2.2.2.2.2.2.2.2.2.2.2.2.2.2.2.2.1) ((F_X7_lay mR mC mfi mdi mhe mbr mpa mgu msc mcl mse mlo mkm mK mkn mhm mnh mml mn mV x1 x2).2.2.2.2.1) ((F_X7_lay mR mC mfi mdi mhe mbr mpa mgu msc mcl mse mlo mkm mK mkn mhm mnh mml mn mV x1 x2).2.2.2.2.2.1) ((F_X7_lay mR mC mfi mdi mhe mbr mpa mgu msc mcl mse mlo mkm mK mkn mhm mnh mml mn mV x1 x2).2.2.2.2.2.2.2.1) := by
  rcases lay_acc x1 x2 with ⟨h0, h1, h2⟩ | ⟨h0, h12⟩
  · obtain ⟨a1, a2, -⟩ := in_2 h1
    obtain ⟨b1, b2, -⟩ := in_2 h2
    have hk : x1.toNatClampNeg * x2.toNatClampNeg ≤ 25 := Nat.mul_le_mul a2 b2
    unfold F_L_lay F_X7_lay
    rw [if_pos h0, if_neg h1, if_neg h2]
    refine ⟨rfl, rfl, rfl, rfl, rfl, rfl, lay_live _ (by omega) _ (by omega), fun j hj => ?_⟩
    have hj : bt (fitI (x1.toNatClampNeg * x2.toNatClampNeg)) j = true := hj
    have h32 : j < 32 := Nat.lt_of_not_le fun q => by rw [bt_big _ q] at hj; exact absurd hj (by decide)
    rw [fit_b _ (by omega) j h32, decide_eq_true_eq] at hj
    exact hj
  · unfold F_L_lay F_X7_lay
    rw [if_neg h0]
    rcases h12 with h1 | ⟨h1, h2⟩
    · rw [if_pos h1]; exact h
    · rw [if_neg h1, if_pos h2]; exact h
theorem fit_d {R C : Nat} {fi di br x1 x2 x3 : Int32} : (F_X3_fit R C fi di br x1 x2 x3).2.1 = F_X7_with di x1 x3 ∧ (F_X3_fit R C fi di br x1 x2 x3).2.2 = F_X3_findLive R C (F_X7_with fi x1 x2) br := by
  unfold F_X3_fit F_X7_with
  by_cases h : x2 = 0
  · rw [if_pos h, if_pos h]
    by_cases h3 : x3 = 0
    · rw [if_pos h3, if_pos h3]; exact ⟨rfl, rfl⟩
    · rw [if_neg h3, if_neg h3]; exact ⟨rfl, rfl⟩
  · rw [if_neg h, if_neg h]
    by_cases h3 : x3 = 0
    · rw [if_pos h3, if_pos h3]; exact ⟨rfl, rfl⟩
    · rw [if_neg h3, if_neg h3]; exact ⟨rfl, rfl⟩
theorem with_K {fi x2 : Int32} {k K : Nat} (hk : k < K) (hK : K ≤ 25) (h : ∀ j, bt fi j = true → j < K) : ∀ j, bt (F_X7_with fi (nI k) x2) j = true → j < K := fun j hj => by
  have h32 : j < 32 := Nat.lt_of_not_le fun q => by rw [bt_big _ q] at hj; exact absurd hj (by decide)
  unfold F_X7_with at hj
  by_cases e : x2 = 0
  · rw [if_pos e, bt_and, Bool.and_eq_true] at hj
    exact h j hj.1
  · rw [if_neg e, bt_or, bt_bit (by omega) h32, Bool.or_eq_true, decide_eq_true_eq] at hj
    rcases hj with hj | hj
    · exact h j hj
    · rw [hj]; exact hk
theorem key_w {sc : Nat} {R : Nat} {C : Nat} {K : Nat} {fi : Int32} {di : Int32} {br : Int32} {li : Int32} {he : Int32} {fB : Nat → Int32} {fS : Nat → Int32} {fN : Nat → Int32} {fM : Nat → Int32} {x1 : Int32} {x2 : Int32} {x3 : Int32} {x4 : Int32} {x5 : Int32} {mfi : Int32} {mdi : Int32} {mhe : Int32} {msc : Nat} {mK : Nat} {mV : Nat → KV} {mR : Nat} {mC : Nat} {mbr : Int32} (hK : K ≤ 25) (h0 : 0 < mK) (h : WQ R C K mR mC mK fi di br li mfi mdi mbr) : WQ R C K mR mC mK ((F_L_key sc R C K fi di br li he fB fS fN fM x1 x2 x3 x4 x5).1) ((F_L_key sc R C K fi di br li he fB fS fN fM x1 x2 x3 x4 x5).2.1) br ((F_L_key sc R C K fi di br li he fB fS fN fM x1 x2 x3 x4 x5).2.2.1) ((F_X7_key mfi mdi mhe msc mK mV x1 x2 x3 x4 x5).2.2.1) ((F_X7_key mfi mdi mhe msc mK mV x1 x2 x3 x4 x5).2.2.2.1) mbr := by
  obtain ⟨e1, e2, e3, e4, e5, e6, e7, e8⟩ := h
  subst e1
  subst e2
  subst e3
  subst e4
  subst e5
  subst e6
  rcases key_acc (x1 := x1) (x2 := x2) (x4 := x4) (x5 := x5) hK h0 with ⟨g0, g1⟩ | ⟨g1, k, g2, g3, ⟨g0, g4⟩ | ⟨g0, g4, g5⟩⟩
  · have n1 : F_X7_isNoKey K x1 = 1 := (nk_01 K x1).resolve_left g1
    have hs : ¬ (F_X7_start (F_X7_isNoKey K x1) 1).1 = 0 := by rw [n1]; decide
    unfold F_L_key F_X7_key
    rw [if_neg hs, if_neg (show ¬ E_X4_key K x1 x2 x4 x5 = 0 by rw [g0]; decide)]
    exact ⟨rfl, rfl, rfl, rfl, rfl, rfl, e7, e8⟩
  · have hs : (F_X7_start (F_X7_isNoKey K x1) 1).1 = 0 := by rw [g1]; decide
    unfold F_L_key F_X7_key
    rw [if_pos hs, if_neg (show ¬ E_X4_key K x1 x2 x4 x5 = 0 by rw [g0]; decide)]
    rcases g4 with g4 | ⟨g4, g5⟩
    · rw [if_pos g4]; exact ⟨rfl, rfl, rfl, rfl, rfl, rfl, e7, e8⟩
    · rw [if_neg g4, if_pos g5]; exact ⟨rfl, rfl, rfl, rfl, rfl, rfl, e7, e8⟩
  · have hs : (F_X7_start (F_X7_isNoKey K x1) 1).1 = 0 := by rw [g1]; decide
    obtain ⟨-, l1, -⟩ := key4 (sc := sc) (R := R) (C := C) (fi := fi) (di := di) (br := br) (li := li) (he := he) (fB := fB) (fS := fS) (fN := fN) (fM := fM) (x3 := x3) g0
    have l2 : (F_X4_key sc R C K fi di br li he fB fS fN fM x1 x2 x3 x4 x5).2.2.1 = F_X7_with di x1 x3 ∧ (F_X4_key sc R C K fi di br li he fB fS fN fM x1 x2 x3 x4 x5).2.2.2.1 = F_X3_findLive R C (F_X7_with fi x1 x2) br := by
      have h := g0
      unfold E_X4_key at h
      unfold F_X4_key
      by_cases h1 : F_X3_hasKey K x1 = 0
      · rw [if_pos h1] at h; exact absurd h (by decide)
      · rw [if_neg h1] at h ⊢
        by_cases h2 : x4 < 0
        · rw [if_pos h2] at h; exact absurd h (by decide)
        · rw [if_neg h2] at h ⊢
          by_cases h3 : 5 < x4
          · rw [if_pos h3] at h; exact absurd h (by decide)
          · rw [if_neg h3] at h ⊢
            by_cases h4 : x5 < 0
            · rw [if_pos h4] at h; exact absurd h (by decide)
            · rw [if_neg h4] at h ⊢
              by_cases h5 : x5 ≤ 2
              · rw [if_pos h5]
                by_cases h6 : x2 = 0
                · rw [if_pos h6]; exact fit_d
                · rw [if_neg h6]; exact fit_d
              · rw [if_neg h5] at h; exact absurd h (by decide)
    have f1 : (F_L_key sc R C K fi di br li he fB fS fN fM x1 x2 x3 x4 x5).1 = (F_X4_key sc R C K fi di br li he fB fS fN fM x1 x2 x3 x4 x5).2.1 ∧ (F_L_key sc R C K fi di br li he fB fS fN fM x1 x2 x3 x4 x5).2.1 = (F_X4_key sc R C K fi di br li he fB fS fN fM x1 x2 x3 x4 x5).2.2.1 ∧ (F_L_key sc R C K fi di br li he fB fS fN fM x1 x2 x3 x4 x5).2.2.1 = (F_X4_key sc R C K fi di br li he fB fS fN fM x1 x2 x3 x4 x5).2.2.2.1 := by unfold F_L_key; rw [if_pos g0]; exact ⟨rfl, rfl, rfl⟩
    have f2 : (F_X7_key fi di mhe msc K mV x1 x2 x3 x4 x5).2.2.1 = F_X7_with fi x1 x2 ∧ (F_X7_key fi di mhe msc K mV x1 x2 x3 x4 x5).2.2.2.1 = F_X7_with di x1 x3 := by
      unfold F_X7_key
      rw [if_pos hs, if_neg g4, if_neg g5]
      by_cases h6 : x2 = 0
      · rw [if_pos h6]
        by_cases h7 : F_X7_has mhe x1 = 0
        · rw [if_pos h7]; exact ⟨rfl, rfl⟩
        · rw [if_neg h7]; exact ⟨rfl, rfl⟩
      · rw [if_neg h6]; exact ⟨rfl, rfl⟩
    show WQ R C K R C K ((F_L_key sc R C K fi di br li he fB fS fN fM x1 x2 x3 x4 x5).1) ((F_L_key sc R C K fi di br li he fB fS fN fM x1 x2 x3 x4 x5).2.1) br ((F_L_key sc R C K fi di br li he fB fS fN fM x1 x2 x3 x4 x5).2.2.1) ((F_X7_key fi di mhe msc K mV x1 x2 x3 x4 x5).2.2.1) ((F_X7_key fi di mhe msc K mV x1 x2 x3 x4 x5).2.2.2.1) br
    rw [f1.1, f1.2.1, f1.2.2, f2.1, f2.2, l1, l2.1, l2.2]
    subst g3
    exact ⟨rfl, rfl, rfl, rfl, rfl, rfl, rfl, with_K g2 hK e8⟩
theorem brk_w {R C : Nat} {fi br x1 x2 : Int32} : (F_X3_breakLine R C fi br x1 x2).1 = F_X7_with br x1 x2 ∧ (F_X3_breakLine R C fi br x1 x2).2 = F_X3_findLive R C fi (F_X7_with br x1 x2) := by
  unfold F_X3_breakLine F_X7_with
  by_cases h : x2 = 0
  · rw [if_pos h, if_pos h]; exact ⟨rfl, rfl⟩
  · rw [if_neg h, if_neg h]; exact ⟨rfl, rfl⟩
theorem line_acc {R C : Nat} (x1 : Int32) (hR : R ≤ 5) (hC : C ≤ 5) (h0 : 0 < R) : (E_X4_line R C x1 = 0 ∧ ¬ F_X7_isIn x1 0 ((nI R + nI C) - 1) = 0) ∨ (¬ E_X4_line R C x1 = 0 ∧ F_X7_isIn x1 0 ((nI R + nI C) - 1) = 0) := by
  rw [show nI R + nI C = nI (R + C) from nI_add R C, nI_m1 (by omega)]
  unfold E_X4_line F_X7_isIn
  rw [show nI R + nI C = nI (R + C) from nI_add R C]
  by_cases h1 : x1 < 0
  · rw [if_pos h1, if_pos h1]
    exact Or.inr ⟨by decide, rfl⟩
  · rw [if_neg h1, if_neg h1]
    by_cases h2 : x1 < nI (R + C)
    · have h3 : ¬ nI (R + C - 1) < x1 := by
        rw [Int32.lt_iff_toInt_lt, nI_toInt (by omega)] at h2 ⊢
        omega
      rw [if_pos h2, if_neg h3]
      exact Or.inl ⟨rfl, by decide⟩
    · have h3 : nI (R + C - 1) < x1 := by
        rw [Int32.lt_iff_toInt_lt, nI_toInt (by omega)] at h2 ⊢
        omega
      rw [if_neg h2, if_pos h3]
      exact Or.inr ⟨by decide, rfl⟩
theorem line_w {R : Nat} {C : Nat} {fi : Int32} {br : Int32} {li : Int32} {x1 : Int32} {x2 : Int32} {mR : Nat} {mC : Nat} {mbr : Int32} {K : Nat} {mK : Nat} {di : Int32} {mfi : Int32} {mdi : Int32} (hR : R ≤ 5) (hC : C ≤ 5) (h0 : 0 < mR) (h : WQ R C K mR mC mK fi di br li mfi mdi mbr) : WQ R C K mR mC mK fi di ((F_L_line R C fi br li x1 x2).1) ((F_L_line R C fi br li x1 x2).2) mfi mdi ((F_X7_line mR mC mbr x1 x2).2.2) := by
  obtain ⟨e1, e2, e3, e4, e5, e6, e7, e8⟩ := h
  subst e1
  subst e2
  subst e3
  subst e4
  subst e5
  subst e6
  rcases line_acc x1 hR hC h0 with ⟨g0, g1⟩ | ⟨g0, g1⟩
  · have l4 : (F_X4_line R C fi br li x1 x2).2.1 = F_X7_with br x1 x2 ∧ (F_X4_line R C fi br li x1 x2).2.2 = F_X3_findLive R C fi (F_X7_with br x1 x2) := by
      have h := g0
      unfold E_X4_line at h
      unfold F_X4_line
      by_cases h1 : x1 < 0
      · rw [if_pos h1] at h; exact absurd h (by decide)
      · rw [if_neg h1] at h ⊢
        by_cases h2 : x1 < nI R + nI C
        · rw [if_pos h2]; exact brk_w
        · rw [if_neg h2] at h; exact absurd h (by decide)
    have f1 : (F_L_line R C fi br li x1 x2).1 = (F_X4_line R C fi br li x1 x2).2.1 ∧ (F_L_line R C fi br li x1 x2).2 = (F_X4_line R C fi br li x1 x2).2.2 := by unfold F_L_line; rw [if_pos g0]; exact ⟨rfl, rfl⟩
    have f2 : (F_X7_line R C br x1 x2).2.2 = F_X7_with br x1 x2 := by unfold F_X7_line; rw [if_neg g1, if_pos s0_eq]
    show WQ R C K R C K fi di ((F_L_line R C fi br li x1 x2).1) ((F_L_line R C fi br li x1 x2).2) fi di ((F_X7_line R C br x1 x2).2.2)
    rw [f1.1, f1.2, f2, l4.1, l4.2]
    exact ⟨rfl, rfl, rfl, rfl, rfl, rfl, rfl, e8⟩
  · have f1 : (F_L_line R C fi br li x1 x2).1 = br ∧ (F_L_line R C fi br li x1 x2).2 = li := by unfold F_L_line; rw [if_neg g0]; exact ⟨rfl, rfl⟩
    have f2 : (F_X7_line R C br x1 x2).2.2 = br := by unfold F_X7_line; rw [if_pos g1, if_neg s1_ne]
    show WQ R C K R C K fi di ((F_L_line R C fi br li x1 x2).1) ((F_L_line R C fi br li x1 x2).2) fi di ((F_X7_line R C br x1 x2).2.2)
    rw [f1.1, f1.2, f2]
    exact ⟨rfl, rfl, rfl, rfl, rfl, rfl, e7, e8⟩
theorem wq_0 : WQ 3 3 (3 * 3) 3 3 9 (fitI (3 * 3)) 0 0 (fitI (3 * 3)) (((1 : Int32) <<< ((nI 9) &&& 31)) - 1) 0 0 := ⟨rfl, rfl, rfl, rfl, rfl, rfl, lay_live 3 (by omega) 3 (by omega), fun j hj => by
  have h32 : j < 32 := Nat.lt_of_not_le fun q => by rw [bt_big _ q] at hj; exact absurd hj (by decide)
  rw [fit_b (3 * 3) (by omega) j h32, decide_eq_true_eq] at hj
  exact hj⟩
/-- what is seen, by what stands alike -/
theorem seen_w {R C K mR mC mK : Nat} {fi di br li mfi mdi mbr x1 : Int32} (hR : R ≤ 5) (hC : C ≤ 5) (h0 : 0 < mC) (hRC : mR * mC = mK) (h : WQ R C K mR mC mK fi di br li mfi mdi mbr) : F_X3_seenIf R C fi di li x1 = F_X7_seenOf mR mC mfi mbr mK x1 mdi := by
  obtain ⟨e1, e2, e3, e4, e5, e6, e7, e8⟩ := h
  subst e1
  subst e2
  subst e3
  subst e4
  subst e5
  subst e6
  exact seen_eq hR hC h0 hRC.symm e8 e7

theorem lay4_he {he : Int32} {dn : Int32} {ea : Int32} {lo : Int32} {Ch : Nat} {ct : Int32} {ml : Int32} {n : Nat} {fB : Nat → Int32} {fS : Nat → Int32} {fN : Nat → Int32} {fM : Nat → Int32} {fCn : Nat → Int32} {fE : Nat → Int32} {fLE : Nat → Int32} {fC : Nat → Int32} {fG : Nat → Int32} {fI : Nat → Int32} {x1 : Int32} {x2 : Int32} (h : E_X4_lay x1 x2 = 0) : (F_X4_lay he dn ea lo Ch ct ml n fB fS fN fM fCn fE fLE fC fG fI x1 x2).2.2.2.2.2.1 = 0 := by
  unfold F_X4_lay
  rw [if_neg (lay4_acc h).1, if_neg (lay4_acc h).2]
  rfl

theorem lay_he {sc : Nat} {pa : Int32} {gu : Int32} {cl : Int32} {se : Int32} {R : Nat} {C : Nat} {K : Nat} {fi : Int32} {di : Int32} {br : Int32} {li : Int32} {he : Int32} {dn : Int32} {ea : Int32} {lo : Int32} {Ch : Nat} {ct : Int32} {ml : Int32} {n : Nat} {fB : Nat → Int32} {fS : Nat → Int32} {fN : Nat → Int32} {fM : Nat → Int32} {fCn : Nat → Int32} {fE : Nat → Int32} {fLE : Nat → Int32} {fC : Nat → Int32} {fG : Nat → Int32} {fI : Nat → Int32} {x1 : Int32} {x2 : Int32} {mR : Nat} {mC : Nat} {mfi : Int32} {mdi : Int32} {mhe : Int32} {mbr : Int32} {mpa : Int32} {mgu : Int32} {msc : Nat} {mcl : Int32} {mse : Int32} {mlo : Int32} {mkm : Int32} {mK : Nat} {mkn : Nat} {mhm : Int32} {mnh : Nat} {mml : Int32} {mn : Nat} {mV : Nat → KV} (h : he = mhe) : (F_L_lay sc pa gu cl se R C K fi di br li he dn ea lo Ch ct ml n fB fS fN fM fCn fE fLE fC fG fI x1 x2).2.2.2.2.1 = (F_X7_lay mR mC mfi mdi mhe mbr mpa mgu msc mcl mse mlo mkm mK mkn mhm mnh mml mn mV x1 x2).2.2.2.2.2.2.1 := by
  rcases lay_acc x1 x2 with ⟨h0, h1, h2⟩ | ⟨h0, h1 | ⟨h1, h2⟩⟩
  · unfold F_L_lay F_X7_lay
    rw [if_pos h0, if_neg h1, if_neg h2]
    all_goals first | rfl | exact (lay4_he h0)
  · unfold F_L_lay F_X7_lay
    rw [if_neg h0, if_pos h1]
    exact h
  · unfold F_L_lay F_X7_lay
    rw [if_neg h0, if_neg h1, if_pos h2]
    exact h

theorem lay_fi {sc : Nat} {pa : Int32} {gu : Int32} {cl : Int32} {se : Int32} {R : Nat} {C : Nat} {K : Nat} {fi : Int32} {di : Int32} {br : Int32} {li : Int32} {he : Int32} {dn : Int32} {ea : Int32} {lo : Int32} {Ch : Nat} {ct : Int32} {ml : Int32} {n : Nat} {fB : Nat → Int32} {fS : Nat → Int32} {fN : Nat → Int32} {fM : Nat → Int32} {fCn : Nat → Int32} {fE : Nat → Int32} {fLE : Nat → Int32} {fC : Nat → Int32} {fG : Nat → Int32} {fI : Nat → Int32} {x1 : Int32} {x2 : Int32} {mR : Nat} {mC : Nat} {mfi : Int32} {mdi : Int32} {mhe : Int32} {mbr : Int32} {mpa : Int32} {mgu : Int32} {msc : Nat} {mcl : Int32} {mse : Int32} {mlo : Int32} {mkm : Int32} {mK : Nat} {mkn : Nat} {mhm : Int32} {mnh : Nat} {mml : Int32} {mn : Nat} {mV : Nat → KV} (h : fi = mfi) : (F_L_lay sc pa gu cl se R C K fi di br li he dn ea lo Ch ct ml n fB fS fN fM fCn fE fLE fC fG fI x1 x2).2.2.2.2.2.2.2.2.2.2.2.2.2.2.2.2.2.2.2.2.2.1 = (F_X7_lay mR mC mfi mdi mhe mbr mpa mgu msc mcl mse mlo mkm mK mkn mhm mnh mml mn mV x1 x2).2.2.2.2.1 := by
  rcases lay_acc x1 x2 with ⟨h0, h1, h2⟩ | ⟨h0, h1 | ⟨h1, h2⟩⟩
  · unfold F_L_lay F_X7_lay
    rw [if_pos h0, if_neg h1, if_neg h2]
    all_goals first | rfl | exact rfl
  · unfold F_L_lay F_X7_lay
    rw [if_neg h0, if_pos h1]
    exact h
  · unfold F_L_lay F_X7_lay
    rw [if_neg h0, if_neg h1, if_pos h2]
    exact h

theorem lay_K {sc : Nat} {pa : Int32} {gu : Int32} {cl : Int32} {se : Int32} {R : Nat} {C : Nat} {K : Nat} {fi : Int32} {di : Int32} {br : Int32} {li : Int32} {he : Int32} {dn : Int32} {ea : Int32} {lo : Int32} {Ch : Nat} {ct : Int32} {ml : Int32} {n : Nat} {fB : Nat → Int32} {fS : Nat → Int32} {fN : Nat → Int32} {fM : Nat → Int32} {fCn : Nat → Int32} {fE : Nat → Int32} {fLE : Nat → Int32} {fC : Nat → Int32} {fG : Nat → Int32} {fI : Nat → Int32} {x1 : Int32} {x2 : Int32} {mR : Nat} {mC : Nat} {mfi : Int32} {mdi : Int32} {mhe : Int32} {mbr : Int32} {mpa : Int32} {mgu : Int32} {msc : Nat} {mcl : Int32} {mse : Int32} {mlo : Int32} {mkm : Int32} {mK : Nat} {mkn : Nat} {mhm : Int32} {mnh : Nat} {mml : Int32} {mn : Nat} {mV : Nat → KV} (h : K = mK) : (F_L_lay sc pa gu cl se R C K fi di br li he dn ea lo Ch ct ml n fB fS fN fM fCn fE fLE fC fG fI x1 x2).2.2.2.2.2.2.2.2.2.2.2.2.2.2.2.2.2.2.2.2.1 = (F_X7_lay mR mC mfi mdi mhe mbr mpa mgu msc mcl mse mlo mkm mK mkn mhm mnh mml mn mV x1 x2).2.2.2.2.2.2.2.2.2.2.2.2.2.2.2.2.2.2.2.2.2.1 := by
  rcases lay_acc x1 x2 with ⟨h0, h1, h2⟩ | ⟨h0, h1 | ⟨h1, h2⟩⟩
  · unfold F_L_lay F_X7_lay
    rw [if_pos h0, if_neg h1, if_neg h2]
    all_goals first | rfl | exact rfl
  · unfold F_L_lay F_X7_lay
    rw [if_neg h0, if_pos h1]
    exact h
  · unfold F_L_lay F_X7_lay
    rw [if_neg h0, if_neg h1, if_pos h2]
    exact h

theorem lay_hb {sc : Nat} {pa : Int32} {gu : Int32} {cl : Int32} {se : Int32} {R : Nat} {C : Nat} {K : Nat} {fi : Int32} {di : Int32} {br : Int32} {li : Int32} {he : Int32} {dn : Int32} {ea : Int32} {lo : Int32} {Ch : Nat} {ct : Int32} {ml : Int32} {n : Nat} {fB : Nat → Int32} {fS : Nat → Int32} {fN : Nat → Int32} {fM : Nat → Int32} {fCn : Nat → Int32} {fE : Nat → Int32} {fLE : Nat → Int32} {fC : Nat → Int32} {fG : Nat → Int32} {fI : Nat → Int32} {x1 : Int32} {x2 : Int32} (h : (∃ b, b < 2 ^ 25 ∧ he = nI b) ∧ ∃ b, b < 2 ^ 25 ∧ fi = nI b) : (∃ b, b < 2 ^ 25 ∧ (F_L_lay sc pa gu cl se R C K fi di br li he dn ea lo Ch ct ml n fB fS fN fM fCn fE fLE fC fG fI x1 x2).2.2.2.2.1 = nI b) ∧ ∃ b, b < 2 ^ 25 ∧ (F_L_lay sc pa gu cl se R C K fi di br li he dn ea lo Ch ct ml n fB fS fN fM fCn fE fLE fC fG fI x1 x2).2.2.2.2.2.2.2.2.2.2.2.2.2.2.2.2.2.2.2.2.2.1 = nI b := by
  rcases lay_acc x1 x2 with ⟨h0, h1, h2⟩ | ⟨h0, -⟩
  · obtain ⟨a1, a2, -⟩ := in_2 h1
    obtain ⟨b1, b2, -⟩ := in_2 h2
    have hk : x1.toNatClampNeg * x2.toNatClampNeg ≤ 25 := Nat.mul_le_mul a2 b2
    have f1 : (F_L_lay sc pa gu cl se R C K fi di br li he dn ea lo Ch ct ml n fB fS fN fM fCn fE fLE fC fG fI x1 x2).2.2.2.2.1 = 0 := by unfold F_L_lay; rw [if_pos h0]; exact lay4_he h0
    have f2 : (F_L_lay sc pa gu cl se R C K fi di br li he dn ea lo Ch ct ml n fB fS fN fM fCn fE fLE fC fG fI x1 x2).2.2.2.2.2.2.2.2.2.2.2.2.2.2.2.2.2.2.2.2.2.1 = fitI (x1.toNatClampNeg * x2.toNatClampNeg) := by unfold F_L_lay; rw [if_pos h0]
    rw [f1, f2]
    refine ⟨⟨0, by decide, rfl⟩, 2 ^ (x1.toNatClampNeg * x2.toNatClampNeg) - 1, ?_, ?_⟩
    · have := Nat.pow_le_pow_right (show 0 < 2 by decide) hk
      omega
    · unfold fitI
      rw [shl25 _ (by omega)]
      exact nI_m1 (Nat.two_pow_pos _)
  · have f1 : (F_L_lay sc pa gu cl se R C K fi di br li he dn ea lo Ch ct ml n fB fS fN fM fCn fE fLE fC fG fI x1 x2).2.2.2.2.1 = he ∧ (F_L_lay sc pa gu cl se R C K fi di br li he dn ea lo Ch ct ml n fB fS fN fM fCn fE fLE fC fG fI x1 x2).2.2.2.2.2.2.2.2.2.2.2.2.2.2.2.2.2.2.2.2.2.1 = fi := by unfold F_L_lay; rw [if_neg h0]; exact ⟨rfl, rfl⟩
    rw [f1.1, f1.2]
    exact h
theorem hold4 {sc : Nat} {K : Nat} {fi : Int32} {he : Int32} {fB : Nat → Int32} {fN : Nat → Int32} {fM : Nat → Int32} {x1 : Int32} {x2 : Int32} (h : E_X4_hold K fi x1 = 0) : (F_X4_hold sc K fi he fB fN fM x1 x2).2.1 = (F_X0_move fB fN fM he x1.toNatClampNeg x2 (nI sc)).1 := by
  unfold E_X4_hold at h
  unfold F_X4_hold
  by_cases h1 : F_X3_hasKey K x1 = 0
  · rw [if_pos h1] at h; exact absurd h (by decide)
  · rw [if_neg h1] at h ⊢
    by_cases h2 : F_X4_holds fi x1 = 0
    · rw [if_pos h2] at h; exact absurd h (by decide)
    · rw [if_neg h2]
theorem hold_acc {K : Nat} {fi x1 : Int32} (hK : K ≤ 25) (h0 : 0 < K) : (¬ E_X4_hold K fi x1 = 0 ∧ ¬ F_X7_isNoKey K x1 = 0) ∨ (F_X7_isNoKey K x1 = 0 ∧ ∃ k, k < K ∧ x1 = nI k ∧ ((¬ E_X4_hold K fi x1 = 0 ∧ F_X7_has fi x1 = 0) ∨ (E_X4_hold K fi x1 = 0 ∧ ¬ F_X7_has fi x1 = 0))) := by
  unfold E_X4_hold
  rcases key_iff (x := x1) hK h0 with ⟨a1, a2⟩ | ⟨a1, a2, k, a3, a4⟩
  · rw [if_pos a1]; exact Or.inl ⟨by decide, a2⟩
  · rw [if_neg a1]
    refine Or.inr ⟨a2, k, a3, a4, ?_⟩
    by_cases h : F_X4_holds fi x1 = 0
    · rw [if_pos h]; exact Or.inl ⟨by decide, h⟩
    · rw [if_neg h]; exact Or.inr ⟨rfl, h⟩
/-- hold leaves what is held alike on both sides -/
theorem hold_eq {sc : Nat} {K : Nat} {fi : Int32} {he : Int32} {fB : Nat → Int32} {fN : Nat → Int32} {fM : Nat → Int32} {x1 : Int32} {x2 : Int32} {mfi : Int32} {mhe : Int32} {msc : Nat} {mK : Nat} {mV : Nat → KV} (hK : K ≤ 25) (h0 : 0 < mK) (hx2 : x2 = 0 ∨ x2 = 1) (h : he = mhe ∧ fi = mfi ∧ K = mK ∧ (∃ b, b < 2 ^ 25 ∧ he = nI b) ∧ ∃ b, b < 2 ^ 25 ∧ fi = nI b) : (F_L_hold sc K fi he fB fN fM x1 x2).1 = (F_X7_hold mfi mhe msc mK mV x1 x2).2.2.1 ∧ ∃ b, b < 2 ^ 25 ∧ (F_L_hold sc K fi he fB fN fM x1 x2).1 = nI b := by
  obtain ⟨e1, e2, e3, hb, hf⟩ := h
  subst e1
  subst e2
  subst e3
  rcases hold_acc (fi := fi) (x1 := x1) hK h0 with ⟨g0, g1⟩ | ⟨g1, k, g2, g3, ⟨g0, g4⟩ | ⟨g0, g4⟩⟩
  · have n1 : F_X7_isNoKey K x1 = 1 := (nk_01 K x1).resolve_left g1
    have hs : ¬ (F_X7_start (F_X7_isNoKey K x1) 1).1 = 0 := by rw [n1]; decide
    have f1 : (F_L_hold sc K fi he fB fN fM x1 x2).1 = he := by unfold F_L_hold; rw [if_neg g0]
    have f4 : (F_X7_hold fi he msc K mV x1 x2).2.2.1 = he := by unfold F_X7_hold; rw [if_neg hs]
    rw [f1, f4]
    exact ⟨rfl, hb⟩
  · have hs : (F_X7_start (F_X7_isNoKey K x1) 1).1 = 0 := by rw [g1]; decide
    have f1 : (F_L_hold sc K fi he fB fN fM x1 x2).1 = he := by unfold F_L_hold; rw [if_neg g0]
    have f4 : (F_X7_hold fi he msc K mV x1 x2).2.2.1 = he := by unfold F_X7_hold; rw [if_pos hs, if_pos g4]
    rw [f1, f4]
    exact ⟨rfl, hb⟩
  · have hs : (F_X7_start (F_X7_isNoKey K x1) 1).1 = 0 := by rw [g1]; decide
    have f1 : (F_L_hold sc K fi he fB fN fM x1 x2).1 = (F_X4_hold sc K fi he fB fN fM x1 x2).2.1 := by unfold F_L_hold; rw [if_pos g0]
    have f4 : (F_X7_hold fi he msc K mV x1 x2).2.2.1 = (if F_X7_has he x1 = x2 then he else F_X7_with he (nI x1.toNatClampNeg) x2) := by
      unfold F_X7_hold
      rw [if_pos hs, if_neg g4]
      by_cases h7 : F_X7_has he x1 = x2
      · rw [if_pos h7, if_pos h7]
      · rw [if_neg h7, if_neg h7]; rfl
    have l2 := hold4 (sc := sc) (he := he) (fB := fB) (fN := fN) (fM := fM) (x2 := x2) g0
    rw [f1, f4, l2]
    subst g3
    rw [nI_clamp (by omega), move_w (by omega) hx2]
    refine ⟨rfl, ?_⟩
    by_cases h7 : F_X7_has he (nI k) = x2
    · rw [if_pos h7]; exact hb
    · rw [if_neg h7]; exact with25 hb (by omega)

/-! the least keys round a key: the class's bounded search and the reference's -/
def Nx (R C : Nat) (fo ba a : Int32) : Int32 := itr (fun i b => S_X3_spread_20 C fo ba a i b) R 0 a
theorem spr_one {R C : Nat} {fo ba a : Int32} : F_X3_spread R C a fo ba 1 = Nx R C fo ba a := by
  show (if Nx R C fo ba a = a then a else Nx R C fo ba a) = Nx R C fo ba a
  by_cases h : Nx R C fo ba a = a
  · rw [if_pos h, h]
  · rw [if_neg h]
def wayA (R C : Nat) (fo ba : Int32) (q : Int32) : Nat → Nat → Int32 → Int32
  | 0, _, _ => -1
  | n + 1, i, a => if F_X4_holds (Nx R C fo ba a) q = 0 then wayA R C fo ba q n (i + 1) (Nx R C fo ba a) else nI (2 * i + 3)
def wayB (R C : Nat) (fo ba : Int32) (q : Int32) : Nat → Int32 → Int32 → Int32
  | 0, _, s => s
  | n + 1, a, s => if F_X4_holds a q = 0 then (if Nx R C fo ba a = a then -1 else wayB R C fo ba q n (Nx R C fo ba a) (s + 2)) else s
theorem wayA_no {R C : Nat} {fo ba q a : Int32} (h : Nx R C fo ba a = a) (h0 : F_X4_holds a q = 0) : ∀ n i, wayA R C fo ba q n i a = -1
  | 0, _ => rfl
  | n + 1, i => by
    show (if F_X4_holds (Nx R C fo ba a) q = 0 then wayA R C fo ba q n (i + 1) (Nx R C fo ba a) else nI (2 * i + 3)) = -1
    rw [h, if_pos h0]
    exact wayA_no h h0 n (i + 1)
section
variable {R C : Nat} {fo ba : Int32}
/-- rows that have no more to give: done ones, and one that gave all at the start -/
def gvn (R C : Nat) (fo ba a : Int32) (r i : Nat) : Bool := decide (i < R) && (decide (i = r) || dnR C fo ba a i)
theorem way_grow (hR : R ≤ 5) (hC : C ≤ 5) {a : Int32} {r : Nat} (hr : r < R) (h0 : ∀ c, c < C → bt fo (r * C + c) = true → bt a c = true) (hne : ¬ Nx R C fo ba a = a) : ct (gvn R C fo ba a r) R < ct (gvn R C fo ba (Nx R C fo ba a) r) R := by
  have hs := spr_1 (fo := fo) (ba := ba) hR hC a
  have hs : ∀ c, bt (Nx R C fo ba a) c = true ↔ _ := hs
  generalize Nx R C fo ba a = a' at hs hne ⊢
  have hu : ∀ c, bt a c = true → bt a' c = true := fun c hc => (hs c).mpr (Or.inl hc)
  have hx : ∃ c, bt a' c = true ∧ ¬ bt a c = true := by
    refine Classical.byContradiction fun hn => hne (bt_ext fun j _ => ?_)
    cases e : bt a' j with
    | true =>
      cases e2 : bt a j with
      | true => rfl
      | false => exact absurd ⟨j, e, by rw [e2]; decide⟩ hn
    | false =>
      cases e2 : bt a j with
      | false => rfl
      | true => rw [hu j e2] at e; exact absurd e (by decide)
  obtain ⟨c, c1, c2⟩ := hx
  obtain ⟨i, i1, i2, i3, i4⟩ := ((hs c).mp c1).resolve_left c2
  have hall : ∀ c, c < C → bt fo (i * C + c) = true → bt a' c = true := fun c hc hf => (hs c).mpr (Or.inr ⟨i, i1, i2, hc, hf⟩)
  have hir : ¬ i = r := fun e => c2 (h0 c i3 (by rw [← e]; exact i4))
  refine ct_lt (fun q hq => ?_) (k := i) ?_ ?_ R i1
  · unfold gvn at hq ⊢
    rw [Bool.and_eq_true, Bool.or_eq_true, decide_eq_true_eq, decide_eq_true_eq] at hq ⊢
    refine ⟨hq.1, hq.2.imp id fun q2 => ?_⟩
    obtain ⟨⟨d, d1, d2, d3⟩, q3⟩ := (dnR_iff hC (by omega)).mp q2
    exact (dnR_iff hC (by omega)).mpr ⟨⟨d, d1, d2, hu d d3⟩, fun c hc hf => hu c (q3 c hc hf)⟩
  · unfold gvn
    rw [Bool.and_eq_true, Bool.or_eq_true, decide_eq_true_eq, decide_eq_true_eq]
    rintro ⟨-, e | e⟩
    · exact hir e
    · exact c2 (((dnR_iff hC (by omega)).mp e).2 c i3 i4)
  · obtain ⟨d, d1, d2, d3⟩ := i2
    unfold gvn
    rw [Bool.and_eq_true, Bool.or_eq_true, decide_eq_true_eq, decide_eq_true_eq]
    exact ⟨i1, Or.inr ((dnR_iff hC (by omega)).mpr ⟨⟨d, d1, d2, hu d d3⟩, hall⟩)⟩
theorem way_eq (hR : R ≤ 5) (hC : C ≤ 5) {q : Int32} {r : Nat} (hr : r < R) : ∀ (n m i : Nat) (a : Int32), n < m → F_X4_holds a q = 0 → (∀ c, c < C → bt fo (r * C + c) = true → bt a c = true) → R ≤ ct (gvn R C fo ba a r) R + n → wayA R C fo ba q n i a = wayB R C fo ba q m a (nI (2 * i + 1)) := by
  intro n
  induction n with
  | zero =>
    intro m i a hm hq h0 hc
    obtain ⟨m, rfl⟩ : ∃ m', m = m' + 1 := ⟨m - 1, by omega⟩
    have h1 : Nx R C fo ba a = a := Classical.byContradiction fun hne => by
      have h2 := way_grow hR hC hr h0 hne
      have h3 := ct_le (gvn R C fo ba (Nx R C fo ba a) r) R
      omega
    show -1 = if F_X4_holds a q = 0 then (if Nx R C fo ba a = a then -1 else wayB R C fo ba q m (Nx R C fo ba a) (nI (2 * i + 1) + 2)) else nI (2 * i + 1)
    rw [if_pos hq, if_pos h1]
  | succ n ih =>
    intro m i a hm hq h0 hc
    obtain ⟨m, rfl⟩ : ∃ m', m = m' + 1 := ⟨m - 1, by omega⟩
    show wayA R C fo ba q (n + 1) i a = if F_X4_holds a q = 0 then (if Nx R C fo ba a = a then -1 else wayB R C fo ba q m (Nx R C fo ba a) (nI (2 * i + 1) + 2)) else nI (2 * i + 1)
    rw [if_pos hq]
    by_cases h1 : Nx R C fo ba a = a
    · rw [if_pos h1]
      exact wayA_no h1 hq (n + 1) i
    · rw [if_neg h1]
      have e2 : nI (2 * i + 1) + 2 = nI (2 * (i + 1) + 1) := nI_add (2 * i + 1) 2
      rw [e2]
      show (if F_X4_holds (Nx R C fo ba a) q = 0 then wayA R C fo ba q n (i + 1) (Nx R C fo ba a) else nI (2 * i + 3)) = _
      by_cases h2 : F_X4_holds (Nx R C fo ba a) q = 0
      · rw [if_pos h2]
        refine ih m (i + 1) _ (by omega) h2 (fun c hc hf => ?_) ?_
        · exact (spr_1 (fo := fo) (ba := ba) hR hC a c).mpr (Or.inl (h0 c hc hf))
        · have := way_grow hR hC hr h0 h1
          omega
      · rw [if_neg h2]
        obtain ⟨m, rfl⟩ : ∃ m', m = m' + 1 := ⟨m - 1, by omega⟩
        show nI (2 * i + 3) = if F_X4_holds (Nx R C fo ba a) q = 0 then _ else nI (2 * (i + 1) + 1)
        rw [if_neg h2]
        rfl
end
theorem wayR_A {R C : Nat} {li x1 x2 : Int32} : ∀ (n i : Nat) (a : Int32), L_X3_wayRound_48 R C li x1 x2 n i a = wayA R C (T_X3_wayRound_26 li x1) (T_X3_wayRound_34 li x1 x2) (T_X3_wayRound_14 C x1) n i a
  | 0, _, _ => rfl
  | n + 1, i, a => by
    show (if (F_X4_holds (F_X3_spread R C a (T_X3_wayRound_26 li x1) (T_X3_wayRound_34 li x1 x2) 1) (T_X3_wayRound_14 C x1)) = 0 then L_X3_wayRound_48 R C li x1 x2 n (i + 1) (F_X3_spread R C a (T_X3_wayRound_26 li x1) (T_X3_wayRound_34 li x1 x2) 1) else nI (2 * i + 3)) = (if F_X4_holds (Nx R C (T_X3_wayRound_26 li x1) (T_X3_wayRound_34 li x1 x2) a) (T_X3_wayRound_14 C x1) = 0 then wayA R C (T_X3_wayRound_26 li x1) (T_X3_wayRound_34 li x1 x2) (T_X3_wayRound_14 C x1) n (i + 1) (Nx R C (T_X3_wayRound_26 li x1) (T_X3_wayRound_34 li x1 x2) a) else nI (2 * i + 3))
    rw [spr_one, wayR_A n (i + 1)]
theorem stp_N {R C : Nat} {fi br : Int32} {K kk : Nat} {x2 : Int32} (a : Int32 × Int32) : itr (fun i b => S_X7_stepsTo_50 R C fi br K kk x2 a i b) R 0 a.1 = Nx R C (T_X7_stepsTo_9 R C fi br K kk) ((T_X7_stepsTo_9 R C fi br K kk) &&& (x2 ^^^ (-1))) a.1 := rfl
theorem stp_B {R C : Nat} {fi br : Int32} {K kk : Nat} {x2 : Int32} : ∀ (n i : Nat) (a : Int32 × Int32), L_X7_stepsTo_26 R C fi br K kk x2 n i a = wayB R C (T_X7_stepsTo_9 R C fi br K kk) ((T_X7_stepsTo_9 R C fi br K kk) &&& (x2 ^^^ (-1))) ((nI kk) - (nI kk) / (nI C) * (nI C)) n a.1 a.2
  | 0, _, _ => rfl
  | n + 1, i, a => by
    show (if (F_X7_has a.1 ((nI kk) - (nI kk) / (nI C) * (nI C))) = 0 then (if (itr (fun i b => S_X7_stepsTo_50 R C fi br K kk x2 a i b) R 0 a.1) = a.1 then (-1) else L_X7_stepsTo_26 R C fi br K kk x2 n (i + 1) ((itr (fun i b => S_X7_stepsTo_50 R C fi br K kk x2 a i b) R 0 a.1), a.2 + 2)) else a.2) = _
    rw [stp_N, stp_B n (i + 1)]
    rfl
/-- the way round a key, both sides -/
theorem way_key {R C K : Nat} {fi br x2 : Int32} {k : Nat} (hR : R ≤ 5) (hC : C ≤ 5) (h0 : 0 < C) (hK : K = R * C) (hk : k < K) : F_X3_wayRound R C (F_X7_able R C fi br K) (nI k) x2 = F_X7_stepsTo R C fi br K k x2 := by
  have hk25 : K ≤ 25 := by rw [hK]; exact Nat.mul_le_mul hR hC
  obtain ⟨d1, d2, d3⟩ := rc_div (R := R) (C := C) (j := k) (by omega)
  have e1 : (nI k) / (nI C) = nI (k / C) := pk_div (by omega) (by omega) (by omega)
  have e2 : (nI k) - (nI k) / (nI C) * (nI C) = nI (k % C) := pk_rem (by omega) (by omega) (by omega)
  have f1 : F_X3_rowOf C (nI k) = nI (k / C) := by
    unfold F_X3_rowOf
    rw [if_neg (fun h => by
      rw [Int32.le_iff_toInt_le, nI_toInt (by omega), show (0 : Int32).toInt = 0 from by decide] at h
      omega), e1]
  have f2 : T_X3_wayRound_14 C (nI k) = nI (k % C) := by
    show nI k - (F_X3_rowOf C (nI k)) * (nI C) = nI (k % C)
    rw [f1, ← e1, e2]
  have f3 : T_X3_wayRound_26 (F_X7_able R C fi br K) (nI k) = T_X7_stepsTo_9 R C fi br K k := rfl
  have f4 : T_X3_wayRound_34 (F_X7_able R C fi br K) (nI k) x2 = (T_X7_stepsTo_9 R C fi br K k) &&& (x2 ^^^ (-1)) := rfl
  have f5 : T_X3_wayRound_43 C (F_X7_able R C fi br K) (nI k) = F_X3_columnsOf C (T_X7_stepsTo_9 R C fi br K k) (nI (k / C)) := by
    show F_X3_columnsOf C _ (F_X3_rowOf C (nI k)) = _
    rw [f1]; rfl
  unfold F_X3_wayRound F_X7_stepsTo
  rw [wayR_A, stp_B, f2, f3, f4, f5, e2, e1]
  have hb : ∀ c, bt (F_X3_columnsOf C (T_X7_stepsTo_9 R C fi br K k) (nI (k / C))) c = (decide (c < C) && bt (T_X7_stepsTo_9 R C fi br K k) (k / C * C + c)) := bt_col hC _ (by omega)
  refine way_eq hR hC (r := k / C) d1 (R - 1) 33 0 _ (by omega) ?_ (fun c hc hf => ?_) ?_
  · refine (holds_iff (by omega)).mpr ?_
    rw [hb, ← d3]
    cases e : bt (T_X7_stepsTo_9 R C fi br K k) k with
    | false => exact Bool.and_false _
    | true => exact absurd rfl ((with0_b (by omega) (by omega)).mp e).2
  · rw [hb, decide_eq_true hc, hf]; rfl
  · have h9 : 0 < ct (gvn R C (T_X7_stepsTo_9 R C fi br K k) ((T_X7_stepsTo_9 R C fi br K k) &&& (x2 ^^^ (-1))) (F_X3_columnsOf C (T_X7_stepsTo_9 R C fi br K k) (nI (k / C))) (k / C)) R := by
      refine Nat.lt_of_le_of_lt (Nat.zero_le _) (ct_lt (p := fun _ => false) (fun i h => absurd h (by decide)) (k := k / C) (by decide) ?_ R d1)
      unfold gvn
      rw [decide_eq_true d1, decide_eq_true rfl]
      rfl
    omega
theorem wayA_never {R C : Nat} {fo ba q : Int32} (P : Int32 → Prop) (h1 : ∀ a, P a → P (Nx R C fo ba a)) (h2 : ∀ a, P a → F_X4_holds a q = 0) : ∀ (n i : Nat) (a : Int32), P a → wayA R C fo ba q n i a = -1
  | 0, _, _, _ => rfl
  | n + 1, i, a, h => by
    show (if F_X4_holds (Nx R C fo ba a) q = 0 then wayA R C fo ba q n (i + 1) (Nx R C fo ba a) else nI (2 * i + 3)) = -1
    rw [if_pos (h2 _ (h1 a h))]
    exact wayA_never P h1 h2 n (i + 1) _ (h1 a h)
theorem way_dead {R C K : Nat} {fi br x2 : Int32} {k : Nat} (hR : R ≤ 5) (hC : C ≤ 5) (h0 : 0 < C) (hK : K = R * C) (hf : ∀ j, bt fi j = true → j < K) (hk : k < K) (hfi : bt fi k = true) (hn : bt (F_X7_able R C fi br K) k = false) : F_X7_stepsTo R C fi br K k x2 = -1 := by
  have hk25 : K ≤ 25 := by rw [hK]; exact Nat.mul_le_mul hR hC
  obtain ⟨d1, d2, d3⟩ := rc_div (R := R) (C := C) (j := k) (by omega)
  have e1 : (nI k) / (nI C) = nI (k / C) := pk_div (by omega) (by omega) (by omega)
  have e2 : (nI k) - (nI k) / (nI C) * (nI C) = nI (k % C) := pk_rem (by omega) (by omega) (by omega)
  have f1 : F_X3_rowOf C (nI k) = nI (k / C) := by
    unfold F_X3_rowOf
    rw [if_neg (fun h => by
      rw [Int32.le_iff_toInt_le, nI_toInt (by omega), show (0 : Int32).toInt = 0 from by decide] at h
      omega), e1]
  have f2 : T_X3_wayRound_14 C (nI k) = nI (k % C) := by
    show nI k - (F_X3_rowOf C (nI k)) * (nI C) = nI (k % C)
    rw [f1, ← e1, e2]
  rw [← way_key hR hC h0 hK hk]
  unfold F_X3_wayRound
  rw [wayR_A, f2, show T_X3_wayRound_43 C (F_X7_able R C fi br K) (nI k) = F_X3_columnsOf C (T_X3_wayRound_26 (F_X7_able R C fi br K) (nI k)) (nI (k / C)) by show F_X3_columnsOf C _ (F_X3_rowOf C (nI k)) = _; rw [f1]]
  generalize hba : T_X3_wayRound_34 (F_X7_able R C fi br K) (nI k) x2 = ba
  have hfo : ∀ j, bt (T_X3_wayRound_26 (F_X7_able R C fi br K) (nI k)) j = true → bt (F_X7_able R C fi br K) j = true := fun j hj => by
    have hj : bt ((F_X7_able R C fi br K) &&& (((1 : Int32) <<< ((nI k) &&& 31)) ^^^ (-1))) j = true := hj
    rw [bt_and, Bool.and_eq_true] at hj
    exact hj.1
  generalize T_X3_wayRound_26 (F_X7_able R C fi br K) (nI k) = fo at hfo ⊢
  have hcol : ∀ c, bt (F_X3_columnsOf C fo (nI (k / C))) c = (decide (c < C) && bt fo (k / C * C + c)) := bt_col hC _ (by omega)
  by_cases hb : bt br (k / C) = false
  · have hb2 : ¬ bt br (R + k % C) = false := fun h => by
      have h9 := (able_iff (fi := fi) (br := br) hR hC h0 hK hf (j := k) (by omega)).mpr ⟨k / C, k % C, d1, d2, d3, hb, h, hfi⟩
      rw [hn] at h9
      exact absurd h9 (by decide)
    have hno : ∀ i, i < R → bt fo (i * C + k % C) = false := fun i hi => by
      cases e : bt fo (i * C + k % C) with
      | false => rfl
      | true =>
        have h25 := rc_lt hR hC hi d2
        obtain ⟨r, c, r1, c1, r2, -, b2, -⟩ := (able_iff (fi := fi) (br := br) hR hC h0 hK hf (by omega)).mp (hfo _ e)
        obtain ⟨-, q2⟩ := rc_inj r2 d2 c1
        rw [← q2] at b2
        exact absurd b2 hb2
    refine wayA_never (fun a => bt a (k % C) = false) (fun a ha => ?_) (fun a ha => (holds_iff (by omega)).mpr ha) (R - 1) 0 _ ?_
    · cases e : bt (Nx R C fo ba a) (k % C) with
      | false => rfl
      | true =>
        rcases (spr_1 (fo := fo) (ba := ba) hR hC a (k % C)).mp e with h | ⟨i, i1, -, -, i4⟩
        · rw [ha] at h; exact absurd h (by decide)
        · rw [hno i i1] at i4; exact absurd i4 (by decide)
    · rw [hcol, hno _ d1, Bool.and_false]
  · refine wayA_never (fun a => ∀ c, bt a c = false) (fun a ha c => ?_) (fun a ha => (holds_iff (by omega)).mpr (ha _)) (R - 1) 0 _ (fun c => ?_)
    · cases e : bt (Nx R C fo ba a) c with
      | false => rfl
      | true =>
        rcases (spr_1 (fo := fo) (ba := ba) hR hC a c).mp e with h | ⟨i, i1, ⟨d, -, -, h⟩, -⟩
        · rw [ha] at h; exact absurd h (by decide)
        · rw [ha] at h; exact absurd h (by decide)
    · rw [hcol]
      by_cases hc : c < C
      · cases e : bt fo (k / C * C + c) with
        | false => exact Bool.and_false _
        | true =>
          have h25 := rc_lt hR hC d1 hc
          obtain ⟨r, c', r1, c1, r2, b1, -, -⟩ := (able_iff (fi := fi) (br := br) hR hC h0 hK hf (by omega)).mp (hfo _ e)
          obtain ⟨q1, -⟩ := rc_inj r2 hc c1
          rw [← q1] at b1
          exact absurd b1 hb
      · rw [decide_eq_false hc, Bool.false_and]
theorem itr_cgB {α : Type} {f g : Nat → α → α} : ∀ (n i : Nat) (a : α), (∀ k a, i ≤ k → k < i + n → f k a = g k a) → itr f n i a = itr g n i a
  | 0, _, _, _ => rfl
  | n + 1, i, a, h => by
    show itr f n (i + 1) (f i a) = itr g n (i + 1) (g i a)
    rw [h i a (Nat.le_refl _) (by omega)]
    exact itr_cgB n (i + 1) _ (fun k a h1 h2 => h k a (by omega) (by omega))
/-- the least keys, both sides -/
theorem least_eq {R C K : Nat} {fi br x1 : Int32} (hR : R ≤ 5) (hC : C ≤ 5) (h0 : 0 < C) (hK : K = R * C) (hf : ∀ j, bt fi j = true → j < K) : F_X3_leastKeys R C K (F_X7_able R C fi br K) x1 = F_X7_leastOf R C fi br K x1 := by
  have hk25 : K ≤ 25 := by rw [hK]; exact Nat.mul_le_mul hR hC
  refine itr_cgB K 0 (-1) (fun k a _ hk => ?_)
  have hk : k < K := by omega
  show S_X3_leastKeys_4 R C (F_X7_able R C fi br K) x1 k a = S_X7_leastOf_4 R C fi br K x1 k a
  unfold S_X3_leastKeys_4 S_X7_leastOf_4
  rw [way_key hR hC h0 hK hk]
  by_cases h1 : F_X7_has fi (nI k) = 0
  · have h2 : F_X4_holds (F_X7_able R C fi br K) (nI k) = 0 := (holds_iff (by omega)).mpr (by
      cases e : bt (F_X7_able R C fi br K) k with
      | false => rfl
      | true =>
        obtain ⟨_, _, _, _, _, _, _, b⟩ := (able_iff (fi := fi) (br := br) hR hC h0 hK hf (by omega)).mp e
        rw [(has_iff (by omega)).mp h1] at b
        exact absurd b (by decide))
    rw [if_pos h1, if_pos h2]
  · rw [if_neg h1]
    by_cases h2 : F_X4_holds (F_X7_able R C fi br K) (nI k) = 0
    · have h3 : bt fi k = true := by
        cases e : bt fi k with
        | true => rfl
        | false => exact absurd ((has_iff (by omega)).mpr e) h1
      rw [if_pos h2, if_pos (way_dead hR hC h0 hK hf hk h3 ((holds_iff (by omega)).mp h2))]
    · rw [if_neg h2]

section
variable {R C K : Nat} {fi di li br : Int32}
/-- the board is clear, both sides -/
theorem clear_L (hse : ∀ x, F_X3_seenIf R C fi di li x = F_X7_seenOf R C fi br K x di) : ∀ n i, i + n ≤ 32 → L_X3_isClear_2 R C fi di li n i () = L_X7_isClear_2 R C fi di br K n i ()
  | 0, _, _ => rfl
  | n + 1, i, h => by
    have ih := clear_L hse n (i + 1) (by omega)
    show (if (F_X4_holds (F_X3_seenIf R C fi di li (fi &&& (((1 : Int32) <<< ((nI i) &&& 31)) ^^^ (-1)))) (nI i)) = 0 then L_X3_isClear_2 R C fi di li n (i + 1) () else 0) = (if (F_X7_has fi (nI i)) = 0 then L_X7_isClear_2 R C fi di br K n (i + 1) () else (if (F_X7_has (F_X7_seenOf R C fi br K (fi &&& (((1 : Int32) <<< ((nI i) &&& 31)) ^^^ (-1))) di) (nI i)) = 0 then L_X7_isClear_2 R C fi di br K n (i + 1) () else 0))
    rw [ih]
    by_cases h1 : F_X7_has fi (nI i) = 0
    · rw [if_pos h1, if_pos]
      refine (holds_iff (by omega)).mpr ?_
      unfold F_X3_seenIf
      rw [bt_and, (has_iff (by omega)).mp h1, Bool.and_false]
    · rw [if_neg h1, hse]
      rfl
theorem clear_eq (hK : K ≤ 25) (hse : ∀ x, F_X3_seenIf R C fi di li x = F_X7_seenOf R C fi br K x di) : F_X3_isClear R C K fi di li = F_X7_isClear R C fi di br K := clear_L hse K 0 (by omega)
theorem exact_eq (hse : ∀ x, F_X3_seenIf R C fi di li x = F_X7_seenOf R C fi br K x di) (x : Int32) : F_X3_isExact R C fi di li x = F_X7_isExact R C fi br K x di := by
  unfold F_X3_isExact F_X7_isExact
  rw [hse]
theorem exact_one {s : Int32} {i : Nat} (hi : i < 32) (h : s &&& (((1 : Int32) <<< ((nI i) &&& 31)) ^^^ (-1)) = 0) : s = (1 : Int32) <<< ((nI i) &&& 31) ↔ ¬ F_X7_has s (nI i) = 0 := by
  constructor
  · intro e h2
    have h3 := (has_iff hi).mp h2
    rw [e, bt_bit hi hi] at h3
    simp at h3
  · intro h2
    have h3 : bt s i = true := by
      cases e : bt s i with
      | true => rfl
      | false => exact absurd ((has_iff hi).mpr e) h2
    refine bt_ext (fun j hj => ?_)
    have h4 := bt_zero.mp h j hj
    rw [bt_and, bt_not _ hj, bt_bit hi hj] at h4
    rw [bt_bit hi hj]
    by_cases e : j = i
    · subst e; rw [h3]; simp
    · rw [decide_eq_false e] at h4 ⊢
      simpa using h4
/-- what holds at all times, both sides -/
theorem sound_L (hK : K ≤ 25) (hse : ∀ x, F_X3_seenIf R C fi di li x = F_X7_seenOf R C fi br K x di) (hli : li = F_X7_able R C fi br K) (hle : F_X3_leastKeys R C K li di = F_X7_leastOf R C fi br K di) : ∀ n i, i + n ≤ 32 → L_X7_isWhole_35 R C fi di br K n i () = if L_X3_keysAloneAreSound_2 R C fi di li n i () = 0 then 0 else F_X3_leastIsSound R C K fi di li
  | 0, i, _ => by
    show (if (F_X7_isClear R C fi di br K) = 0 then (if (F_X7_leastOf R C fi br K di) < 3 then 0 else (if ((F_X7_leastOf R C fi br K di) - (F_X7_leastOf R C fi br K di) / 2 * 2) = 1 then 1 else 0)) else (if (F_X7_leastOf R C fi br K di) = (-1) then (if (F_X7_isExact R C fi br K fi di) = 0 then 0 else 1) else 0)) = if (1 : Int32) = 0 then 0 else F_X3_leastIsSound R C K fi di li
    unfold F_X3_leastIsSound
    rw [if_neg (show ¬ (1 : Int32) = 0 by decide), clear_eq hK hse, hle, exact_eq hse]
  | n + 1, i, h => by
    have ih := sound_L hK hse hli hle n (i + 1) (by omega)
    show (if (F_X7_has fi (nI i)) = 0 then L_X7_isWhole_35 R C fi di br K n (i + 1) () else (if (F_X7_isExact R C fi br K ((1 : Int32) <<< ((nI i) &&& 31)) di) = 0 then 0 else (if (F_X7_has (F_X7_able R C fi br K) (nI i)) = 0 then L_X7_isWhole_35 R C fi di br K n (i + 1) () else (if (F_X7_has (F_X7_seenOf R C fi br K ((1 : Int32) <<< ((nI i) &&& 31)) di) (nI i)) = 0 then 0 else L_X7_isWhole_35 R C fi di br K n (i + 1) ())))) = if (if (F_X3_seenIf R C fi di li ((1 : Int32) <<< ((nI i) &&& 31))) = ((1 : Int32) <<< ((nI i) &&& 31)) then (if (F_X4_holds fi (nI i)) = 0 then L_X3_keysAloneAreSound_2 R C fi di li n (i + 1) () else (if (F_X3_isExact R C fi di li ((1 : Int32) <<< ((nI i) &&& 31))) = 0 then 0 else (if (F_X4_holds li (nI i)) = 0 then L_X3_keysAloneAreSound_2 R C fi di li n (i + 1) () else L_X3_keysAloneAreSound_2 R C fi di li n (i + 1) ()))) else (if (F_X4_holds fi (nI i)) = 0 then L_X3_keysAloneAreSound_2 R C fi di li n (i + 1) () else (if (F_X3_isExact R C fi di li ((1 : Int32) <<< ((nI i) &&& 31))) = 0 then 0 else (if (F_X4_holds li (nI i)) = 0 then L_X3_keysAloneAreSound_2 R C fi di li n (i + 1) () else 0)))) = 0 then 0 else F_X3_leastIsSound R C K fi di li
    rw [ih, exact_eq hse, hse, ← hli, show F_X4_holds fi (nI i) = F_X7_has fi (nI i) from rfl, show F_X4_holds li (nI i) = F_X7_has li (nI i) from rfl]
    generalize hu : L_X3_keysAloneAreSound_2 R C fi di li n (i + 1) () = u
    by_cases h1 : F_X7_has fi (nI i) = 0
    · rw [if_pos h1, if_pos h1, if_pos h1, ite_self]
    · rw [if_neg h1, if_neg h1, if_neg h1]
      by_cases h2 : F_X7_isExact R C fi br K ((1 : Int32) <<< ((nI i) &&& 31)) di = 0
      · rw [if_pos h2, if_pos h2, if_pos h2, ite_self, if_pos rfl]
      · rw [if_neg h2, if_neg h2, if_neg h2]
        by_cases h3 : F_X7_has li (nI i) = 0
        · rw [if_pos h3, if_pos h3, if_pos h3, ite_self]
        · rw [if_neg h3, if_neg h3, if_neg h3]
          have h4 : (F_X7_seenOf R C fi br K ((1 : Int32) <<< ((nI i) &&& 31)) di) &&& (((1 : Int32) <<< ((nI i) &&& 31)) ^^^ (-1)) = 0 := by
            unfold F_X7_isExact at h2
            by_cases e : (F_X7_seenOf R C fi br K ((1 : Int32) <<< ((nI i) &&& 31)) di) &&& (((1 : Int32) <<< ((nI i) &&& 31)) ^^^ (-1)) = 0
            · exact e
            · rw [if_neg e] at h2; exact absurd rfl h2
          have h5 := exact_one (i := i) (by omega) h4
          by_cases h6 : F_X7_has (F_X7_seenOf R C fi br K ((1 : Int32) <<< ((nI i) &&& 31)) di) (nI i) = 0
          · rw [if_pos h6, if_neg (fun e => h5.mp e h6), if_pos rfl]
          · rw [if_neg h6, if_pos (h5.mpr h6)]
end
theorem n60_le {n : Nat} (h : n ≤ 60) : nI n ≤ 60 ∧ ¬ (60 : Int32) < nI n := by
  have h1 : nI n ≤ nI 60 := nI_le h (by decide)
  exact ⟨h1, fun h2 => absurd h1 (Int32.not_le.mpr h2)⟩
/-- isSound, both sides -/
theorem sound_eq {R C K : Nat} {fi di li he br : Int32} {n n2 : Nat} (hK : K ≤ 25) (hse : ∀ x, F_X3_seenIf R C fi di li x = F_X7_seenOf R C fi br K x di) (hli : li = F_X7_able R C fi br K) (hle : F_X3_leastKeys R C K li di = F_X7_leastOf R C fi br K di) (hn : n ≤ 60) (hn2 : n2 ≤ 60) : F_X4_isSound R C K fi di li he n = F_X7_isWhole R C fi di he br K n2 := by
  unfold F_X4_isSound F_X7_isWhole
  rw [if_neg (n60_le hn).2, if_pos (n60_le hn2).1, if_neg (n60_le hn).2]
  by_cases h1 : he &&& (fi ^^^ (-1)) = 0
  · rw [if_pos h1, if_pos h1, sound_L hK hse hli hle K 0 (by omega)]
    show (if F_X3_keysAloneAreSound R C K fi di li = 0 then (0 : Int32) else (if F_X3_leastIsSound R C K fi di li = 0 then 0 else 1)) = if F_X3_keysAloneAreSound R C K fi di li = 0 then 0 else F_X3_leastIsSound R C K fi di li
    by_cases h2 : F_X3_keysAloneAreSound R C K fi di li = 0
    · rw [if_pos h2, if_pos h2]
    · rw [if_neg h2, if_neg h2]
      have h01 : F_X3_leastIsSound R C K fi di li = 0 ∨ F_X3_leastIsSound R C K fi di li = 1 := by
        unfold F_X3_leastIsSound
        (repeat' split) <;> first | exact Or.inl rfl | exact Or.inr rfl
      rcases h01 with e | e
      · rw [e]; rfl
      · rw [e]; rfl
  · rw [if_neg h1, if_neg h1]

theorem sound_w {R C K mR mC mK : Nat} {fi di br li mfi mdi mbr he mhe : Int32} {n mn : Nat} (hK : K ≤ 25) (hR : R ≤ 5) (hC : C ≤ 5) (h0 : 0 < mC) (hRC : mR * mC = mK) (hn : n ≤ 60) (hn2 : mn ≤ 60) (h : WQ R C K mR mC mK fi di br li mfi mdi mbr) (hh : he = mhe) : F_X4_isSound R C K fi di li he n = (F_X7_isSound mR mC mfi mdi mhe mbr mK mn).1 := by
  have hs : ∀ x, F_X3_seenIf R C fi di li x = F_X7_seenOf mR mC mfi mbr mK x mdi := fun x => seen_w (x1 := x) hR hC h0 hRC h
  obtain ⟨e1, e2, e3, e4, e5, e6, e7, e8⟩ := h
  subst e1
  subst e2
  subst e3
  subst e4
  subst e5
  subst e6
  subst hh
  have hl : li = F_X7_able R C fi br K := e7.trans (live_able (br := br) hR hC h0 hRC.symm e8)
  exact sound_eq hK hs hl (by rw [hl]; exact least_eq hR hC h0 hRC.symm e8) hn hn2
