theorem gi_SX {own : String} {idx : Nat} {y : MethodName} {b : Cond} (h1 : Cond.methodLink own idx y ∈ lwAll) (h2 : Cond.static y ∈ lwAll) (h4 : Cond.initialized y.cls ∈ lwAll) (h5 : b ∈ lwAll) : GoodIn lwAll (va_wsS own idx y (b :: lwAll)) :=
  gi_cons h1 (gi_cons h2 (gi_cons h4 (gi_sub h5)))
theorem sPre_mk {D : va_G} {wc : va_W} {s : State} {H : Heap} {A : Nat → Prop} {av : List Value} (hstr : ∃ sa, vk_R "RowscanModel" 271 "" sa s) (hI : lwI D (va_A wc H.size) s H) (hP : va_P D vwCl wc H) (hK : va_K D vwCl (lwTY2 D) s) (hD : va_D A wc) (hN : (∀ w ∈ lwNest, va_Nw w s) ∧ lwTx s) (hZ : lwZ (va_A wc H.size) s H) : ∀ U : State, U.heap = H → s.WarmedH U.vm → va_Pc av (sPre D (lwTY2 D) wc H.size) av.toArray U :=
  fun U hU hW => by
    obtain ⟨h0, h1⟩ := rPre_mk (av := av) hI hP hK hD hN hZ U hU hW
    obtain ⟨sa, h2⟩ := hstr
    exact ⟨h0, h1, sa, vk_R.warm hW h2⟩
theorem and31 (x : Int32) : ∃ w, w < 32 ∧ x &&& 31 = nI w := by
  have h1 : (x &&& 31).toBitVec.toNat < 32 := by
    rw [show (x &&& 31).toBitVec = x.toBitVec &&& 31#32 from rfl, BitVec.toNat_and]
    exact Nat.lt_of_le_of_lt Nat.and_le_right (by decide)
  refine ⟨(x &&& 31).toBitVec.toNat, h1, ?_⟩
  apply Int32.toBitVec_inj.mp
  apply BitVec.eq_of_toNat_eq
  show (x &&& 31).toBitVec.toNat = (BitVec.ofNat 32 (x &&& 31).toBitVec.toNat).toNat
  rw [BitVec.toNat_ofNat]
  omega

theorem lay_e0 {R : Nat} {C : Nat} {fi : Int32} {di : Int32} {he : Int32} {br : Int32} {pa : Int32} {gu : Int32} {sc : Nat} {cl : Int32} {se : Int32} {lo : Int32} {km : Int32} {K : Nat} {kn : Nat} {hm : Int32} {nh : Nat} {ml : Int32} {n : Nat} {V : Nat → KV} {x1 : Int32} {x2 : Int32} : (F_X7_lay R C fi di he br pa gu sc cl se lo km K kn hm nh ml n V x1 x2).2.2.2.2.2.2.2.2.2.2.2.2.2.2.2.1 = (F_X7_lay R C fi di he br pa gu sc cl se lo km K kn hm nh ml n V x1 x2).2.2.2.2.2.2.2.2.2.2.2.2.2.2.2.2.2.2.2.2.2.1 := by
  unfold F_X7_lay
  (repeat' split) <;> rfl

theorem lay_e1 {R : Nat} {C : Nat} {fi : Int32} {di : Int32} {he : Int32} {br : Int32} {pa : Int32} {gu : Int32} {sc : Nat} {cl : Int32} {se : Int32} {lo : Int32} {km : Int32} {K : Nat} {kn : Nat} {hm : Int32} {nh : Nat} {ml : Int32} {n : Nat} {V : Nat → KV} {x1 : Int32} {x2 : Int32} : (F_X7_lay R C fi di he br pa gu sc cl se lo km K kn hm nh ml n V x1 x2).2.2.2.2.2.2.2.2.2.2.2.2.2.2.2.2.2.2.1 = (F_X7_lay R C fi di he br pa gu sc cl se lo km K kn hm nh ml n V x1 x2).2.2.2.2.2.2.2.2.2.2.2.2.2.2.2.2.2.2.2.2.2.2.2 := by
  unfold F_X7_lay
  (repeat' split) <;> rfl

theorem chord_e0 {K : Nat} {hm : Int32} {nh : Nat} {hcp : Nat} {hf : Nat → Nat → Int32} {x1 : Int32} {x2 : Int32} : (F_X7_chord K hm nh hcp hf x1 x2).2.2.2.1 = (F_X7_chord K hm nh hcp hf x1 x2).2.2.2.2.2.1 := by
  unfold F_X7_chord
  (repeat' split) <;> rfl

theorem chord_cap {K : Nat} {hm : Int32} {nh : Nat} {hcp : Nat} {hf : Nat → Nat → Int32} {x1 : Int32} {x2 : Int32} (h1 : nh ≤ hcp) (h2 : hcp ≤ 40) (h3 : nh ≤ 6) (h4 : hcp ≠ 0 → 10 ≤ hcp) : (F_X7_chord K hm nh hcp hf x1 x2).2.2.2.2.1 ≤ 40 := by
  unfold F_X7_chord
  (repeat' split) <;> first | exact h2 | exact (add_cap h1 h2 (by omega) h4).2.1

theorem lgc_self (x : Int64) : lg_cmp x x = 0 := Int32.le_antisymm ((lg_cmp_le x x).mpr (Int64.le_refl x)) ((lg_cmp_ge x x).mpr (Int64.le_refl x))

theorem lay_acc (x1 x2 : Int32) : (E_X4_lay x1 x2 = 0 ∧ ¬ F_X7_isIn x1 2 5 = 0 ∧ ¬ F_X7_isIn x2 2 5 = 0) ∨ (¬ E_X4_lay x1 x2 = 0 ∧ (F_X7_isIn x1 2 5 = 0 ∨ (¬ F_X7_isIn x1 2 5 = 0 ∧ F_X7_isIn x2 2 5 = 0))) := by
  have e : E_X4_lay x1 x2 = if F_X7_isIn x1 2 5 = 0 then 1 else if F_X7_isIn x2 2 5 = 0 then 1 else 0 := rfl
  by_cases h1 : F_X7_isIn x1 2 5 = 0
  · refine Or.inr ⟨?_, Or.inl h1⟩
    rw [e, if_pos h1]
    decide
  · by_cases h2 : F_X7_isIn x2 2 5 = 0
    · refine Or.inr ⟨?_, Or.inr ⟨h1, h2⟩⟩
      rw [e, if_neg h1, if_pos h2]
      decide
    · refine Or.inl ⟨?_, h1, h2⟩
      rw [e, if_neg h1, if_neg h2]

theorem lay4_acc {x1 x2 : Int32} (h : E_X4_lay x1 x2 = 0) : ¬ F_X4_isSize x1 = 0 ∧ ¬ F_X4_isSize x2 = 0 := by
  unfold E_X4_lay at h
  by_cases h1 : F_X4_isSize x1 = 0
  · rw [if_pos h1] at h; exact absurd h (by decide)
  · rw [if_neg h1] at h
    by_cases h2 : F_X4_isSize x2 = 0
    · rw [if_pos h2] at h; exact absurd h (by decide)
    · exact ⟨h1, h2⟩

/-! the class's count of bits and the reference's -/
def pcf : Nat → Nat → Nat
  | 0, _ => 0
  | f + 1, n => n % 2 + pcf f (n / 2)
theorem pcf_0 : ∀ f, pcf f 0 = 0
  | 0 => rfl
  | f + 1 => by
    show 0 % 2 + pcf f (0 / 2) = 0
    rw [show 0 / 2 = 0 from rfl, pcf_0 f]
theorem pcf_add : ∀ (a b n : Nat), pcf (a + b) n = pcf a n + pcf b (n / 2 ^ a)
  | 0, b, n => by
    rw [Nat.zero_add, Nat.pow_zero, Nat.div_one]
    exact (Nat.zero_add _).symm
  | a + 1, b, n => by
    rw [show a + 1 + b = (a + b) + 1 by omega]
    show n % 2 + pcf (a + b) (n / 2) = n % 2 + pcf a (n / 2) + pcf b (n / 2 ^ (a + 1))
    rw [pcf_add a b (n / 2), Nat.div_div_eq_div_mul, Nat.pow_succ', Nat.add_assoc]
theorem pcf_mod : ∀ (f n : Nat), pcf f (n % 2 ^ f) = pcf f n
  | 0, _ => rfl
  | f + 1, n => by
    show (n % 2 ^ (f + 1)) % 2 + pcf f (n % 2 ^ (f + 1) / 2) = n % 2 + pcf f (n / 2)
    rw [Nat.pow_succ', Nat.mod_mul_right_mod, Nat.mod_mul_right_div_self, pcf_mod f (n / 2)]
theorem many_L : ∀ (f i m n : Nat), n < 2 ^ 31 → L_X7_many_4 f i (nI m, nI n) = nI (m + pcf f n)
  | 0, _, _, _, _ => rfl
  | f + 1, i, m, n, h => by
    show (if nI n ≤ 0 then nI m else L_X7_many_4 f (i + 1) (nI m + (nI n - nI n / 2 * 2), nI n / 2)) = _
    by_cases h0 : nI n ≤ 0
    · rw [if_pos h0]
      have h1 : n = 0 := by
        rw [Int32.le_iff_toInt_le, nI_toInt h] at h0
        have e0 : (0 : Int32).toInt = 0 := by decide
        rw [e0] at h0
        omega
      rw [h1, pcf_0]
      rfl
    · rw [if_neg h0, show (2 : Int32) = nI 2 from rfl, pk_rem h (by decide) (by decide), pk_div h (by decide) (by decide), nI_add, many_L f (i + 1) (m + n % 2) (n / 2) (by omega)]
      show nI (m + n % 2 + pcf f (n / 2)) = nI (m + (n % 2 + pcf f (n / 2)))
      rw [Nat.add_assoc]
theorem many_pc {n : Nat} (h : n < 2 ^ 31) : F_X7_many (nI n) = nI (pcf 31 n) := by
  have h1 := many_L 31 0 0 n h
  rw [Nat.zero_add] at h1
  exact h1
theorem and_nI (a b : Nat) : nI a &&& nI b = nI (a &&& b) := by
  apply Int32.toBitVec_inj.mp
  apply BitVec.eq_of_toNat_eq
  rw [Int32.toBitVec_and, BitVec.toNat_and]
  show a % 2 ^ 32 &&& b % 2 ^ 32 = (a &&& b) % 2 ^ 32
  rw [Nat.and_mod_two_pow]
theorem and_split (j : Nat) {a b m M : Nat} (ha : a < 2 ^ j) (hm : m < 2 ^ j) : (a + 2 ^ j * b) &&& (m + 2 ^ j * M) = (a &&& m) + 2 ^ j * (b &&& M) := by
  have h1 : ((a + 2 ^ j * b) &&& (m + 2 ^ j * M)) % 2 ^ j = a &&& m := by
    rw [Nat.and_mod_two_pow, Nat.add_mul_mod_self_left, Nat.add_mul_mod_self_left, Nat.mod_eq_of_lt ha, Nat.mod_eq_of_lt hm]
  have h2 : ((a + 2 ^ j * b) &&& (m + 2 ^ j * M)) / 2 ^ j = b &&& M := by
    rw [Nat.and_div_two_pow, Nat.add_mul_div_left _ _ (Nat.two_pow_pos j), Nat.add_mul_div_left _ _ (Nat.two_pow_pos j), Nat.div_eq_of_lt ha, Nat.div_eq_of_lt hm, Nat.zero_add, Nat.zero_add]
  have h3 := Nat.mod_add_div ((a + 2 ^ j * b) &&& (m + 2 ^ j * M)) (2 ^ j)
  rw [h1, h2] at h3
  exact h3.symm
def A16 (x : Nat) : Nat := x - (x / 2 &&& 21845)
def B16 (x : Nat) : Nat := (A16 x &&& 13107) + (A16 x / 4 &&& 13107)
def C16 (x : Nat) : Nat := (B16 x + B16 x / 16) &&& 3855
def A8 (x : Nat) : Nat := x - (x / 2 &&& 85)
def B8 (x : Nat) : Nat := (A8 x &&& 51) + (A8 x / 4 &&& 51)
def C8 (x : Nat) : Nat := (B8 x + B8 x / 16) &&& 15
theorem B8_eq (x : Nat) : B8 x = (A8 x &&& 51) + (A8 x / 4 &&& 51) := rfl
theorem C8_eq (x : Nat) : C8 x = (B8 x + B8 x / 16) &&& 15 := rfl
theorem B16_eq (x : Nat) : B16 x = (A16 x &&& 13107) + (A16 x / 4 &&& 13107) := rfl
theorem C16_eq (x : Nat) : C16 x = (B16 x + B16 x / 16) &&& 3855 := rfl
theorem all_8 : ∀ a, a < 256 → C8 a = pcf 8 a ∧ C8 a ≤ 8 ∧ B8 a % 16 ≤ 4 ∧ B8 a ≤ 68 := by decide +kernel
theorem mA {lo hi : Nat} (h : lo < 256) : (lo + 256 * hi) - ((lo + 256 * hi) / 2 &&& 21845) = A8 lo + 256 * (hi - (hi / 2 &&& 85)) := by
  have h1 : (lo + 256 * hi) / 2 = (lo / 2 + 2 ^ 7 * (hi % 2)) + 2 ^ 8 * (hi / 2) := by omega
  have h2 : (lo / 2 + 2 ^ 7 * (hi % 2)) &&& (85 + 2 ^ 7 * 0) = (lo / 2 &&& 85) + 2 ^ 7 * (hi % 2 &&& 0) := and_split 7 (by omega) (by decide)
  have h3 : ((lo / 2 + 2 ^ 7 * (hi % 2)) + 2 ^ 8 * (hi / 2)) &&& (85 + 2 ^ 8 * 85) = ((lo / 2 + 2 ^ 7 * (hi % 2)) &&& 85) + 2 ^ 8 * (hi / 2 &&& 85) := and_split 8 (by omega) (by decide)
  simp only [Nat.and_zero, Nat.mul_zero, Nat.add_zero] at h2
  rw [h1, show (21845 : Nat) = 85 + 2 ^ 8 * 85 from rfl, h3, h2]
  unfold A8
  have g1 : lo / 2 &&& 85 ≤ lo / 2 := Nat.and_le_left
  have g2 : hi / 2 &&& 85 ≤ hi / 2 := Nat.and_le_left
  omega
theorem mB {l h : Nat} (hl : l < 256) : ((l + 256 * h) &&& 13107) + ((l + 256 * h) / 4 &&& 13107) = ((l &&& 51) + (l / 4 &&& 51)) + 256 * ((h &&& 51) + (h / 4 &&& 51)) := by
  have h0 : (l + 2 ^ 8 * h) &&& (51 + 2 ^ 8 * 51) = (l &&& 51) + 2 ^ 8 * (h &&& 51) := and_split 8 (by omega) (by decide)
  have h1 : (l + 256 * h) / 4 = (l / 4 + 2 ^ 6 * (h % 4)) + 2 ^ 8 * (h / 4) := by omega
  have h2 : (l / 4 + 2 ^ 6 * (h % 4)) &&& (51 + 2 ^ 6 * 0) = (l / 4 &&& 51) + 2 ^ 6 * (h % 4 &&& 0) := and_split 6 (by omega) (by decide)
  have h3 : ((l / 4 + 2 ^ 6 * (h % 4)) + 2 ^ 8 * (h / 4)) &&& (51 + 2 ^ 8 * 51) = ((l / 4 + 2 ^ 6 * (h % 4)) &&& 51) + 2 ^ 8 * (h / 4 &&& 51) := and_split 8 (by omega) (by decide)
  simp only [Nat.and_zero, Nat.mul_zero, Nat.add_zero] at h2
  have e : (13107 : Nat) = 51 + 2 ^ 8 * 51 := rfl
  have e2 : l + 256 * h = l + 2 ^ 8 * h := rfl
  rw [h1, e, h3, h2, e2, h0]
  omega
theorem mC {l h : Nat} (hl : l ≤ 68) (hq : h % 16 ≤ 4) : ((l + 256 * h) + (l + 256 * h) / 16) &&& 3855 = ((l + l / 16) &&& 15) + 256 * ((h + h / 16) &&& 15) := by
  have h1 : (l + 256 * h) + (l + 256 * h) / 16 = (l + l / 16 + 2 ^ 4 * (h % 16)) + 2 ^ 8 * (h + h / 16) := by omega
  have h3 : ((l + l / 16 + 2 ^ 4 * (h % 16)) + 2 ^ 8 * (h + h / 16)) &&& (15 + 2 ^ 8 * 15) = ((l + l / 16 + 2 ^ 4 * (h % 16)) &&& 15) + 2 ^ 8 * ((h + h / 16) &&& 15) := and_split 8 (by omega) (by decide)
  have h4 : ((l + l / 16) % 16 + 2 ^ 4 * ((l + l / 16) / 16 + h % 16)) &&& (15 + 2 ^ 4 * 0) = ((l + l / 16) % 16 &&& 15) + 2 ^ 4 * (((l + l / 16) / 16 + h % 16) &&& 0) := and_split 4 (by omega) (by decide)
  have h5 : ((l + l / 16) % 16 + 2 ^ 4 * ((l + l / 16) / 16)) &&& (15 + 2 ^ 4 * 0) = ((l + l / 16) % 16 &&& 15) + 2 ^ 4 * (((l + l / 16) / 16) &&& 0) := and_split 4 (by omega) (by decide)
  simp only [Nat.and_zero, Nat.mul_zero, Nat.add_zero] at h4 h5
  have e4 : (l + l / 16) % 16 + 2 ^ 4 * ((l + l / 16) / 16 + h % 16) = l + l / 16 + 2 ^ 4 * (h % 16) := by omega
  have e5 : (l + l / 16) % 16 + 2 ^ 4 * ((l + l / 16) / 16) = l + l / 16 := by omega
  rw [e4] at h4
  rw [e5] at h5
  rw [h1, show (3855 : Nat) = 15 + 2 ^ 8 * 15 from rfl, h3, h4, h5]
theorem c16 {x : Nat} (h : x < 65536) : C16 x % 256 + C16 x / 256 = pcf 16 x ∧ C16 x / 256 ≤ 8 ∧ C16 x % 256 ≤ 8 ∧ B16 x % 16 ≤ 4 ∧ B16 x ≤ 17476 := by
  obtain ⟨a, b, h1, h2, rfl⟩ : ∃ a b, a < 256 ∧ b < 256 ∧ x = a + 256 * b := ⟨x % 256, x / 256, by omega, by omega, by omega⟩
  obtain ⟨p1, p2, p3, p4⟩ := all_8 a h1
  obtain ⟨q1, q2, q3, q4⟩ := all_8 b h2
  have e1 : A16 (a + 256 * b) = A8 a + 256 * A8 b := mA h1
  have e2 : B16 (a + 256 * b) = B8 a + 256 * B8 b := by
    unfold B16
    rw [e1, mB (l := A8 a) (show A8 a < 256 from Nat.lt_of_le_of_lt (Nat.sub_le _ _) h1), B8_eq, B8_eq]
  have e3 : C16 (a + 256 * b) = C8 a + 256 * C8 b := by
    unfold C16
    rw [e2, mC p4 q3, C8_eq, C8_eq]
  have e4 : pcf 16 (a + 256 * b) = pcf 8 a + pcf 8 b := by
    rw [show (16 : Nat) = 8 + 8 from rfl, pcf_add 8 8, ← pcf_mod 8 (a + 256 * b), show (2 : Nat) ^ 8 = 256 from rfl, Nat.add_mul_mod_self_left, Nat.mod_eq_of_lt h1, show (a + 256 * b) / 256 = b by omega]
  rw [e2, e3, e4, ← p1, ← q1]
  omega
theorem A16_le (x : Nat) : A16 x ≤ x := Nat.sub_le _ _
theorem nA {lo hi : Nat} (h : lo < 65536) : (lo + 65536 * hi) - ((lo + 65536 * hi) / 2 &&& 1431655765) = A16 lo + 65536 * A16 hi := by
  have h1 : (lo + 65536 * hi) / 2 = (lo / 2 + 2 ^ 15 * (hi % 2)) + 2 ^ 16 * (hi / 2) := by omega
  have h2 : (lo / 2 + 2 ^ 15 * (hi % 2)) &&& (21845 + 2 ^ 15 * 0) = (lo / 2 &&& 21845) + 2 ^ 15 * (hi % 2 &&& 0) := and_split 15 (by omega) (by decide)
  have h3 : ((lo / 2 + 2 ^ 15 * (hi % 2)) + 2 ^ 16 * (hi / 2)) &&& (21845 + 2 ^ 16 * 21845) = ((lo / 2 + 2 ^ 15 * (hi % 2)) &&& 21845) + 2 ^ 16 * (hi / 2 &&& 21845) := and_split 16 (by omega) (by decide)
  simp only [Nat.and_zero, Nat.mul_zero, Nat.add_zero] at h2
  rw [h1, show (1431655765 : Nat) = 21845 + 2 ^ 16 * 21845 from rfl, h3, h2]
  unfold A16
  have g1 : lo / 2 &&& 21845 ≤ lo / 2 := Nat.and_le_left
  have g2 : hi / 2 &&& 21845 ≤ hi / 2 := Nat.and_le_left
  omega
theorem nB {l h : Nat} (hl : l < 65536) : ((l + 65536 * h) &&& 858993459) + ((l + 65536 * h) / 4 &&& 858993459) = ((l &&& 13107) + (l / 4 &&& 13107)) + 65536 * ((h &&& 13107) + (h / 4 &&& 13107)) := by
  have h0 : (l + 2 ^ 16 * h) &&& (13107 + 2 ^ 16 * 13107) = (l &&& 13107) + 2 ^ 16 * (h &&& 13107) := and_split 16 (by omega) (by decide)
  have h1 : (l + 65536 * h) / 4 = (l / 4 + 2 ^ 14 * (h % 4)) + 2 ^ 16 * (h / 4) := by omega
  have h2 : (l / 4 + 2 ^ 14 * (h % 4)) &&& (13107 + 2 ^ 14 * 0) = (l / 4 &&& 13107) + 2 ^ 14 * (h % 4 &&& 0) := and_split 14 (by omega) (by decide)
  have h3 : ((l / 4 + 2 ^ 14 * (h % 4)) + 2 ^ 16 * (h / 4)) &&& (13107 + 2 ^ 16 * 13107) = ((l / 4 + 2 ^ 14 * (h % 4)) &&& 13107) + 2 ^ 16 * (h / 4 &&& 13107) := and_split 16 (by omega) (by decide)
  simp only [Nat.and_zero, Nat.mul_zero, Nat.add_zero] at h2
  have e : (858993459 : Nat) = 13107 + 2 ^ 16 * 13107 := rfl
  have e2 : l + 65536 * h = l + 2 ^ 16 * h := rfl
  rw [h1, e, h3, h2, e2, h0]
  omega
theorem nC {l h : Nat} (hl : l ≤ 17476) (hq : h % 16 ≤ 4) : ((l + 65536 * h) + (l + 65536 * h) / 16) &&& 252645135 = ((l + l / 16) &&& 3855) + 65536 * ((h + h / 16) &&& 3855) := by
  have h1 : (l + 65536 * h) + (l + 65536 * h) / 16 = (l + l / 16 + 2 ^ 12 * (h % 16)) + 2 ^ 16 * (h + h / 16) := by omega
  have h3 : ((l + l / 16 + 2 ^ 12 * (h % 16)) + 2 ^ 16 * (h + h / 16)) &&& (3855 + 2 ^ 16 * 3855) = ((l + l / 16 + 2 ^ 12 * (h % 16)) &&& 3855) + 2 ^ 16 * ((h + h / 16) &&& 3855) := and_split 16 (by omega) (by decide)
  have h4 : ((l + l / 16) % 4096 + 2 ^ 12 * ((l + l / 16) / 4096 + h % 16)) &&& (3855 + 2 ^ 12 * 0) = ((l + l / 16) % 4096 &&& 3855) + 2 ^ 12 * (((l + l / 16) / 4096 + h % 16) &&& 0) := and_split 12 (by omega) (by decide)
  have h5 : ((l + l / 16) % 4096 + 2 ^ 12 * ((l + l / 16) / 4096)) &&& (3855 + 2 ^ 12 * 0) = ((l + l / 16) % 4096 &&& 3855) + 2 ^ 12 * (((l + l / 16) / 4096) &&& 0) := and_split 12 (by omega) (by decide)
  simp only [Nat.and_zero, Nat.mul_zero, Nat.add_zero] at h4 h5
  have e4 : (l + l / 16) % 4096 + 2 ^ 12 * ((l + l / 16) / 4096 + h % 16) = l + l / 16 + 2 ^ 12 * (h % 16) := by omega
  have e5 : (l + l / 16) % 4096 + 2 ^ 12 * ((l + l / 16) / 4096) = l + l / 16 := by omega
  rw [e4] at h4
  rw [e5] at h5
  rw [h1, show (252645135 : Nat) = 3855 + 2 ^ 16 * 3855 from rfl, h3, h4, h5]
theorem sum_1 {u v U V : Nat} (h1 : u ≤ 8) (h2 : v ≤ 8) (h3 : U ≤ 8) (h4 : V ≤ 8) : (u + 256 * v + 65536 * (U + 256 * V)) / 256 = v + 256 * U + 65536 * V := by omega
theorem sum_2 {u v U V : Nat} (h1 : u ≤ 8) (h2 : v ≤ 8) (h3 : U ≤ 8) (h4 : V ≤ 8) : (u + 256 * v + 65536 * (U + 256 * V) + (v + 256 * U + 65536 * V)) / 65536 = U + V + 256 * V := by omega
theorem sum_3 {u v U V : Nat} (h1 : u ≤ 8) (h2 : v ≤ 8) (h3 : U ≤ 8) (h4 : V ≤ 8) : (u + 256 * v + 65536 * (U + 256 * V) + (v + 256 * U + 65536 * V) + (U + V + 256 * V)) % 64 = u + v + (U + V) := by
  have e : u + 256 * v + 65536 * (U + 256 * V) + (v + 256 * U + 65536 * V) + (U + V + 256 * V) = (u + v + (U + V)) + 64 * (4 * v + 1024 * U + 262144 * V + 4 * U + 1024 * V + 4 * V) := by omega
  rw [e, Nat.add_mul_mod_self_left]
  exact Nat.mod_eq_of_lt (by omega)
theorem bit_pc {n : Nat} (h : n < 2 ^ 31) : F_J6_bitCount_0f7a4 (nI n) = nI (pcf 31 n) := by
  obtain ⟨lo, hi, h1, h2, rfl⟩ : ∃ lo hi, lo < 65536 ∧ hi < 32768 ∧ n = lo + 65536 * hi := ⟨n % 65536, n / 65536, by omega, by omega, by omega⟩
  obtain ⟨p1, p2, p3, p4, p5⟩ := c16 h1
  obtain ⟨q1, q2, q3, q4, q5⟩ := c16 (show hi < 65536 by omega)
  have hAl := A16_le lo
  have hAh := A16_le hi
  have t9 : T_J6_bitCount_0f7a4_9 (nI (lo + 65536 * hi)) = nI (A16 lo + 65536 * A16 hi) := by
    unfold T_J6_bitCount_0f7a4_9
    rw [pk_ushrN (by omega) 1 1 (by decide), show (1431655765 : Int32) = nI 1431655765 from rfl, and_nI, pk_sub (Nat.le_trans Nat.and_le_left (by omega)), Nat.pow_one, nA h1]
  have t23 : T_J6_bitCount_0f7a4_23 (nI (lo + 65536 * hi)) = nI (B16 lo + 65536 * B16 hi) := by
    unfold T_J6_bitCount_0f7a4_23
    rw [t9, pk_ushrN (by omega) 2 2 (by decide), show (858993459 : Int32) = nI 858993459 from rfl, and_nI, and_nI, nI_add, show (2 : Nat) ^ 2 = 4 from rfl, nB (by omega), B16_eq, B16_eq]
  have t33 : T_J6_bitCount_0f7a4_33 (nI (lo + 65536 * hi)) = nI (C16 lo + 65536 * C16 hi) := by
    unfold T_J6_bitCount_0f7a4_33
    rw [t23, pk_ushrN (by omega) 4 4 (by decide), nI_add, show (252645135 : Int32) = nI 252645135 from rfl, and_nI, show (2 : Nat) ^ 4 = 16 from rfl, nC p5 q4, C16_eq, C16_eq]
  have hc : C16 lo = C16 lo % 256 + 256 * (C16 lo / 256) := (Nat.mod_add_div _ _).symm
  have hd : C16 hi = C16 hi % 256 + 256 * (C16 hi / 256) := (Nat.mod_add_div _ _).symm
  generalize C16 lo % 256 = u at *
  generalize C16 lo / 256 = v at *
  generalize C16 hi % 256 = U at *
  generalize C16 hi / 256 = V at *
  rw [hc, hd] at t33
  have t40 : T_J6_bitCount_0f7a4_40 (nI (lo + 65536 * hi)) = nI (u + 256 * v + 65536 * (U + 256 * V) + (v + 256 * U + 65536 * V)) := by
    unfold T_J6_bitCount_0f7a4_40
    rw [t33, pk_ushrN (by omega) 8 8 (by decide), nI_add, show (2 : Nat) ^ 8 = 256 from rfl, sum_1 p3 p2 q3 q2]
  have t47 : T_J6_bitCount_0f7a4_47 (nI (lo + 65536 * hi)) = nI (u + 256 * v + 65536 * (U + 256 * V) + (v + 256 * U + 65536 * V) + (U + V + 256 * V)) := by
    unfold T_J6_bitCount_0f7a4_47
    rw [t40, pk_ushrN (by omega) 16 16 (by decide), nI_add, show (2 : Nat) ^ 16 = 65536 from rfl, sum_2 p3 p2 q3 q2]
  unfold F_J6_bitCount_0f7a4
  rw [t47, pk_andN (by omega) 6 (by decide), show (2 : Nat) ^ 6 = 64 from rfl, sum_3 p3 p2 q3 q2, p1, q1]
  refine congrArg nI ?_
  rw [show (31 : Nat) = 16 + 15 from rfl, pcf_add 16 15, ← pcf_mod 16 (lo + 65536 * hi), show (2 : Nat) ^ 16 = 65536 from rfl, Nat.add_mul_mod_self_left, Nat.mod_eq_of_lt h1, show (lo + 65536 * hi) / 65536 = hi by omega]
  refine congrArg (pcf 16 lo + ·) ?_
  have h9 := pcf_add 15 1 hi
  rw [Nat.div_eq_of_lt (show hi < 2 ^ 15 by omega)] at h9
  exact h9.trans (by rw [pcf_0]; rfl)
theorem bit_many {n : Nat} (h : n < 2 ^ 31) : F_J6_bitCount_0f7a4 (nI n) = F_X7_many (nI n) := (bit_pc h).trans (many_pc h).symm
theorem bit_manyx {x : Int32} (h : 0 ≤ x) : F_J6_bitCount_0f7a4 x = F_X7_many x := by
  obtain ⟨j, hj, rfl⟩ := nI_of (x := x) (fun h2 => by
    rw [Int32.le_iff_toInt_le] at h
    rw [Int32.lt_iff_toInt_lt] at h2
    omega)
  exact bit_many hj

theorem has_hold (x k : Int32) : F_X4_holds x k = F_X7_has x k := rfl
theorem in_iff (x : Int32) (a b : Int32) : (F_X7_isIn x a b = 0 ∧ (x < a ∨ (¬ x < a ∧ b < x))) ∨ (¬ F_X7_isIn x a b = 0 ∧ ¬ x < a ∧ ¬ b < x) := by
  unfold F_X7_isIn
  by_cases h1 : x < a
  · rw [if_pos h1]; exact Or.inl ⟨rfl, Or.inl h1⟩
  · rw [if_neg h1]
    by_cases h2 : b < x
    · rw [if_pos h2]; exact Or.inl ⟨rfl, Or.inr ⟨h1, h2⟩⟩
    · rw [if_neg h2]; exact Or.inr ⟨by decide, h1, h2⟩
theorem key_iff {K : Nat} {x : Int32} (hK : K ≤ 25) (h0 : 0 < K) : (F_X3_hasKey K x = 0 ∧ ¬ F_X7_isNoKey K x = 0) ∨ (¬ F_X3_hasKey K x = 0 ∧ F_X7_isNoKey K x = 0 ∧ ∃ k, k < K ∧ x = nI k) := by
  unfold F_X3_hasKey F_X7_isNoKey
  rw [show F_Jx4a65c_size_8abf5 K - 1 = nI (K - 1) from nI_m1 h0]
  rcases in_iff x 0 (nI (K - 1)) with ⟨a1, a2 | ⟨a2, a3⟩⟩ | ⟨a1, a2, a3⟩
  · rw [if_pos a2, if_pos a1]; exact Or.inl ⟨rfl, by decide⟩
  · have h1 : nI K ≤ x := by
      rw [Int32.lt_iff_toInt_lt, nI_toInt (by omega)] at a3
      rw [Int32.le_iff_toInt_le, nI_toInt (by omega)]
      omega
    rw [if_neg a2, if_pos h1, if_pos a1]; exact Or.inl ⟨rfl, by decide⟩
  · have h1 : ¬ nI K ≤ x := by
      rw [Int32.lt_iff_toInt_lt, nI_toInt (by omega)] at a3
      rw [Int32.le_iff_toInt_le, nI_toInt (by omega)]
      omega
    obtain ⟨j, hj, rfl⟩ := nI_of a2
    rw [if_neg a2, if_neg h1, if_neg a1]
    refine Or.inr ⟨by decide, rfl, j, ?_, rfl⟩
    rcases Nat.lt_or_ge j K with q | q
    · exact q
    · exact absurd (nI_le q hj) h1
theorem i_nI (x : Int32) : x = nI x.toBitVec.toNat := by
  apply Int32.toBitVec_inj.mp
  apply BitVec.eq_of_toNat_eq
  show x.toBitVec.toNat = (BitVec.ofNat 32 x.toBitVec.toNat).toNat
  rw [BitVec.toNat_ofNat]
  omega
theorem shl25 : ∀ k, k < 26 → (1 : Int32) <<< (nI k &&& 31) = nI (2 ^ k) := by decide +kernel
theorem or_nI (a b : Nat) : nI a ||| nI b = nI (a ||| b) := by
  apply Int32.toBitVec_inj.mp
  apply BitVec.eq_of_toNat_eq
  rw [Int32.toBitVec_or, BitVec.toNat_or]
  show a % 2 ^ 32 ||| b % 2 ^ 32 = (a ||| b) % 2 ^ 32
  rw [Nat.or_mod_two_pow]
theorem with25 {x x2 : Int32} {k : Nat} (hx : ∃ b, b < 2 ^ 25 ∧ x = nI b) (hk : k < 25) : ∃ b, b < 2 ^ 25 ∧ F_X7_with x (nI k) x2 = nI b := by
  obtain ⟨b, hb, rfl⟩ := hx
  unfold F_X7_with
  by_cases h : x2 = 0
  · rw [if_pos h]
    refine ⟨(nI b &&& (((1 : Int32) <<< (nI k &&& 31)) ^^^ (-1))).toBitVec.toNat, ?_, i_nI _⟩
    rw [Int32.toBitVec_and, BitVec.toNat_and]
    refine Nat.lt_of_le_of_lt Nat.and_le_left ?_
    show b % 2 ^ 32 < 2 ^ 25
    rw [Nat.mod_eq_of_lt (by omega)]
    exact hb
  · rw [if_neg h, shl25 k (by omega), or_nI]
    exact ⟨_, Nat.or_lt_two_pow hb (Nat.pow_lt_pow_right (by decide) hk), rfl⟩
theorem hold_01 (x k : Int32) : F_X4_holds x k = 0 ∨ F_X4_holds x k = 1 := has_01 x k
theorem xor_with {he x2 : Int32} {k : Nat} (hk : k < 25) (h2 : x2 = 0 ∨ x2 = 1) (hne : ¬ F_X4_holds he (nI k) = x2) : he ^^^ ((1 : Int32) <<< (nI k &&& 31)) = F_X7_with he (nI k) x2 := by
  unfold F_X7_with
  rcases h2 with rfl | rfl
  · have hb : bt he k = true := by
      cases e : bt he k with
      | true => rfl
      | false => exact absurd ((holds_iff (by omega)).mpr e) hne
    rw [if_pos rfl]
    apply bt_ext
    intro j hj
    rw [bt_xor, bt_and, bt_not _ hj, bt_bit (by omega) hj]
    by_cases e : j = k
    · subst e; simp [hb]
    · simp [e]
  · have hb : bt he k = false := (holds_iff (by omega)).mp ((hold_01 he (nI k)).resolve_right hne)
    rw [if_neg (by decide)]
    apply bt_ext
    intro j hj
    rw [bt_xor, bt_or, bt_bit (by omega) hj]
    by_cases e : j = k
    · subst e; simp [hb]
    · simp [e]
theorem move_w {fB fN fM : Nat → Int32} {he x2 x3 : Int32} {k : Nat} (hk : k < 25) (h2 : x2 = 0 ∨ x2 = 1) : (F_X0_move fB fN fM he k x2 x3).1 = if F_X7_has he (nI k) = x2 then he else F_X7_with he (nI k) x2 := by
  unfold F_X0_move
  by_cases h : F_X4_holds he (nI k) = x2
  · rw [if_pos h, if_pos (show F_X7_has he (nI k) = x2 from h)]
  · rw [if_neg h, if_neg (show ¬ F_X7_has he (nI k) = x2 from h)]
    exact xor_with hk h2 h
theorem fit_w {R C : Nat} {fi di br x1 x2 x3 : Int32} : (F_X3_fit R C fi di br x1 x2 x3).1 = F_X7_with fi x1 x2 := by
  unfold F_X3_fit F_X7_with
  by_cases h : x2 = 0
  · rw [if_pos h, if_pos h]
    by_cases h3 : x3 = 0
    · rw [if_pos h3]; rfl
    · rw [if_neg h3]; rfl
  · rw [if_neg h, if_neg h]
    by_cases h3 : x3 = 0
    · rw [if_pos h3]; rfl
    · rw [if_neg h3]; rfl
theorem key_acc {K : Nat} {x1 x2 x4 x5 : Int32} (hK : K ≤ 25) (h0 : 0 < K) :
    (E_X4_key K x1 x2 x4 x5 = 2 ∧ ¬ F_X7_isNoKey K x1 = 0) ∨ (F_X7_isNoKey K x1 = 0 ∧ ∃ k, k < K ∧ x1 = nI k ∧ ((E_X4_key K x1 x2 x4 x5 = 1 ∧ (F_X7_isIn x4 0 5 = 0 ∨ (¬ F_X7_isIn x4 0 5 = 0 ∧ F_X7_isIn x5 0 2 = 0))) ∨ (E_X4_key K x1 x2 x4 x5 = 0 ∧ ¬ F_X7_isIn x4 0 5 = 0 ∧ ¬ F_X7_isIn x5 0 2 = 0))) := by
  unfold E_X4_key
  rcases key_iff (x := x1) hK h0 with ⟨a1, a2⟩ | ⟨a1, a2, k, a3, a4⟩
  · rw [if_pos a1]; exact Or.inl ⟨rfl, a2⟩
  · rw [if_neg a1]
    refine Or.inr ⟨a2, k, a3, a4, ?_⟩
    rcases in_iff x4 0 5 with ⟨b1, b2 | ⟨b2, b3⟩⟩ | ⟨b1, b2, b3⟩
    · rw [if_pos b2]; exact Or.inl ⟨rfl, Or.inl b1⟩
    · rw [if_neg b2, if_pos b3]; exact Or.inl ⟨rfl, Or.inl b1⟩
    · rw [if_neg b2, if_neg b3]
      rcases in_iff x5 0 2 with ⟨c1, c2 | ⟨c2, c3⟩⟩ | ⟨c1, c2, c3⟩
      · rw [if_pos c2]; exact Or.inl ⟨rfl, Or.inr ⟨b1, c1⟩⟩
      · rw [if_neg c2, if_neg (Int32.not_le.mpr c3)]; exact Or.inl ⟨rfl, Or.inr ⟨b1, c1⟩⟩
      · rw [if_neg c2, if_pos (Int32.not_lt.mp c3)]
        refine Or.inr ⟨?_, b1, c1⟩
        split <;> rfl

theorem key4 {sc : Nat} {R : Nat} {C : Nat} {K : Nat} {fi : Int32} {di : Int32} {br : Int32} {li : Int32} {he : Int32} {fB : Nat → Int32} {fS : Nat → Int32} {fN : Nat → Int32} {fM : Nat → Int32} {x1 : Int32} {x2 : Int32} {x3 : Int32} {x4 : Int32} {x5 : Int32} (h : E_X4_key K x1 x2 x4 x5 = 0) : (F_X4_key sc R C K fi di br li he fB fS fN fM x1 x2 x3 x4 x5).1 = F_J6_bitCount_0f7a4 (F_X7_with fi x1 x2) ∧ (F_X4_key sc R C K fi di br li he fB fS fN fM x1 x2 x3 x4 x5).2.1 = F_X7_with fi x1 x2 ∧ (F_X4_key sc R C K fi di br li he fB fS fN fM x1 x2 x3 x4 x5).2.2.2.2.2.2.1 = if x2 = 0 then (F_X0_move (upd fB x1.toNatClampNeg x4) fN fM he x1.toNatClampNeg 0 (nI sc)).1 else he := by
  unfold E_X4_key at h
  unfold F_X4_key
  by_cases h1 : F_X3_hasKey K x1 = 0
  · rw [if_pos h1] at h; exact absurd h (by decide)
  · rw [if_neg h1] at h ⊢
    by_cases h2 : x4 < 0
    · rw [if_pos h2] at h; exact absurd h (by decide)
    · rw [if_neg h2] at h ⊢
      by_cases h3 : 5 < x4
      · rw [if_pos h3] at h; exact absurd h (by decide)
      · rw [if_neg h3] at h ⊢
        by_cases h4 : x5 < 0
        · rw [if_pos h4] at h; exact absurd h (by decide)
        · rw [if_neg h4] at h ⊢
          by_cases h5 : x5 ≤ 2
          · rw [if_pos h5]
            by_cases h6 : x2 = 0
            · rw [if_pos h6, if_pos h6]
              exact ⟨congrArg F_J6_bitCount_0f7a4 fit_w, fit_w, rfl⟩
            · rw [if_neg h6, if_neg h6]
              exact ⟨congrArg F_J6_bitCount_0f7a4 fit_w, fit_w, rfl⟩
          · rw [if_neg h5] at h; exact absurd h (by decide)
theorem keym_acc {fi : Int32} {di : Int32} {he : Int32} {sc : Nat} {K : Nat} {V : Nat → KV} {x1 : Int32} {x2 : Int32} {x3 : Int32} {x4 : Int32} {x5 : Int32} (h1 : F_X7_isNoKey K x1 = 0) (h2 : ¬ F_X7_isIn x4 0 5 = 0) (h3 : ¬ F_X7_isIn x5 0 2 = 0) : (F_X7_key fi di he sc K V x1 x2 x3 x4 x5).1 = F_X7_many (F_X7_with fi x1 x2) ∧ (F_X7_key fi di he sc K V x1 x2 x3 x4 x5).2.1 = (F_X7_refuse ((F_X7_start (F_X7_isNoKey K x1) 1).2) 0 2).2 ∧ (F_X7_key fi di he sc K V x1 x2 x3 x4 x5).2.2.1 = F_X7_with fi x1 x2 ∧ (F_X7_key fi di he sc K V x1 x2 x3 x4 x5).2.2.2.2.1 = if x2 = 0 then (if F_X7_has he x1 = 0 then he else F_X7_with he (nI x1.toNatClampNeg) 0) else he := by
  have hs : (F_X7_start (F_X7_isNoKey K x1) 1).1 = 0 := by rw [h1]; decide
  unfold F_X7_key
  rw [if_pos hs, if_neg h2, if_neg h3]
  by_cases h6 : x2 = 0
  · rw [if_pos h6, if_pos h6]
    by_cases h7 : F_X7_has he x1 = 0
    · rw [if_pos h7, if_pos h7]; exact ⟨rfl, rfl, rfl, rfl⟩
    · rw [if_neg h7, if_neg h7]; exact ⟨rfl, rfl, rfl, rfl⟩
  · rw [if_neg h6, if_neg h6]; exact ⟨rfl, rfl, rfl, rfl⟩
theorem keym_ref {fi : Int32} {di : Int32} {he : Int32} {sc : Nat} {K : Nat} {V : Nat → KV} {x1 : Int32} {x2 : Int32} {x3 : Int32} {x4 : Int32} {x5 : Int32} (h1 : F_X7_isNoKey K x1 = 0) (h2 : F_X7_isIn x4 0 5 = 0 ∨ (¬ F_X7_isIn x4 0 5 = 0 ∧ F_X7_isIn x5 0 2 = 0)) : (F_X7_key fi di he sc K V x1 x2 x3 x4 x5).2.1 = (F_X7_refuse ((F_X7_start (F_X7_isNoKey K x1) 1).2) 1 2).2 ∧ (F_X7_key fi di he sc K V x1 x2 x3 x4 x5).2.2.1 = fi ∧ (F_X7_key fi di he sc K V x1 x2 x3 x4 x5).2.2.2.2.1 = he := by
  have hs : (F_X7_start (F_X7_isNoKey K x1) 1).1 = 0 := by rw [h1]; decide
  unfold F_X7_key
  rcases h2 with h2 | ⟨h2, h3⟩
  · rw [if_pos hs, if_pos h2]; exact ⟨rfl, rfl, rfl⟩
  · rw [if_pos hs, if_neg h2, if_pos h3]; exact ⟨rfl, rfl, rfl⟩
theorem keym_no {fi : Int32} {di : Int32} {he : Int32} {sc : Nat} {K : Nat} {V : Nat → KV} {x1 : Int32} {x2 : Int32} {x3 : Int32} {x4 : Int32} {x5 : Int32} (h1 : ¬ F_X7_isNoKey K x1 = 0) : (F_X7_key fi di he sc K V x1 x2 x3 x4 x5).2.1 = 1 ∧ (F_X7_key fi di he sc K V x1 x2 x3 x4 x5).2.2.1 = fi ∧ (F_X7_key fi di he sc K V x1 x2 x3 x4 x5).2.2.2.2.1 = he := by
  have h2 : F_X7_isNoKey K x1 = 1 := (nk_01 K x1).resolve_left h1
  have hs : ¬ (F_X7_start (F_X7_isNoKey K x1) 1).1 = 0 := by rw [h2]; decide
  unfold F_X7_key
  rw [if_neg hs]
  refine ⟨?_, rfl, rfl⟩
  show (F_X7_start (F_X7_isNoKey K x1) 1).2 = 1
  rw [h2]
  decide

/-- key leaves what is fitted and what is held alike on both sides -/
theorem key_eq {sc : Nat} {R : Nat} {C : Nat} {K : Nat} {fi : Int32} {di : Int32} {br : Int32} {li : Int32} {he : Int32} {fB : Nat → Int32} {fS : Nat → Int32} {fN : Nat → Int32} {fM : Nat → Int32} {x1 : Int32} {x2 : Int32} {x3 : Int32} {x4 : Int32} {x5 : Int32} {on : Int64} {mfi : Int32} {mdi : Int32} {mhe : Int32} {msc : Nat} {mK : Nat} {mV : Nat → KV} (hK : K ≤ 25) (h0 : 0 < mK) (hx2 : x2 = 0 ∨ x2 = 1) (h : he = mhe ∧ fi = mfi ∧ K = mK ∧ (∃ b, b < 2 ^ 25 ∧ he = nI b) ∧ ∃ b, b < 2 ^ 25 ∧ fi = nI b) : (F_L_key sc R C K fi di br li he fB fS fN fM x1 x2 x3 x4 x5 on).2.2.2.2.2.2.1 = (F_X7_key mfi mdi mhe msc mK mV x1 x2 x3 x4 x5).2.2.2.2.1 ∧ (F_L_key sc R C K fi di br li he fB fS fN fM x1 x2 x3 x4 x5 on).2.1 = (F_X7_key mfi mdi mhe msc mK mV x1 x2 x3 x4 x5).2.2.1 ∧ (∃ b, b < 2 ^ 25 ∧ (F_L_key sc R C K fi di br li he fB fS fN fM x1 x2 x3 x4 x5 on).2.2.2.2.2.2.1 = nI b) ∧ ∃ b, b < 2 ^ 25 ∧ (F_L_key sc R C K fi di br li he fB fS fN fM x1 x2 x3 x4 x5 on).2.1 = nI b := by
  obtain ⟨e1, e2, e3, hb, hf⟩ := h
  subst e1
  subst e2
  subst e3
  rcases key_acc (x1 := x1) (x2 := x2) (x4 := x4) (x5 := x5) hK h0 with ⟨g0, g1⟩ | ⟨g1, k, g2, g3, ⟨g0, g4⟩ | ⟨g0, g4, g5⟩⟩
  · obtain ⟨-, m2, m3⟩ := keym_no (fi := fi) (di := mdi) (he := he) (sc := msc) (V := mV) (x2 := x2) (x3 := x3) (x4 := x4) (x5 := x5) g1
    have f1 : (F_L_key sc R C K fi di br li he fB fS fN fM x1 x2 x3 x4 x5 on).2.2.2.2.2.2.1 = he ∧ (F_L_key sc R C K fi di br li he fB fS fN fM x1 x2 x3 x4 x5 on).2.1 = fi := by unfold F_L_key; rw [if_neg (show ¬ E_X4_key K x1 x2 x4 x5 = 0 by rw [g0]; decide), if_pos g0]; exact ⟨rfl, rfl⟩
    rw [f1.1, f1.2, m2, m3]
    exact ⟨rfl, rfl, hb, hf⟩
  · obtain ⟨-, m2, m3⟩ := keym_ref (fi := fi) (di := mdi) (he := he) (sc := msc) (V := mV) (x2 := x2) (x3 := x3) (x4 := x4) (x5 := x5) g1 g4
    have f1 : (F_L_key sc R C K fi di br li he fB fS fN fM x1 x2 x3 x4 x5 on).2.2.2.2.2.2.1 = he ∧ (F_L_key sc R C K fi di br li he fB fS fN fM x1 x2 x3 x4 x5 on).2.1 = fi := by unfold F_L_key; rw [if_neg (show ¬ E_X4_key K x1 x2 x4 x5 = 0 by rw [g0]; decide), if_neg (show ¬ E_X4_key K x1 x2 x4 x5 = 2 by rw [g0]; decide)]; exact ⟨rfl, rfl⟩
    rw [f1.1, f1.2, m2, m3]
    exact ⟨rfl, rfl, hb, hf⟩
  · obtain ⟨-, -, m2, m3⟩ := keym_acc (fi := fi) (di := mdi) (he := he) (sc := msc) (V := mV) (x2 := x2) (x3 := x3) (x4 := x4) (x5 := x5) g1 g4 g5
    obtain ⟨-, l1, l2⟩ := key4 (sc := sc) (R := R) (C := C) (fi := fi) (di := di) (br := br) (li := li) (he := he) (fB := fB) (fS := fS) (fN := fN) (fM := fM) (x3 := x3) g0
    have f1 : (F_L_key sc R C K fi di br li he fB fS fN fM x1 x2 x3 x4 x5 on).2.2.2.2.2.2.1 = (F_X4_key sc R C K fi di br li he fB fS fN fM x1 x2 x3 x4 x5).2.2.2.2.2.2.1 ∧ (F_L_key sc R C K fi di br li he fB fS fN fM x1 x2 x3 x4 x5 on).2.1 = (F_X4_key sc R C K fi di br li he fB fS fN fM x1 x2 x3 x4 x5).2.1 := by unfold F_L_key; rw [if_pos g0]; exact ⟨rfl, rfl⟩
    subst g3
    rw [nI_clamp (by omega)] at l2 m3
    have hw : (if x2 = 0 then (F_X0_move (upd fB k x4) fN fM he k 0 (nI sc)).1 else he) = if x2 = 0 then (if F_X7_has he (nI k) = 0 then he else F_X7_with he (nI k) 0) else he := by
      by_cases h6 : x2 = 0
      · rw [if_pos h6, if_pos h6, move_w (by omega) (Or.inl rfl)]
      · rw [if_neg h6, if_neg h6]
    rw [f1.1, f1.2, l1, l2, m2, m3, hw]
    refine ⟨rfl, rfl, ?_, with25 hf (by omega)⟩
    by_cases h6 : x2 = 0
    · rw [if_pos h6]
      by_cases h7 : F_X7_has he (nI k) = 0
      · rw [if_pos h7]; exact hb
      · rw [if_neg h7]; exact with25 hb (by omega)
    · rw [if_neg h6]; exact hb

theorem lay4_he {he : Int32} {dn : Int32} {ea : Int32} {lo : Int32} {Ch : Nat} {ct : Int32} {ml : Int32} {n : Nat} {fB : Nat → Int32} {fS : Nat → Int32} {fN : Nat → Int32} {fM : Nat → Int32} {fCn : Nat → Int32} {fE : Nat → Int32} {fLE : Nat → Int32} {fC : Nat → Int32} {fG : Nat → Int32} {fI : Nat → Int32} {x1 : Int32} {x2 : Int32} (h : E_X4_lay x1 x2 = 0) : (F_X4_lay he dn ea lo Ch ct ml n fB fS fN fM fCn fE fLE fC fG fI x1 x2).2.2.2.2.2.1 = 0 := by
  unfold F_X4_lay
  rw [if_neg (lay4_acc h).1, if_neg (lay4_acc h).2]
  rfl

theorem lay_he {sc : Nat} {pa : Int32} {gu : Int32} {cl : Int32} {se : Int32} {R : Nat} {C : Nat} {K : Nat} {fi : Int32} {di : Int32} {br : Int32} {li : Int32} {he : Int32} {dn : Int32} {ea : Int32} {lo : Int32} {Ch : Nat} {ct : Int32} {ml : Int32} {n : Nat} {fB : Nat → Int32} {fS : Nat → Int32} {fN : Nat → Int32} {fM : Nat → Int32} {fCn : Nat → Int32} {fE : Nat → Int32} {fLE : Nat → Int32} {fC : Nat → Int32} {fG : Nat → Int32} {fI : Nat → Int32} {x1 : Int32} {x2 : Int32} {mR : Nat} {mC : Nat} {mfi : Int32} {mdi : Int32} {mhe : Int32} {mbr : Int32} {mpa : Int32} {mgu : Int32} {msc : Nat} {mcl : Int32} {mse : Int32} {mlo : Int32} {mkm : Int32} {mK : Nat} {mkn : Nat} {mhm : Int32} {mnh : Nat} {mml : Int32} {mn : Nat} {mV : Nat → KV} (h : he = mhe) : (F_L_lay sc pa gu cl se R C K fi di br li he dn ea lo Ch ct ml n fB fS fN fM fCn fE fLE fC fG fI x1 x2).2.2.2.2.1 = (F_X7_lay mR mC mfi mdi mhe mbr mpa mgu msc mcl mse mlo mkm mK mkn mhm mnh mml mn mV x1 x2).2.2.2.2.2.2.1 := by
  rcases lay_acc x1 x2 with ⟨h0, h1, h2⟩ | ⟨h0, h1 | ⟨h1, h2⟩⟩
  · unfold F_L_lay F_X7_lay
    rw [if_pos h0, if_neg h1, if_neg h2]
    all_goals first | rfl | exact (lay4_he h0)
  · unfold F_L_lay F_X7_lay
    rw [if_neg h0, if_pos h1]
    exact h
  · unfold F_L_lay F_X7_lay
    rw [if_neg h0, if_neg h1, if_pos h2]
    exact h

theorem lay_fi {sc : Nat} {pa : Int32} {gu : Int32} {cl : Int32} {se : Int32} {R : Nat} {C : Nat} {K : Nat} {fi : Int32} {di : Int32} {br : Int32} {li : Int32} {he : Int32} {dn : Int32} {ea : Int32} {lo : Int32} {Ch : Nat} {ct : Int32} {ml : Int32} {n : Nat} {fB : Nat → Int32} {fS : Nat → Int32} {fN : Nat → Int32} {fM : Nat → Int32} {fCn : Nat → Int32} {fE : Nat → Int32} {fLE : Nat → Int32} {fC : Nat → Int32} {fG : Nat → Int32} {fI : Nat → Int32} {x1 : Int32} {x2 : Int32} {mR : Nat} {mC : Nat} {mfi : Int32} {mdi : Int32} {mhe : Int32} {mbr : Int32} {mpa : Int32} {mgu : Int32} {msc : Nat} {mcl : Int32} {mse : Int32} {mlo : Int32} {mkm : Int32} {mK : Nat} {mkn : Nat} {mhm : Int32} {mnh : Nat} {mml : Int32} {mn : Nat} {mV : Nat → KV} (h : fi = mfi) : (F_L_lay sc pa gu cl se R C K fi di br li he dn ea lo Ch ct ml n fB fS fN fM fCn fE fLE fC fG fI x1 x2).2.2.2.2.2.2.2.2.2.2.2.2.2.2.2.2.2.2.2.2.2.1 = (F_X7_lay mR mC mfi mdi mhe mbr mpa mgu msc mcl mse mlo mkm mK mkn mhm mnh mml mn mV x1 x2).2.2.2.2.1 := by
  rcases lay_acc x1 x2 with ⟨h0, h1, h2⟩ | ⟨h0, h1 | ⟨h1, h2⟩⟩
  · unfold F_L_lay F_X7_lay
    rw [if_pos h0, if_neg h1, if_neg h2]
    all_goals first | rfl | exact rfl
  · unfold F_L_lay F_X7_lay
    rw [if_neg h0, if_pos h1]
    exact h
  · unfold F_L_lay F_X7_lay
    rw [if_neg h0, if_neg h1, if_pos h2]
    exact h

theorem lay_K {sc : Nat} {pa : Int32} {gu : Int32} {cl : Int32} {se : Int32} {R : Nat} {C : Nat} {K : Nat} {fi : Int32} {di : Int32} {br : Int32} {li : Int32} {he : Int32} {dn : Int32} {ea : Int32} {lo : Int32} {Ch : Nat} {ct : Int32} {ml : Int32} {n : Nat} {fB : Nat → Int32} {fS : Nat → Int32} {fN : Nat → Int32} {fM : Nat → Int32} {fCn : Nat → Int32} {fE : Nat → Int32} {fLE : Nat → Int32} {fC : Nat → Int32} {fG : Nat → Int32} {fI : Nat → Int32} {x1 : Int32} {x2 : Int32} {mR : Nat} {mC : Nat} {mfi : Int32} {mdi : Int32} {mhe : Int32} {mbr : Int32} {mpa : Int32} {mgu : Int32} {msc : Nat} {mcl : Int32} {mse : Int32} {mlo : Int32} {mkm : Int32} {mK : Nat} {mkn : Nat} {mhm : Int32} {mnh : Nat} {mml : Int32} {mn : Nat} {mV : Nat → KV} (h : K = mK) : (F_L_lay sc pa gu cl se R C K fi di br li he dn ea lo Ch ct ml n fB fS fN fM fCn fE fLE fC fG fI x1 x2).2.2.2.2.2.2.2.2.2.2.2.2.2.2.2.2.2.2.2.2.1 = (F_X7_lay mR mC mfi mdi mhe mbr mpa mgu msc mcl mse mlo mkm mK mkn mhm mnh mml mn mV x1 x2).2.2.2.2.2.2.2.2.2.2.2.2.2.2.2.2.2.2.2.2.2.1 := by
  rcases lay_acc x1 x2 with ⟨h0, h1, h2⟩ | ⟨h0, h1 | ⟨h1, h2⟩⟩
  · unfold F_L_lay F_X7_lay
    rw [if_pos h0, if_neg h1, if_neg h2]
    all_goals first | rfl | exact rfl
  · unfold F_L_lay F_X7_lay
    rw [if_neg h0, if_pos h1]
    exact h
  · unfold F_L_lay F_X7_lay
    rw [if_neg h0, if_neg h1, if_pos h2]
    exact h

theorem lay_hb {sc : Nat} {pa : Int32} {gu : Int32} {cl : Int32} {se : Int32} {R : Nat} {C : Nat} {K : Nat} {fi : Int32} {di : Int32} {br : Int32} {li : Int32} {he : Int32} {dn : Int32} {ea : Int32} {lo : Int32} {Ch : Nat} {ct : Int32} {ml : Int32} {n : Nat} {fB : Nat → Int32} {fS : Nat → Int32} {fN : Nat → Int32} {fM : Nat → Int32} {fCn : Nat → Int32} {fE : Nat → Int32} {fLE : Nat → Int32} {fC : Nat → Int32} {fG : Nat → Int32} {fI : Nat → Int32} {x1 : Int32} {x2 : Int32} (h : (∃ b, b < 2 ^ 25 ∧ he = nI b) ∧ ∃ b, b < 2 ^ 25 ∧ fi = nI b) : (∃ b, b < 2 ^ 25 ∧ (F_L_lay sc pa gu cl se R C K fi di br li he dn ea lo Ch ct ml n fB fS fN fM fCn fE fLE fC fG fI x1 x2).2.2.2.2.1 = nI b) ∧ ∃ b, b < 2 ^ 25 ∧ (F_L_lay sc pa gu cl se R C K fi di br li he dn ea lo Ch ct ml n fB fS fN fM fCn fE fLE fC fG fI x1 x2).2.2.2.2.2.2.2.2.2.2.2.2.2.2.2.2.2.2.2.2.2.1 = nI b := by
  rcases lay_acc x1 x2 with ⟨h0, h1, h2⟩ | ⟨h0, -⟩
  · obtain ⟨a1, a2, -⟩ := in_2 h1
    obtain ⟨b1, b2, -⟩ := in_2 h2
    have hk : x1.toNatClampNeg * x2.toNatClampNeg ≤ 25 := Nat.mul_le_mul a2 b2
    have f1 : (F_L_lay sc pa gu cl se R C K fi di br li he dn ea lo Ch ct ml n fB fS fN fM fCn fE fLE fC fG fI x1 x2).2.2.2.2.1 = 0 := by unfold F_L_lay; rw [if_pos h0]; exact lay4_he h0
    have f2 : (F_L_lay sc pa gu cl se R C K fi di br li he dn ea lo Ch ct ml n fB fS fN fM fCn fE fLE fC fG fI x1 x2).2.2.2.2.2.2.2.2.2.2.2.2.2.2.2.2.2.2.2.2.2.1 = fitI (x1.toNatClampNeg * x2.toNatClampNeg) := by unfold F_L_lay; rw [if_pos h0]
    rw [f1, f2]
    refine ⟨⟨0, by decide, rfl⟩, 2 ^ (x1.toNatClampNeg * x2.toNatClampNeg) - 1, ?_, ?_⟩
    · have := Nat.pow_le_pow_right (show 0 < 2 by decide) hk
      omega
    · unfold fitI
      rw [shl25 _ (by omega)]
      exact nI_m1 (Nat.two_pow_pos _)
  · have f1 : (F_L_lay sc pa gu cl se R C K fi di br li he dn ea lo Ch ct ml n fB fS fN fM fCn fE fLE fC fG fI x1 x2).2.2.2.2.1 = he ∧ (F_L_lay sc pa gu cl se R C K fi di br li he dn ea lo Ch ct ml n fB fS fN fM fCn fE fLE fC fG fI x1 x2).2.2.2.2.2.2.2.2.2.2.2.2.2.2.2.2.2.2.2.2.2.1 = fi := by unfold F_L_lay; rw [if_neg h0]; exact ⟨rfl, rfl⟩
    rw [f1.1, f1.2]
    exact h
theorem hold4 {sc : Nat} {K : Nat} {fi : Int32} {he : Int32} {fB : Nat → Int32} {fN : Nat → Int32} {fM : Nat → Int32} {x1 : Int32} {x2 : Int32} (h : E_X4_hold K fi x1 = 0) : (F_X4_hold sc K fi he fB fN fM x1 x2).2.1 = (F_X0_move fB fN fM he x1.toNatClampNeg x2 (nI sc)).1 := by
  unfold E_X4_hold at h
  unfold F_X4_hold
  by_cases h1 : F_X3_hasKey K x1 = 0
  · rw [if_pos h1] at h; exact absurd h (by decide)
  · rw [if_neg h1] at h ⊢
    by_cases h2 : F_X4_holds fi x1 = 0
    · rw [if_pos h2] at h; exact absurd h (by decide)
    · rw [if_neg h2]
theorem hold_acc {K : Nat} {fi x1 : Int32} (hK : K ≤ 25) (h0 : 0 < K) : (¬ E_X4_hold K fi x1 = 0 ∧ ¬ F_X7_isNoKey K x1 = 0) ∨ (F_X7_isNoKey K x1 = 0 ∧ ∃ k, k < K ∧ x1 = nI k ∧ ((¬ E_X4_hold K fi x1 = 0 ∧ F_X7_has fi x1 = 0) ∨ (E_X4_hold K fi x1 = 0 ∧ ¬ F_X7_has fi x1 = 0))) := by
  unfold E_X4_hold
  rcases key_iff (x := x1) hK h0 with ⟨a1, a2⟩ | ⟨a1, a2, k, a3, a4⟩
  · rw [if_pos a1]; exact Or.inl ⟨by decide, a2⟩
  · rw [if_neg a1]
    refine Or.inr ⟨a2, k, a3, a4, ?_⟩
    by_cases h : F_X4_holds fi x1 = 0
    · rw [if_pos h]; exact Or.inl ⟨by decide, h⟩
    · rw [if_neg h]; exact Or.inr ⟨rfl, h⟩
/-- hold leaves what is held alike on both sides -/
theorem hold_eq {sc : Nat} {K : Nat} {fi : Int32} {he : Int32} {fB : Nat → Int32} {fN : Nat → Int32} {fM : Nat → Int32} {x1 : Int32} {x2 : Int32} {mfi : Int32} {mhe : Int32} {msc : Nat} {mK : Nat} {mV : Nat → KV} (hK : K ≤ 25) (h0 : 0 < mK) (hx2 : x2 = 0 ∨ x2 = 1) (h : he = mhe ∧ fi = mfi ∧ K = mK ∧ (∃ b, b < 2 ^ 25 ∧ he = nI b) ∧ ∃ b, b < 2 ^ 25 ∧ fi = nI b) : (F_L_hold sc K fi he fB fN fM x1 x2).1 = (F_X7_hold mfi mhe msc mK mV x1 x2).2.2.1 ∧ ∃ b, b < 2 ^ 25 ∧ (F_L_hold sc K fi he fB fN fM x1 x2).1 = nI b := by
  obtain ⟨e1, e2, e3, hb, hf⟩ := h
  subst e1
  subst e2
  subst e3
  rcases hold_acc (fi := fi) (x1 := x1) hK h0 with ⟨g0, g1⟩ | ⟨g1, k, g2, g3, ⟨g0, g4⟩ | ⟨g0, g4⟩⟩
  · have n1 : F_X7_isNoKey K x1 = 1 := (nk_01 K x1).resolve_left g1
    have hs : ¬ (F_X7_start (F_X7_isNoKey K x1) 1).1 = 0 := by rw [n1]; decide
    have f1 : (F_L_hold sc K fi he fB fN fM x1 x2).1 = he := by unfold F_L_hold; rw [if_neg g0]
    have f4 : (F_X7_hold fi he msc K mV x1 x2).2.2.1 = he := by unfold F_X7_hold; rw [if_neg hs]
    rw [f1, f4]
    exact ⟨rfl, hb⟩
  · have hs : (F_X7_start (F_X7_isNoKey K x1) 1).1 = 0 := by rw [g1]; decide
    have f1 : (F_L_hold sc K fi he fB fN fM x1 x2).1 = he := by unfold F_L_hold; rw [if_neg g0]
    have f4 : (F_X7_hold fi he msc K mV x1 x2).2.2.1 = he := by unfold F_X7_hold; rw [if_pos hs, if_pos g4]
    rw [f1, f4]
    exact ⟨rfl, hb⟩
  · have hs : (F_X7_start (F_X7_isNoKey K x1) 1).1 = 0 := by rw [g1]; decide
    have f1 : (F_L_hold sc K fi he fB fN fM x1 x2).1 = (F_X4_hold sc K fi he fB fN fM x1 x2).2.1 := by unfold F_L_hold; rw [if_pos g0]
    have f4 : (F_X7_hold fi he msc K mV x1 x2).2.2.1 = (if F_X7_has he x1 = x2 then he else F_X7_with he (nI x1.toNatClampNeg) x2) := by
      unfold F_X7_hold
      rw [if_pos hs, if_neg g4]
      by_cases h7 : F_X7_has he x1 = x2
      · rw [if_pos h7, if_pos h7]
      · rw [if_neg h7, if_neg h7]; rfl
    have l2 := hold4 (sc := sc) (he := he) (fB := fB) (fN := fN) (fM := fM) (x2 := x2) g0
    rw [f1, f4, l2]
    subst g3
    rw [nI_clamp (by omega), move_w (by omega) hx2]
    refine ⟨rfl, ?_⟩
    by_cases h7 : F_X7_has he (nI k) = x2
    · rw [if_pos h7]; exact hb
    · rw [if_neg h7]; exact with25 hb (by omega)
/-- key's answers -/
theorem key_cmp {sc : Nat} {R : Nat} {C : Nat} {K : Nat} {fi : Int32} {di : Int32} {br : Int32} {li : Int32} {he : Int32} {fB : Nat → Int32} {fS : Nat → Int32} {fN : Nat → Int32} {fM : Nat → Int32} {x1 : Int32} {x2 : Int32} {x3 : Int32} {x4 : Int32} {x5 : Int32} {on : Int64} {mfi : Int32} {mdi : Int32} {mhe : Int32} {msc : Nat} {mK : Nat} {mV : Nat → KV} (hK : K ≤ 25) (h0 : 0 < mK) (hx2 : x2 = 0 ∨ x2 = 1) (h : he = mhe ∧ fi = mfi ∧ K = mK ∧ (∃ b, b < 2 ^ 25 ∧ he = nI b) ∧ ∃ b, b < 2 ^ 25 ∧ fi = nI b) : (F_X7_key mfi mdi mhe msc mK mV x1 x2 x3 x4 x5).2.1 = (F_L_key sc R C K fi di br li he fB fS fN fM x1 x2 x3 x4 x5 on).1 ∧ ((F_L_key sc R C K fi di br li he fB fS fN fM x1 x2 x3 x4 x5 on).1 = 0 → lg_cmp (F_L_key sc R C K fi di br li he fB fS fN fM x1 x2 x3 x4 x5 on).2.2.2.2.2.2.2.2.2 ((F_X7_key mfi mdi mhe msc mK mV x1 x2 x3 x4 x5).1).toInt64 = 0) := by
  obtain ⟨e1, e2, e3, hb, hf⟩ := h
  subst e1
  subst e2
  subst e3
  rcases key_acc (x1 := x1) (x2 := x2) (x4 := x4) (x5 := x5) hK h0 with ⟨g0, g1⟩ | ⟨g1, k, g2, g3, ⟨g0, g4⟩ | ⟨g0, g4, g5⟩⟩
  · obtain ⟨m1, -, -⟩ := keym_no (fi := fi) (di := mdi) (he := he) (sc := msc) (V := mV) (x2 := x2) (x3 := x3) (x4 := x4) (x5 := x5) g1
    have f1 : (F_L_key sc R C K fi di br li he fB fS fN fM x1 x2 x3 x4 x5 on).1 = 1 := by unfold F_L_key; rw [if_neg (show ¬ E_X4_key K x1 x2 x4 x5 = 0 by rw [g0]; decide), if_pos g0]
    rw [f1, m1]
    exact ⟨rfl, fun h9 => absurd h9 (by decide)⟩
  · obtain ⟨m1, -, -⟩ := keym_ref (fi := fi) (di := mdi) (he := he) (sc := msc) (V := mV) (x2 := x2) (x3 := x3) (x4 := x4) (x5 := x5) g1 g4
    have f1 : (F_L_key sc R C K fi di br li he fB fS fN fM x1 x2 x3 x4 x5 on).1 = 2 := by unfold F_L_key; rw [if_neg (show ¬ E_X4_key K x1 x2 x4 x5 = 0 by rw [g0]; decide), if_neg (show ¬ E_X4_key K x1 x2 x4 x5 = 2 by rw [g0]; decide)]
    rw [f1, m1, g1]
    exact ⟨by decide, fun h9 => absurd h9 (by decide)⟩
  · obtain ⟨m0, m1, -, -⟩ := keym_acc (fi := fi) (di := mdi) (he := he) (sc := msc) (V := mV) (x2 := x2) (x3 := x3) (x4 := x4) (x5 := x5) g1 g4 g5
    obtain ⟨l0, -, -⟩ := key4 (sc := sc) (R := R) (C := C) (fi := fi) (di := di) (br := br) (li := li) (he := he) (fB := fB) (fS := fS) (fN := fN) (fM := fM) (x3 := x3) g0
    have f1 : (F_L_key sc R C K fi di br li he fB fS fN fM x1 x2 x3 x4 x5 on).1 = 0 ∧ (F_L_key sc R C K fi di br li he fB fS fN fM x1 x2 x3 x4 x5 on).2.2.2.2.2.2.2.2.2 = ((F_X4_key sc R C K fi di br li he fB fS fN fM x1 x2 x3 x4 x5).1).toInt64 := by unfold F_L_key; rw [if_pos g0]; exact ⟨rfl, rfl⟩
    rw [f1.1, f1.2, m0, m1, l0, g1]
    refine ⟨by decide, fun _ => ?_⟩
    subst g3
    obtain ⟨b, b1, b2⟩ := with25 (x2 := x2) hf (show k < 25 by omega)
    rw [b2, bit_many (by omega)]
    exact lgc_self _
