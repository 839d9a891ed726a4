/-- the bit j of a number -/
def bt (x : Int32) (j : Nat) : Bool := x.toBitVec.getLsbD j
theorem bt_and (x y : Int32) (j : Nat) : bt (x &&& y) j = (bt x j && bt y j) := by
  unfold bt; rw [Int32.toBitVec_and, BitVec.getLsbD_and]
theorem bt_or (x y : Int32) (j : Nat) : bt (x ||| y) j = (bt x j || bt y j) := by
  unfold bt; rw [Int32.toBitVec_or, BitVec.getLsbD_or]
theorem bt_xor (x y : Int32) (j : Nat) : bt (x ^^^ y) j = (bt x j ^^ bt y j) := by
  unfold bt; rw [Int32.toBitVec_xor, BitVec.getLsbD_xor]
theorem bt_m1 {j : Nat} (h : j < 32) : bt (-1) j = true := by
  unfold bt
  rw [show (-1 : Int32).toBitVec = BitVec.allOnes 32 from rfl, BitVec.getLsbD_allOnes]
  simp [h]
theorem bt_not (x : Int32) {j : Nat} (h : j < 32) : bt (x ^^^ (-1)) j = !bt x j := by
  rw [bt_xor, bt_m1 h, Bool.xor_true]
theorem bt_big (x : Int32) {j : Nat} (h : 32 ≤ j) : bt x j = false := BitVec.getLsbD_of_ge _ _ h
theorem bt_ext {x y : Int32} (h : ∀ j, j < 32 → bt x j = bt y j) : x = y := by
  apply Int32.toBitVec_inj.mp
  apply BitVec.eq_of_getLsbD_eq
  intro i hi
  exact h i hi
theorem bt_0 (j : Nat) : bt 0 j = false := by
  unfold bt
  rw [show (0 : Int32).toBitVec = 0#32 from rfl]
  simp
theorem bt_zero {x : Int32} : x = 0 ↔ ∀ j, j < 32 → bt x j = false := by
  constructor
  · intro h j _; rw [h]; exact bt_0 j
  · intro h; exact bt_ext (fun j hj => by rw [h j hj, bt_0])
theorem sm31 : ∀ k : Nat, k < 32 → ((nI k &&& 31).toBitVec.smod 32).toNat = k := by decide +kernel
theorem bt_shl (x : Int32) {k : Nat} (hk : k < 32) (j : Nat) : bt (x <<< (nI k &&& 31)) j = (decide (j < 32) && (decide (k ≤ j) && bt x (j - k))) := by
  unfold bt
  rw [Int32.toBitVec_shiftLeft]
  show ((x.toBitVec) <<< ((nI k &&& 31).toBitVec.smod 32).toNat).getLsbD j = _
  rw [sm31 k hk, BitVec.getLsbD_shiftLeft]
  by_cases h : k ≤ j
  · simp [h, Nat.not_lt.mpr h]
  · simp [h, Nat.lt_of_not_le h]
theorem bt_1 (j : Nat) : bt 1 j = decide (j = 0) := by
  unfold bt
  rw [show (1 : Int32).toBitVec = 1#32 from rfl]
  simp [BitVec.getLsbD_one]
theorem bt_bit {k j : Nat} (hk : k < 32) (hj : j < 32) : bt (1 <<< (nI k &&& 31)) j = decide (j = k) := by
  rw [bt_shl _ hk, bt_1]
  by_cases h : j = k
  · subst h; simp [hj]
  · by_cases h2 : k ≤ j
    · have h3 : ¬ j - k = 0 := by omega
      simp [h, h3]
    · simp [h, h2]
theorem bt_shr (x : Int32) {k j : Nat} (hk : k < 32) (hj : j + k < 32) : bt (x >>> (nI k &&& 31)) j = bt x (j + k) := by
  unfold bt
  rw [Int32.toBitVec_shiftRight]
  show ((x.toBitVec).sshiftRight ((nI k &&& 31).toBitVec.smod 32).toNat).getLsbD j = _
  rw [sm31 k hk, BitVec.getLsbD_sshiftRight]
  have h1 : ¬ 32 ≤ j := by omega
  have h2 : k + j < 32 := by omega
  simp [h1, h2, Nat.add_comm]
theorem holds_iff {x : Int32} {k : Nat} (hk : k < 32) : F_X4_holds x (nI k) = 0 ↔ bt x k = false := by
  unfold F_X4_holds
  have h : ((x >>> (nI k &&& 31)) &&& 1) = 1 ↔ bt x k = true := by
    constructor
    · intro h1
      have h2 : bt ((x >>> (nI k &&& 31)) &&& 1) 0 = bt 1 0 := by rw [h1]
      rw [bt_and, bt_shr x hk (by omega), bt_1] at h2
      simpa using h2
    · intro h1
      refine bt_ext (fun j hj => ?_)
      rw [bt_and, bt_1]
      by_cases h2 : j = 0
      · subst h2; rw [bt_shr x hk (by omega)]; simp [h1]
      · simp [h2]
  by_cases h3 : ((x >>> (nI k &&& 31)) &&& 1) = 1
  · rw [if_pos h3]
    constructor
    · intro h4; exact absurd h4 (by decide)
    · intro h4; rw [h.mp h3] at h4; cases h4
  · rw [if_neg h3]
    constructor
    · intro _
      cases h5 : bt x k with
      | false => rfl
      | true => exact absurd (h.mpr h5) h3
    · intro _; rfl
