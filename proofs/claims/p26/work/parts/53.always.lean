/-- the sum of the first n -/
def sm (e : Nat → Nat) : Nat → Nat
  | 0 => 0
  | n + 1 => sm e n + e n
theorem sm_le {e : Nat → Nat} {b : Nat} : ∀ n, (∀ k, k < n → e k ≤ b) → sm e n ≤ n * b := by
  intro n
  induction n with
  | zero => intro _; exact Nat.zero_le _
  | succ n ih =>
    intro h
    have h1 := ih (fun k hk => h k (by omega))
    have h2 := h n (by omega)
    rw [sm, Nat.add_mul, Nat.one_mul]; omega
/-- what stands at all times -/
def IA (sc : Nat) (cl : Int32) (R C : Nat) (fi br li he dn ea : Int32) (n : Nat) (fM fE fLE fG : Nat → Int32) : Prop :=
  Live R C fi br li ∧ (∀ j, bt he j = true → bt fi j = true) ∧ (∀ j, bt cl j = true → j < R * C) ∧ n ≤ 60 ∧ sc ≤ 2000 ∧
  (∀ k, k < R * C → (fG k = -1 ↔ bt dn k = false)) ∧
  (∃ e : Nat → Nat, (∀ k, k < R * C → fE k = nI (e k) ∧ e k ≤ sc ∧ e k % 2 = if bt dn k = true then 1 else 0) ∧ ea = nI (sm e (R * C))) ∧
  (∀ k, k < R * C → ∃ a, a ≤ sc ∧ fLE k = nI a) ∧
  (∀ k, k < R * C → fM k = -1 ∨ ∃ a, a ≤ sc ∧ fM k = nI a)
section
variable {sc : Nat} {cl : Int32} {R C : Nat} {fi br li he dn ea : Int32} {n : Nat} {fM fE fLE fG : Nat → Int32}
theorem IA.live (h : IA sc cl R C fi br li he dn ea n fM fE fLE fG) : Live R C fi br li := h.1
theorem IA.held (h : IA sc cl R C fi br li he dn ea n fM fE fLE fG) : ∀ j, bt he j = true → bt fi j = true := h.2.1
theorem IA.clb (h : IA sc cl R C fi br li he dn ea n fM fE fLE fG) : ∀ j, bt cl j = true → j < R * C := h.2.2.1
theorem IA.n60 (h : IA sc cl R C fi br li he dn ea n fM fE fLE fG) : n ≤ 60 := h.2.2.2.1
theorem IA.sc2 (h : IA sc cl R C fi br li he dn ea n fM fE fLE fG) : sc ≤ 2000 := h.2.2.2.2.1
theorem IA.got (h : IA sc cl R C fi br li he dn ea n fM fE fLE fG) : ∀ k, k < R * C → (fG k = -1 ↔ bt dn k = false) := h.2.2.2.2.2.1
theorem IA.ev (h : IA sc cl R C fi br li he dn ea n fM fE fLE fG) : ∃ e : Nat → Nat, (∀ k, k < R * C → fE k = nI (e k) ∧ e k ≤ sc ∧ e k % 2 = if bt dn k = true then 1 else 0) ∧ ea = nI (sm e (R * C)) := h.2.2.2.2.2.2.1
theorem IA.le (h : IA sc cl R C fi br li he dn ea n fM fE fLE fG) : ∀ k, k < R * C → ∃ a, a ≤ sc ∧ fLE k = nI a := h.2.2.2.2.2.2.2.1
theorem IA.mv (h : IA sc cl R C fi br li he dn ea n fM fE fLE fG) : ∀ k, k < R * C → fM k = -1 ∨ ∃ a, a ≤ sc ∧ fM k = nI a := h.2.2.2.2.2.2.2.2
end
/-- what stands after a scan -/
def AS (pa cl se : Int32) (R C : Nat) (fi di li : Int32) (fCn : Nat → Int32) : Prop :=
  (∀ k, k < R * C → fCn k ≤ pa) ∧ (∀ j, bt cl j = true → bt fi j = true) ∧ se = F_X3_seenIf R C fi di li cl
section
variable {pa cl se : Int32} {R C : Nat} {fi di li : Int32} {fCn : Nat → Int32}
theorem AS.cn (h : AS pa cl se R C fi di li fCn) : ∀ k, k < R * C → fCn k ≤ pa := h.1
theorem AS.clf (h : AS pa cl se R C fi di li fCn) : ∀ j, bt cl j = true → bt fi j = true := h.2.1
theorem AS.see (h : AS pa cl se R C fi di li fCn) : se = F_X3_seenIf R C fi di li cl := h.2.2
end
theorem not_sub {x y : Int32} (h : ∀ j, bt x j = true → bt y j = true) : x &&& (y ^^^ (-1)) = 0 := by
  rw [bt_zero]
  intro j hj
  rw [bt_and, bt_not _ hj]
  cases hb : bt x j with
  | false => rfl
  | true => rw [h j hb]; rfl
theorem lag_le {sc : Nat} {fM fLE : Nat → Int32} {k : Nat} (hs : sc ≤ 2000) (h1 : ∃ a, a ≤ sc ∧ fLE k = nI a) (h2 : fM k = -1 ∨ ∃ a, a ≤ sc ∧ fM k = nI a) : ¬ nI sc < F_X4_lagOf fM fLE k := by
  unfold F_X4_lagOf
  have hz : ¬ nI sc < 0 := by rw [Int32.lt_iff_toInt_lt, nI_int (by omega)]; show ¬ ((sc : Int) < 0); omega
  by_cases h3 : fM k = -1
  · rw [if_pos h3]; exact hz
  · rw [if_neg h3]
    obtain ⟨a, a1, a2⟩ := h1
    rcases h2 with h2 | ⟨b, b1, b2⟩
    · exact absurd h2 h3
    · rw [a2, b2]
      by_cases h4 : nI a ≤ nI b
      · rw [if_pos h4]; exact hz
      · rw [if_neg h4]
        rw [Int32.lt_iff_toInt_lt, pk_sub_toInt (by omega) (by omega), nI_int (by omega)]
        omega
theorem set_1 {cl se fi he dn : Int32} : F_X4_set cl se fi he dn 1 = se := by unfold F_X4_set; rw [if_neg (by decide), if_pos (by decide)]; rfl
theorem set_2 {cl se fi he dn : Int32} : F_X4_set cl se fi he dn 2 = se &&& (cl ^^^ (-1)) := by unfold F_X4_set; rw [if_neg (by decide), if_pos (by decide)]; rfl
theorem set_3 {cl se fi he dn : Int32} : F_X4_set cl se fi he dn 3 = dn := by unfold F_X4_set; rw [if_neg (by decide), if_pos (by decide)]; rfl
theorem set_4 {cl se fi he dn : Int32} : F_X4_set cl se fi he dn 4 = he := by unfold F_X4_set; rw [if_neg (by decide), if_pos (by decide)]; rfl
theorem set_5 {cl se fi he dn : Int32} : F_X4_set cl se fi he dn 5 = fi := by unfold F_X4_set; rw [if_neg (by decide), if_pos (by decide)]; rfl
theorem sound_1 {sc : Nat} {cl : Int32} {R : Nat} {C : Nat} {fi : Int32} {di : Int32} {br : Int32} {li : Int32} {he : Int32} {dn : Int32} {ea : Int32} {n : Nat} {fM : Nat → Int32} {fE : Nat → Int32} {fLE : Nat → Int32} {fG : Nat → Int32} (hR : R ≤ 5) (hC : C ≤ 5) (hI : IA sc cl R C fi br li he dn ea n fM fE fLE fG) : F_X4_isSound R C (R * C) fi di li he n = 1 := by
  unfold F_X4_isSound
  rw [if_pos (not_sub hI.held), alone_1 hR hC hI.live, least_1 hR hC hI.live, if_neg, if_neg (by decide), if_neg (by decide)]
  rw [Int32.lt_iff_toInt_lt, nI_int (by have := hI.n60; omega)]
  have := hI.n60
  show ¬ ((60 : Int) < n)
  omega
theorem now_0 {sc : Nat} {pa : Int32} {gu : Int32} {rf : Int32} {R : Nat} {C : Nat} {fi : Int32} {di : Int32} {br : Int32} {li : Int32} {lu : Int32} {ea : Int32} {lo : Int32} {Ch : Nat} {ct : Int32} {fG : Nat → Int32} : (T_now sc pa gu rf R C (R * C) fi di br li lu ea lo Ch ct fG) 0 = nI sc := by
  show F_X4_board sc pa gu rf R C (R * C) fi di br li lu ea lo Ch ct fG 2 = _
  unfold F_X4_board; rw [if_neg (by decide), if_pos (by decide)]; rfl
theorem now_1 {sc : Nat} {pa : Int32} {gu : Int32} {rf : Int32} {R : Nat} {C : Nat} {fi : Int32} {di : Int32} {br : Int32} {li : Int32} {lu : Int32} {ea : Int32} {lo : Int32} {Ch : Nat} {ct : Int32} {fG : Nat → Int32} : (T_now sc pa gu rf R C (R * C) fi di br li lu ea lo Ch ct fG) 1 = ea := by
  show F_X4_board sc pa gu rf R C (R * C) fi di br li lu ea lo Ch ct fG 3 = _
  unfold F_X4_board; rw [if_neg (by decide), if_pos (by decide)]; rfl
theorem now_2 {sc : Nat} {pa : Int32} {gu : Int32} {rf : Int32} {R : Nat} {C : Nat} {fi : Int32} {di : Int32} {br : Int32} {li : Int32} {lu : Int32} {ea : Int32} {lo : Int32} {Ch : Nat} {ct : Int32} {fG : Nat → Int32} : (T_now sc pa gu rf R C (R * C) fi di br li lu ea lo Ch ct fG) 2 = ct := by
  show F_X4_board sc pa gu rf R C (R * C) fi di br li lu ea lo Ch ct fG 12 = _
  unfold F_X4_board; rw [if_neg (by decide), if_pos (by decide)]; rfl
theorem now_3 {sc : Nat} {pa : Int32} {gu : Int32} {rf : Int32} {R : Nat} {C : Nat} {fi : Int32} {di : Int32} {br : Int32} {li : Int32} {lu : Int32} {ea : Int32} {lo : Int32} {Ch : Nat} {ct : Int32} {fG : Nat → Int32} : (T_now sc pa gu rf R C (R * C) fi di br li lu ea lo Ch ct fG) 3 = lo := by
  show F_X4_board sc pa gu rf R C (R * C) fi di br li lu ea lo Ch ct fG 13 = _
  unfold F_X4_board; rw [if_neg (by decide), if_pos (by decide)]; rfl
theorem now_4 {sc : Nat} {pa : Int32} {gu : Int32} {rf : Int32} {R : Nat} {C : Nat} {fi : Int32} {di : Int32} {br : Int32} {li : Int32} {lu : Int32} {ea : Int32} {lo : Int32} {Ch : Nat} {ct : Int32} {fG : Nat → Int32} : (T_now sc pa gu rf R C (R * C) fi di br li lu ea lo Ch ct fG) 4 = rf := by
  show F_X4_board sc pa gu rf R C (R * C) fi di br li lu ea lo Ch ct fG 14 = _
  unfold F_X4_board; rw [if_neg (by decide), if_pos (by decide)]; rfl
set_option maxHeartbeats 2000000 in
theorem alw92 {sc : Nat} {pa : Int32} {gu : Int32} {cl : Int32} {se : Int32} {rf : Int32} {R : Nat} {C : Nat} {fi : Int32} {di : Int32} {br : Int32} {li : Int32} {he : Int32} {lu : Int32} {dn : Int32} {ea : Int32} {lo : Int32} {Ch : Nat} {ct : Int32} {n : Nat} {fB : Nat → Int32} {fS : Nat → Int32} {fN : Nat → Int32} {fM : Nat → Int32} {fCn : Nat → Int32} {fE : Nat → Int32} {fLE : Nat → Int32} {fG : Nat → Int32} {x3 : Int32} {a0 : Nat → Int32} {e : Nat → Nat} (hR : R ≤ 5) (hC : C ≤ 5) (hI : IA sc cl R C fi br li he dn ea n fM fE fLE fG) (hA : x3 = 0 ∨ AS pa cl se R C fi di li fCn) (hev : (∀ k, k < R * C → fE k = nI (e k) ∧ e k ≤ sc ∧ e k % 2 = if bt dn k = true then 1 else 0) ∧ ea = nI (sm e (R * C))) : ∀ (q i : Nat) (a : Int32), i + q = R * C → a = nI (sm e i) → L_L_isAlways_92 sc pa gu cl se rf R C (R * C) fi di br li he lu dn ea lo Ch ct n fB fS fN fM fCn fE fLE fG x3 a0 q i a = (1, a0) := by
  have hK : R * C ≤ 25 := Nat.mul_le_mul hR hC
  intro q
  induction q with
  | zero =>
    intro i a hi ha
    have hi2 : i = R * C := by omega
    have hlen : F_J0_length_8abf5 n ≤ 60 := by
      unfold F_J0_length_8abf5
      have := hI.n60
      rw [Int32.le_iff_toInt_le, nI_int (by omega)]
      show (n : Int) ≤ 60
      omega
    rw [L_L_isAlways_92, now_1, if_pos (by rw [ha, hi2, hev.2]), set_2, set_1, if_pos rfl, set_4, set_5, if_pos (not_sub hI.held), if_pos hlen, sound_1 hR hC hI]
    by_cases hx : x3 = 0
    · rw [if_pos hx]
    · rw [if_neg hx]
      have hS : AS pa cl se R C fi di li fCn := hA.resolve_left hx
      have hse : ∀ j, bt se j = true → bt fi j = true := fun j hj => by
        rw [hS.see] at hj
        exact ((seenIf_bt hR hC (bt_lt hj)).mp hj).1
      rw [if_pos (not_sub (fun j hj => by
        rw [bt_or, Bool.or_eq_true] at hj
        rcases hj with g | g
        · exact hS.clf j g
        · exact hse j g)), seen_is ((isSet_bits hK _).mpr hI.clb), if_pos hS.see.symm, board_8]
      rcases clear_01 (R := R) (C := C) (fi := fi) (di := di) (li := li) hK with h | h
      · rw [h, if_neg (by decide)]
      · rw [h, if_pos (by decide), if_pos]
        refine bt_ext (fun j hj => ?_)
        rw [bt_and]
        cases hb : bt se j with
        | false => rfl
        | true =>
          cases hc : bt cl j with
          | true => rfl
          | false =>
            rw [hS.see] at hb
            exact absurd (exact_iff.mpr ⟨j, hj, hb, hc⟩) (clear_exact hR hC hK hI.live.1 hI.live.2.1 h cl)
  | succ q ih =>
    intro i a hi ha
    have hk : i < R * C := by omega
    obtain ⟨e1, e2, e3⟩ := hev.1 i hk
    have hsc := hI.sc2
    have o10 : F_X4_of (R * C) fi di he dn fB fS fN fM fCn fE fLE fG (nI i) 10 = nI (e i) := by rw [show (10 : Int32) = nI 10 from rfl, of_is hK hk (by decide), ← e1]; rfl
    have o6 : F_X4_of (R * C) fi di he dn fB fS fN fM fCn fE fLE fG (nI i) 6 = nI (if bt dn i = true then 1 else 0) := by
      rw [show (6 : Int32) = nI 6 from rfl, of_is hK hk (by decide)]
      show F_X4_oneIf (F_X4_holds dn (nI i)) = _
      cases hb : bt dn i with
      | false => rw [(holds_iff (by omega)).mpr hb]; rfl
      | true =>
        unfold F_X4_oneIf
        rw [if_neg ((holds_1 (by omega)).mpr hb)]; rfl
    have o8 : F_X4_of (R * C) fi di he dn fB fS fN fM fCn fE fLE fG (nI i) 8 = fG i := by rw [show (8 : Int32) = nI 8 from rfl, of_is hK hk (by decide)]; rfl
    have o9 : F_X4_of (R * C) fi di he dn fB fS fN fM fCn fE fLE fG (nI i) 9 = F_X4_lagOf fM fLE i := by rw [show (9 : Int32) = nI 9 from rfl, of_is hK hk (by decide)]; rfl
    have o7 : F_X4_of (R * C) fi di he dn fB fS fN fM fCn fE fLE fG (nI i) 7 = fCn i := by rw [show (7 : Int32) = nI 7 from rfl, of_is hK hk (by decide)]; rfl
    have hb5 : F_X4_board sc pa gu rf R C (R * C) fi di br li lu ea lo Ch ct fG 5 = pa := by unfold F_X4_board; rw [if_neg (by decide), if_pos (by decide)]; rfl
    have hlag := lag_le hsc (hI.le i hk) (hI.mv i hk)
    have hgot := hI.got i hk
    have hn := ih (i + 1) (a + nI (e i)) (by omega) (by rw [ha]; exact (Int32.ofNat_add _ _).symm)
    have hpar : nI (e i) - nI (e i) / 2 * 2 = nI (if bt dn i = true then 1 else 0) := by
      rw [show (2 : Int32) = nI 2 from rfl, pk_rem (by omega) (by decide) (by decide), e3]
    rw [L_L_isAlways_92, o10, o6, o8, o9, o7, hb5, now_0, set_3, if_pos hpar, if_pos (one_bit (by omega)), if_neg hlag]
    have hcn : ¬ x3 = 0 → fCn i ≤ pa := fun hx => (hA.resolve_left hx).cn i hk
    cases hb : bt dn i with
    | false =>
      rw [if_pos (hgot.mpr hb), if_pos (show nI (if false = true then 1 else 0) = 0 by decide)]
      by_cases hx : x3 = 0
      · rw [if_pos hx]; exact hn
      · rw [if_neg hx, if_pos (hcn hx)]; exact hn
    | true =>
      rw [if_neg (fun g => by rw [hgot.mp g] at hb; cases hb), if_neg (show ¬ nI (if true = true then 1 else 0) = 0 by decide)]
      by_cases hx : x3 = 0
      · rw [if_pos hx]; exact hn
      · rw [if_neg hx, if_pos (hcn hx)]; exact hn
