/-- the contacts' numbers -/
def BO (K : Nat) (V : Nat → KV) : Prop := ∀ k, k < K → (∃ b : Nat, b ≤ 5 ∧ kbo (V k) = nI b) ∧ ∃ l : Nat, l ≤ 5 ∧ kle (V k) = nI l
/-- the reference's values between two calls -/
def MI (D : va_G) (R C K : Nat) (pa gu : Int32) (sc kn : Nat) (kg : Nat → Option Nat) (aK : Nat → Nat) (hd hcp nh : Nat) (hg : Nat → Option Nat) (aH : Nat → Nat) (hf : Nat → Nat → Int32) (n cap : Nat) (fY : Nat → Int32) (V : Nat → KV) (Z : Nat → KZ) : Prop :=
  (0 < R ∧ R ≤ 5 ∧ 0 < C ∧ C ≤ 5 ∧ R * C = K ∧ K ≤ 25) ∧ (gu = 0 ∨ gu = 1) ∧ ¬ pa ≤ 0 ∧ sc ≤ 2000 ∧
  (K ≤ kn ∧ kn ≤ 40 ∧ 10 ≤ kn ∧ ∀ i, i < K → kg i = some (aK i)) ∧
  (nh ≤ 6 ∧ nh ≤ hcp ∧ hcp ≤ 40 ∧ (hcp = 0 → hd = D.2 200 0) ∧ (hcp ≠ 0 → 10 ≤ hcp) ∧ (∀ i, i < nh → hg i = some (aH i)) ∧ ∀ i, i < nh → ∃ c : Nat, c ≤ 31 ∧ hf i 1 = nI c) ∧
  okB n cap fY ∧ KI D K sc 0 V Z ∧ BO K V
theorem KI_EV {D : va_G} {K sc : Nat} {V : Nat → KV} {Z : Nat → KZ} (h : KI D K sc 0 V Z) (hs : sc ≤ 2000) : ∀ i, i < K → EVok D (V i) (Z i) ∧ kne (V i) ≤ 5000 := fun i hi => by
  obtain ⟨h1, -, h3⟩ := h i hi
  rw [if_neg (Nat.not_lt_zero _)] at h3
  exact ⟨h1, by omega⟩
theorem KI_ne {D : va_G} {K sc : Nat} {V : Nat → KV} {Z : Nat → KZ} (h : KI D K sc 0 V Z) (hs : sc ≤ 2000) : ∀ i, i < K → kne (V i) ≤ 2000 := fun i hi => by
  obtain ⟨-, -, h3⟩ := h i hi
  rw [if_neg (Nat.not_lt_zero _)] at h3
  omega
theorem BO_LB {fi : Int32} {K : Nat} {V : Nat → KV} (h : BO K V) : LB fi K V 5 := fun k hk => Or.inr (h k hk).2
/-- a key changed, its events as they were -/
theorem KI_put {D : va_G} {K sc k : Nat} {V : Nat → KV} {Z : Nat → KZ} {v : KV} (h : KI D K sc 0 V Z) (h1 : kne v = kne (V k)) (h2 : kcp v = kcp (V k)) (h3 : kev v = kev (V k)) (h4 : k < K → ∀ j, j < 3 → ∃ c : Nat, c ≤ 31 ∧ kcc v j = nI c) : KI D K sc 0 (va_up V k v) Z := fun i hi => by
  obtain ⟨f1, f2, f3⟩ := h i hi
  by_cases e : i = k
  · subst e
    rw [va_up_self]
    refine ⟨?_, h4 hi, by rw [h1]; exact f3⟩
    unfold EVok at f1 ⊢
    rw [h1, h2, h3]
    exact f1
  · rw [va_up_ne _ _ e]
    exact ⟨f1, f2, f3⟩
theorem BO_put {K k : Nat} {V : Nat → KV} {v : KV} (h : BO K V) (h1 : k < K → ∃ b : Nat, b ≤ 5 ∧ kbo v = nI b) (h2 : k < K → ∃ l : Nat, l ≤ 5 ∧ kle v = nI l) : BO K (va_up V k v) := fun i hi => by
  by_cases e : i = k
  · subst e
    rw [va_up_self]
    exact ⟨h1 hi, h2 hi⟩
  · rw [va_up_ne _ _ e]
    exact h i hi
theorem KI_cc {D : va_G} {K sc k : Nat} {V : Nat → KV} {Z : Nat → KZ} (h : KI D K sc 0 V Z) : k < K → ∀ j, j < 3 → ∃ c : Nat, c ≤ 31 ∧ kcc (V k) j = nI c := fun hk => (h k hk).2.1
/-- what a key's changed values keep -/
def KB (D : va_G) (K sc : Nat) (V V' : Nat → KV) (Z : Nat → KZ) : Prop := KI D K sc 0 V' Z ∧ BO K V' ∧ (∀ k, kne (V' k) = kne (V k)) ∧ ∀ k, kcp (V' k) = kcp (V k)
theorem KB_rf {D : va_G} {K sc : Nat} {V : Nat → KV} {Z : Nat → KZ} (h : KI D K sc 0 V Z) (hb : BO K V) : KB D K sc V V Z := ⟨h, hb, fun _ => rfl, fun _ => rfl⟩
theorem KB_put {D : va_G} {K sc k : Nat} {V V' : Nat → KV} {Z : Nat → KZ} {v : KV} (h : KB D K sc V V' Z) (h1 : kne v = kne (V' k)) (h2 : kcp v = kcp (V' k)) (h3 : kev v = kev (V' k)) (h4 : k < K → ∀ j, j < 3 → ∃ c : Nat, c ≤ 31 ∧ kcc v j = nI c) (h5 : k < K → ∃ b : Nat, b ≤ 5 ∧ kbo v = nI b) (h6 : k < K → ∃ l : Nat, l ≤ 5 ∧ kle v = nI l) : KB D K sc V (va_up V' k v) Z := by
  refine ⟨KI_put h.1 h1 h2 h3 h4, BO_put h.2.1 h5 h6, fun i => ?_, fun i => ?_⟩
  · by_cases e : i = k
    · subst e; rw [va_up_self, h1]; exact h.2.2.1 i
    · rw [va_up_ne _ _ e]; exact h.2.2.1 i
  · by_cases e : i = k
    · subst e; rw [va_up_self, h2]; exact h.2.2.2 i
    · rw [va_up_ne _ _ e]; exact h.2.2.2 i
theorem KB_touch {D : va_G} {K sc k sc2 : Nat} {he x2 : Int32} {V V' : Nat → KV} {Z : Nat → KZ} (h : KB D K sc V V' Z) : KB D K sc V (F_X7_touch he sc2 V' k x2).2 Z :=
  KB_put h rfl rfl rfl (KI_cc h.1) (fun hk => (h.2.1 k hk).1) (fun hk => (h.2.1 k hk).1)
theorem key_KB {D : va_G} {fi di he : Int32} {sc sc2 K : Nat} {V : Nat → KV} {Z : Nat → KZ} {x1 x2 x3 x4 x5 : Int32} (h : KI D K sc 0 V Z) (hb : BO K V) : KB D K sc V (F_X7_key fi di he sc2 K V x1 x2 x3 x4 x5).2.2.2.2.2 Z := by
  unfold F_X7_key
  by_cases h1 : (F_X7_start (F_X7_isNoKey K x1) 1).1 = 0
  · rw [if_pos h1]
    by_cases h2 : F_X7_isIn x4 0 5 = 0
    · rw [if_pos h2]; exact KB_rf h hb
    · rw [if_neg h2]
      by_cases h3 : F_X7_isIn x5 0 2 = 0
      · rw [if_pos h3]; exact KB_rf h hb
      · rw [if_neg h3]
        obtain ⟨b1, b2⟩ := in_b (b := 5) (by omega) rfl h2
        have hp : KB D K sc V (va_up V x1.toNatClampNeg (mkV x4 x5 (kle (V x1.toNatClampNeg)) (kco (V x1.toNatClampNeg)) (kto (V x1.toNatClampNeg)) (kgo (V x1.toNatClampNeg)) (kcc (V x1.toNatClampNeg)) (kne (V x1.toNatClampNeg)) (kcp (V x1.toNatClampNeg)) (kev (V x1.toNatClampNeg)))) Z :=
          KB_put (KB_rf h hb) rfl rfl rfl (KI_cc h) (fun _ => ⟨x4.toNatClampNeg, b1, b2⟩) (fun hk => (hb _ hk).2)
        by_cases h4 : x2 = 0
        · rw [if_pos h4]
          by_cases h5 : F_X7_has he x1 = 0
          · rw [if_pos h5]; exact hp
          · rw [if_neg h5]; exact KB_touch (he := he) (x2 := 0) hp
        · rw [if_neg h4]; exact hp
  · rw [if_neg h1]; exact KB_rf h hb
theorem hold_KB {D : va_G} {fi he : Int32} {sc sc2 K : Nat} {V : Nat → KV} {Z : Nat → KZ} {x1 x2 : Int32} (h : KI D K sc 0 V Z) (hb : BO K V) : KB D K sc V (F_X7_hold fi he sc2 K V x1 x2).2.2.2 Z := by
  unfold F_X7_hold
  (repeat' split) <;> first | exact KB_rf h hb | exact KB_touch (KB_rf h hb)
theorem code_KB {D : va_G} {sc K : Nat} {V : Nat → KV} {Z : Nat → KZ} {x1 x2 x3 : Int32} (h : KI D K sc 0 V Z) (hb : BO K V) : KB D K sc V (F_X7_code K V x1 x2 x3).2.2 Z := by
  unfold F_X7_code
  by_cases h1 : (F_X7_start (F_X7_isNoKey K x2) 1).1 = 0
  · rw [if_pos h1]
    by_cases h2 : F_X7_isIn x1 0 2 = 0
    · rw [if_pos h2]; exact KB_rf h hb
    · rw [if_neg h2]
      by_cases h3 : F_X7_isIn x3 0 31 = 0
      · rw [if_pos h3]; exact KB_rf h hb
      · rw [if_neg h3]
        obtain ⟨b1, b2⟩ := in_b (b := 31) (by omega) rfl h3
        refine KB_put (KB_rf h hb) rfl rfl rfl (fun hk j hj => ?_) (fun hk => (hb _ hk).1) (fun hk => (hb _ hk).2)
        show ∃ c : Nat, c ≤ 31 ∧ upd (kcc (V x2.toNatClampNeg)) x1.toNatClampNeg x3 j = nI c
        rw [upd]
        by_cases e : j = x1.toNatClampNeg
        · rw [if_pos e]; exact ⟨x3.toNatClampNeg, b1, b2⟩
        · rw [if_neg e]; exact KI_cc h hk j hj
  · rw [if_neg h1]; exact KB_rf h hb
/-- the room that the events may still take -/
def wP (v : KV) : Nat := 8 * kne v + 40 - 4 * kcp v
theorem pot_id {K : Nat} {V : Nat → KV} (h : ∀ k, k < K → kcp (V k) ≤ 2 * kne (V k) + 10) : sumK K V wS + sumK K V wP = 21 * sumK K V kne + 40 * K := by
  induction K with
  | zero => rfl
  | succ K ih =>
    have h1 := ih (fun k hk => h k (by omega))
    have h2 := h K (by omega)
    have h3 : wS (V K) + wP (V K) = 21 * kne (V K) + 40 := by
      show 13 * kne (V K) + 4 * kcp (V K) + (8 * kne (V K) + 40 - 4 * kcp (V K)) = _
      omega
    unfold sumK
    omega
theorem KI_cp {D : va_G} {K sc i : Nat} {V : Nat → KV} {Z : Nat → KZ} (h : KI D K sc i V Z) : ∀ k, k < K → kcp (V k) ≤ 2 * kne (V k) + 10 := fun k hk => (h k hk).1.2.2.2.1
theorem wC_5 {K : Nat} {V : Nat → KV} : sumK K V wC = 5 * sumK K V kne := by
  induction K with
  | zero => rfl
  | succ K ih =>
    unfold sumK
    have h3 : wC (V K) = 5 * kne (V K) := rfl
    omega
theorem KB_wP {D : va_G} {K sc : Nat} {V V' : Nat → KV} {Z : Nat → KZ} (h : KB D K sc V V' Z) : sumK K V' wP = sumK K V wP := sumK_congr (fun i _ => by
  unfold wP
  rw [h.2.2.1 i, h.2.2.2 i])
theorem new_wP {K : Nat} : sumK K newV wP = 40 * K := by
  induction K with
  | zero => rfl
  | succ K ih =>
    unfold sumK
    rw [ih, show wP (newV K) = 40 from rfl]
    omega
theorem BO_new {K : Nat} : BO K newV := fun k hk => ⟨⟨0, by omega, rfl⟩, ⟨0, by omega, rfl⟩⟩
theorem BO_step {R C : Nat} {fi di he br pa gu : Int32} {sc : Nat} {lo lu : Int32} {K nh : Nat} {hf : Nat → Nat → Int32} {ml : Int32} {n cap : Nat} {fY : Nat → Int32} {V : Nat → KV} (h : BO K V) : BO K (F_X7_step R C fi di he br pa gu sc lo lu K nh hf ml n cap fY V).2.2.2.2.2.2.1 := fun k hk => by
  obtain ⟨s1, -, s3, -⟩ := step_k (R := R) (C := C) (fi := fi) (di := di) (he := he) (br := br) (pa := pa) (gu := gu) (sc := sc) (lo := lo) (lu := lu) (nh := nh) (hf := hf) (ml := ml) (n := n) (cap := cap) (fY := fY) (V := V) hk
  obtain ⟨⟨b, b1, b2⟩, l, l1, l2⟩ := h k hk
  refine ⟨⟨b, b1, s1.trans b2⟩, ?_⟩
  rcases s3 with s3 | s3
  · exact ⟨l, l1, s3.1.trans l2⟩
  · have l0 : 0 < l := by
      rcases Nat.eq_zero_or_pos l with e | e
      · rw [l2, e] at s3
        exact absurd (show nI 0 ≤ 0 by decide) s3.2
      · exact e
    exact ⟨l - 1, by omega, s3.1.trans (by rw [l2]; exact nI_m1 l0)⟩
theorem itr_keep {α : Type} {f : Nat → α → α} (P : α → Prop) (h : ∀ i a, P a → P (f i a)) : ∀ (n i : Nat) (a : α), P a → P (itr f n i a)
  | 0, _, _, h0 => h0
  | n + 1, i, a, h0 => itr_keep P h n (i + 1) (f i a) (h i a h0)
theorem itr_sc {R C : Nat} {fi di he br pa gu : Int32} {K nh : Nat} : ∀ (n i : Nat) (a : T54), (itr (fun i a => S_X7_scan_54 R C fi di he br pa gu K nh i a) n i a).2.1 = a.2.1 + n
  | 0, _, _ => rfl
  | n + 1, i, a => by
    have h := itr_sc (R := R) (C := C) (fi := fi) (di := di) (he := he) (br := br) (pa := pa) (gu := gu) (K := K) (nh := nh) n (i + 1) (S_X7_scan_54 R C fi di he br pa gu K nh i a)
    have e : (S_X7_scan_54 R C fi di he br pa gu K nh i a).2.1 = a.2.1 + 1 := rfl
    rw [e] at h
    refine Eq.trans h ?_
    omega
section
variable {R C : Nat} {fi di he br pa gu : Int32} {sc : Nat} {cl se lo lu : Int32} {K nh : Nat} {hf : Nat → Nat → Int32} {ml : Int32} {n cap : Nat} {fY : Nat → Int32} {V : Nat → KV} {x1 : Int32}
theorem scan_A (h1 : (F_X7_start (if (F_X7_isIn x1 1 50) = 0 then (1 : Int32) else (0 : Int32)) 1).1 = 0) (h2 : (F_X7_refuse ((F_X7_start (if (F_X7_isIn x1 1 50) = 0 then (1 : Int32) else (0 : Int32)) 1).2) (if ((nI sc) + x1) ≤ 2000 then (0 : Int32) else (1 : Int32)) 2).1 = 0) : (F_X7_scan R C fi di he br pa gu sc cl se lo lu K nh hf ml n cap fY V x1).2.2 = (itr (fun i a => S_X7_scan_54 R C fi di he br pa gu K nh i a) x1.toNatClampNeg 0 (0, sc, cl, se, lu, lo, V, ml, n, cap, fY, hf)).2 := by
  unfold F_X7_scan
  rw [if_pos h1, if_pos h2]
/-- what a call of scan keeps -/
theorem scan_MI (hB : okB n cap fY) (hl : ∀ i, i < nh → ∃ c : Nat, c ≤ 31 ∧ hf i 1 = nI c) (hb : BO K V) (hs : sc ≤ 2000) :
    let F := F_X7_scan R C fi di he br pa gu sc cl se lo lu K nh hf ml n cap fY V x1
    okB F.2.2.2.2.2.2.2.2.2.1 F.2.2.2.2.2.2.2.2.2.2.1 F.2.2.2.2.2.2.2.2.2.2.2.1 ∧ (∀ i, i < nh → ∃ c : Nat, c ≤ 31 ∧ F.2.2.2.2.2.2.2.2.2.2.2.2 i 1 = nI c) ∧ BO K F.2.2.2.2.2.2.2.1 ∧ F.2.2.1 ≤ 2000 ∧ cap ≤ F.2.2.2.2.2.2.2.2.2.2.1 := by
  intro F
  by_cases h1 : (F_X7_start (if (F_X7_isIn x1 1 50) = 0 then (1 : Int32) else (0 : Int32)) 1).1 = 0
  · by_cases h2 : (F_X7_refuse ((F_X7_start (if (F_X7_isIn x1 1 50) = 0 then (1 : Int32) else (0 : Int32)) 1).2) (if ((nI sc) + x1) ≤ 2000 then (0 : Int32) else (1 : Int32)) 2).1 = 0
    · have e := scan_A (R := R) (C := C) (fi := fi) (di := di) (he := he) (br := br) (pa := pa) (gu := gu) (cl := cl) (se := se) (lo := lo) (lu := lu) (K := K) (nh := nh) (hf := hf) (ml := ml) (n := n) (cap := cap) (fY := fY) (V := V) h1 h2
      have g := itr_keep (f := fun i a => S_X7_scan_54 R C fi di he br pa gu K nh i a) (fun a => okB a.2.2.2.2.2.2.2.2.1 a.2.2.2.2.2.2.2.2.2.1 a.2.2.2.2.2.2.2.2.2.2.1 ∧ (∀ i, i < nh → ∃ c : Nat, c ≤ 31 ∧ a.2.2.2.2.2.2.2.2.2.2.2 i 1 = nI c) ∧ BO K a.2.2.2.2.2.2.1 ∧ cap ≤ a.2.2.2.2.2.2.2.2.2.1) (fun i a ha => by
        have st := stepM_ok (R := R) (C := C) (fi := fi) (di := di) (he := he) (br := br) (pa := pa) (gu := gu) (sc := a.2.1) (lo := a.2.2.2.2.2.1) (lu := a.2.2.2.2.1) (K := K) (nh := nh) (hf := a.2.2.2.2.2.2.2.2.2.2.2) (ml := a.2.2.2.2.2.2.2.1) (V := a.2.2.2.2.2.2.1) ha.1 ha.2.1
        exact ⟨st.1, st.2.2.2.2, BO_step ha.2.2.1, Nat.le_trans ha.2.2.2 st.2.1⟩) x1.toNatClampNeg 0 (0, sc, cl, se, lu, lo, V, ml, n, cap, fY, hf) ⟨hB, hl, hb, Nat.le_refl _⟩
      have es := itr_sc (R := R) (C := C) (fi := fi) (di := di) (he := he) (br := br) (pa := pa) (gu := gu) (K := K) (nh := nh) x1.toNatClampNeg 0 (0, sc, cl, se, lu, lo, V, ml, n, cap, fY, hf)
      obtain ⟨h3, h4⟩ := in_1 (b := 50) (by omega) (by decide) (isin_0 (st_0 (no_01 _) h1))
      have h5 := scan_rm h4 hs h3.2 (rf_0 h1 h2)
      have f1 : F.2.2 = _ := e
      rw [f1]
      exact ⟨g.1, g.2.1, g.2.2.1, Nat.le_trans (Nat.le_of_eq es) h5, g.2.2.2⟩
    · have e := scan_V2 (R := R) (C := C) (fi := fi) (di := di) (he := he) (br := br) (pa := pa) (gu := gu) (cl := cl) (se := se) (lo := lo) (lu := lu) (K := K) (nh := nh) (hf := hf) (ml := ml) (n := n) (cap := cap) (fY := fY) (V := V) h1 h2
      have f1 : F.2 = _ := e
      rw [f1]
      exact ⟨hB, hl, hb, hs, Nat.le_refl _⟩
  · have e := scan_V1 (R := R) (C := C) (fi := fi) (di := di) (he := he) (br := br) (pa := pa) (gu := gu) (sc := sc) (cl := cl) (se := se) (lo := lo) (lu := lu) (K := K) (nh := nh) (hf := hf) (ml := ml) (n := n) (cap := cap) (fY := fY) (V := V) h1
    have f1 : F.2 = _ := e
    rw [f1]
    exact ⟨hB, hl, hb, hs, Nat.le_refl _⟩
end
theorem pat_MI {pa gu x1 x2 : Int32} (hp : ¬ pa ≤ 0) (hg : gu = 0 ∨ gu = 1) (hx : x2 = 0 ∨ x2 = 1) : ¬ (F_X7_patience pa gu x1 x2).2.2.1 ≤ 0 ∧ ((F_X7_patience pa gu x1 x2).2.2.2 = 0 ∨ (F_X7_patience pa gu x1 x2).2.2.2 = 1) := by
  unfold F_X7_patience
  by_cases h1 : (F_X7_start (if (F_X7_isIn x1 1 6) = 0 then (1 : Int32) else (0 : Int32)) 1).1 = 0
  · rw [if_pos h1]
    obtain ⟨h2, h3⟩ := in_1 (b := 6) (by omega) (by decide) (isin_0 (st_0 (no_01 _) h1))
    refine ⟨fun h => ?_, hx⟩
    have h4 : x1 ≤ 0 := h
    rw [h3, Int32.le_iff_toInt_le, nI_toInt (by omega)] at h4
    have e0 : (0 : Int32).toInt = 0 := by decide
    rw [e0] at h4
    omega
  · rw [if_neg h1]
    exact ⟨hp, hg⟩
/-- a list's room, as it is held -/
def cpo (v : KV) : Prop := kne v ≤ kcp v ∧ (kcp v ≠ 0 → 10 ≤ kcp v) ∧ kcp v ≤ 2 * kne v + 10
theorem cpo_add {v : KV} {bo st le co to go : Int32} {cc : Nat → Int32} {ev : Nat → Int32} (h : cpo v) : cpo (mkV bo st le co to go cc (kne v + 1) (F_Jx4a65c_add_9ea2d (kne v) (kcp v)).2 ev) := by
  obtain ⟨h1, h2, h3⟩ := h
  show kne v + 1 ≤ F_Jx4a65c_add_72be8 (kne v) (kcp v) ∧ (F_Jx4a65c_add_72be8 (kne v) (kcp v) ≠ 0 → 10 ≤ F_Jx4a65c_add_72be8 (kne v) (kcp v)) ∧ F_Jx4a65c_add_72be8 (kne v) (kcp v) ≤ 2 * (kne v + 1) + 10
  unfold F_Jx4a65c_add_72be8
  by_cases e1 : kne v < kcp v
  · rw [if_pos e1]
    have := h2 (by omega)
    omega
  · rw [if_neg e1]
    by_cases e2 : kcp v = 0
    · rw [if_pos e2]
      omega
    · rw [if_neg e2]
      have := h2 e2
      omega
theorem step_c {R C : Nat} {fi di he br pa gu : Int32} {sc : Nat} {lu : Int32} {K : Nat} {V : Nat → KV} (i : Nat) (a : Int32 × (Nat → KV) × Int32 × Int32 × Nat × Nat × (Nat → Int32)) : ∃ v, (S_X7_step_38 R C fi di he br pa gu sc lu K V i a).2.1 = va_up a.2.1 i v ∧ (cpo (a.2.1 i) → cpo v) := by
  unfold S_X7_step_38
  (repeat' split) <;> exact ⟨_, rfl, fun h => by first | exact h | exact cpo_add h⟩
theorem step_cp {R C : Nat} {fi di he br pa gu : Int32} {sc : Nat} {lo lu : Int32} {K nh : Nat} {hf : Nat → Nat → Int32} {ml : Int32} {n cap : Nat} {fY : Nat → Int32} {V : Nat → KV} (h : ∀ k, k < K → cpo (V k)) : ∀ k, k < K → cpo ((F_X7_step R C fi di he br pa gu sc lo lu K nh hf ml n cap fY V).2.2.2.2.2.2.1 k) := fun k hk => by
  obtain ⟨b, b1, b2⟩ := itr_one (f := fun i a => S_X7_step_38 R C fi di he br pa gu sc lu K V i a) (g := fun a => a.2.1) (fun i a => by obtain ⟨v, h, -⟩ := step_c (R := R) (C := C) (fi := fi) (di := di) (he := he) (br := br) (pa := pa) (gu := gu) (sc := sc) (lu := lu) (K := K) (V := V) i a; exact ⟨v, h⟩) K 0 (0, (F_X7_closedNow fi he lu K V).2.2, lo, ml, n, cap, fY) k (Nat.zero_le _) (by omega)
  obtain ⟨v, h1, h2⟩ := step_c (R := R) (C := C) (fi := fi) (di := di) (he := he) (br := br) (pa := pa) (gu := gu) (sc := sc) (lu := lu) (K := K) (V := V) k b
  have e : (F_X7_step R C fi di he br pa gu sc lo lu K nh hf ml n cap fY V).2.2.2.2.2.2.1 k = v := by
    show (itr (fun i a => S_X7_step_38 R C fi di he br pa gu sc lu K V i a) K 0 (0, (F_X7_closedNow fi he lu K V).2.2, lo, ml, n, cap, fY)).2.1 k = v
    refine b2.trans ?_
    show (S_X7_step_38 R C fi di he br pa gu sc lu K V k b).2.1 k = v
    rw [h1, va_up_self]
  have e2 : b.2.1 k = (F_X7_closedNow fi he lu K V).2.2 k := b1
  have hc := closed_keep (fi := fi) (he := he) (lu := lu) (K := K) (V := V) k
  rw [e]
  refine h2 ?_
  rw [e2]
  have h0 := h k hk
  unfold cpo at h0 ⊢
  rw [hc.2.1, hc.2.2.1]
  exact h0
section
variable {D : va_G} {R C K : Nat} {pa gu : Int32} {sc kn : Nat} {kg : Nat → Option Nat} {aK : Nat → Nat} {hd hcp nh : Nat} {hg : Nat → Option Nat} {aH : Nat → Nat} {hf : Nat → Nat → Int32} {n cap : Nat} {fY : Nat → Int32} {V : Nat → KV} {Z : Nat → KZ}
variable {fi di he br cl se lo lu ml : Int32} {x1 x2 : Int32}
theorem scan_cp (h : ∀ k, k < K → cpo (V k)) : ∀ k, k < K → cpo ((F_X7_scan R C fi di he br pa gu sc cl se lo lu K nh hf ml n cap fY V x1).2.2.2.2.2.2.2.1 k) := by
  by_cases h1 : (F_X7_start (if (F_X7_isIn x1 1 50) = 0 then (1 : Int32) else (0 : Int32)) 1).1 = 0
  · by_cases h2 : (F_X7_refuse ((F_X7_start (if (F_X7_isIn x1 1 50) = 0 then (1 : Int32) else (0 : Int32)) 1).2) (if ((nI sc) + x1) ≤ 2000 then (0 : Int32) else (1 : Int32)) 2).1 = 0
    · rw [scan_V h1 h2]
      exact itr_keep (f := fun i a => S_X7_scan_54 R C fi di he br pa gu K nh i a) (fun a => ∀ k, k < K → cpo (a.2.2.2.2.2.2.1 k)) (fun i a ha => step_cp ha) x1.toNatClampNeg 0 (0, sc, cl, se, lu, lo, V, ml, n, cap, fY, hf) h
    · have e : (F_X7_scan R C fi di he br pa gu sc cl se lo lu K nh hf ml n cap fY V x1).2.2.2.2.2.2.2.1 = V := congrArg (fun z => z.2.2.2.2.2.2.1) (scan_V2 h1 h2)
      rw [e]
      exact h
  · have e : (F_X7_scan R C fi di he br pa gu sc cl se lo lu K nh hf ml n cap fY V x1).2.2.2.2.2.2.2.1 = V := congrArg (fun z => z.2.2.2.2.2.2.1) (scan_V1 h1)
    rw [e]
    exact h
theorem KI_cpo {i : Nat} (h : KI D K sc i V Z) : ∀ k, k < K → cpo (V k) := fun k hk => ⟨(h k hk).1.1, (h k hk).1.2.2.1, (h k hk).1.2.2.2.1⟩
/-- the room of a call of scan -/
theorem scan_room (hK : K ≤ 25) (hs : sc ≤ 2000) (hKI : KI D K sc 0 V Z) (hb : BO K V) :
    let V' := (F_X7_scan R C fi di he br pa gu sc cl se lo lu K nh hf ml n cap fY V x1).2.2.2.2.2.2.2.1
    sumK K V' wC ≤ sumK K V wC + 750 ∧ sumK K V' wS + sumK K V' wP ≤ sumK K V wS + sumK K V wP + 3150 := by
  intro V'
  have h1 : sumK K V' kne ≤ sumK K V kne + 150 := scan_ev hK (BO_LB hb) (KI_ne hKI hs)
  have h2 := pot_id (KI_cp hKI)
  have h3 : sumK K V' wS + sumK K V' wP = 21 * sumK K V' kne + 40 * K := pot_id (fun k hk => (scan_cp (KI_cpo hKI) k hk).2.2)
  have h4 := wC_5 (K := K) (V := V)
  have h5 := wC_5 (K := K) (V := V')
  omega
theorem MI_KB {V' : Nat → KV} (h : MI D R C K pa gu sc kn kg aK hd hcp nh hg aH hf n cap fY V Z) (k : KB D K sc V V' Z) : MI D R C K pa gu sc kn kg aK hd hcp nh hg aH hf n cap fY V' Z :=
  ⟨h.1, h.2.1, h.2.2.1, h.2.2.2.1, h.2.2.2.2.1, h.2.2.2.2.2.1, h.2.2.2.2.2.2.1, k.1, k.2.1⟩
theorem MI_pat (h : MI D R C K pa gu sc kn kg aK hd hcp nh hg aH hf n cap fY V Z) (hx : x2 = 0 ∨ x2 = 1) : MI D R C K (F_X7_patience pa gu x1 x2).2.2.1 (F_X7_patience pa gu x1 x2).2.2.2 sc kn kg aK hd hcp nh hg aH hf n cap fY V Z := by
  obtain ⟨p1, p2⟩ := pat_MI (x1 := x1) h.2.2.1 h.2.1 hx
  exact ⟨h.1, p2, p1, h.2.2.2⟩
theorem MI_chord {hd' hcp' nh' : Nat} {hg' : Nat → Option Nat} {aH' : Nat → Nat} {hf' : Nat → Nat → Int32} (h : MI D R C K pa gu sc kn kg aK hd hcp nh hg aH hf n cap fY V Z) (g : (∀ i, i < nh' → hg' i = some (aH' i)) ∧ nh' ≤ hcp' ∧ nh' ≤ 6 ∧ hcp' ≤ 40 ∧ (hcp' = 0 → hd' = D.2 200 0) ∧ (hcp' ≠ 0 → 10 ≤ hcp') ∧ (∀ i, i < nh' → ∃ c : Nat, c ≤ 31 ∧ hf' i 1 = nI c)) : MI D R C K pa gu sc kn kg aK hd' hcp' nh' hg' aH' hf' n cap fY V Z :=
  ⟨h.1, h.2.1, h.2.2.1, h.2.2.2.1, h.2.2.2.2.1, ⟨g.2.2.1, g.2.1, g.2.2.2.1, g.2.2.2.2.1, g.2.2.2.2.2.1, g.1, g.2.2.2.2.2.2⟩, h.2.2.2.2.2.2⟩
theorem MI_scan {Z' : Nat → KZ} (h : MI D R C K pa gu sc kn kg aK hd hcp nh hg aH hf n cap fY V Z)
    (k : KI D K (F_X7_scan R C fi di he br pa gu sc cl se lo lu K nh hf ml n cap fY V x1).2.2.1 0 (F_X7_scan R C fi di he br pa gu sc cl se lo lu K nh hf ml n cap fY V x1).2.2.2.2.2.2.2.1 Z') :
    MI D R C K pa gu (F_X7_scan R C fi di he br pa gu sc cl se lo lu K nh hf ml n cap fY V x1).2.2.1 kn kg aK hd hcp nh hg aH (F_X7_scan R C fi di he br pa gu sc cl se lo lu K nh hf ml n cap fY V x1).2.2.2.2.2.2.2.2.2.2.2.2 (F_X7_scan R C fi di he br pa gu sc cl se lo lu K nh hf ml n cap fY V x1).2.2.2.2.2.2.2.2.2.1 (F_X7_scan R C fi di he br pa gu sc cl se lo lu K nh hf ml n cap fY V x1).2.2.2.2.2.2.2.2.2.2.1 (F_X7_scan R C fi di he br pa gu sc cl se lo lu K nh hf ml n cap fY V x1).2.2.2.2.2.2.2.2.2.2.2.1 (F_X7_scan R C fi di he br pa gu sc cl se lo lu K nh hf ml n cap fY V x1).2.2.2.2.2.2.2.1 Z' := by
  obtain ⟨m1, m2, m3, m4, m5, ⟨c1, c2, c3, c4, c5, c6, c7⟩, m7, m8, m9⟩ := h
  have g := scan_MI (R := R) (C := C) (fi := fi) (di := di) (he := he) (br := br) (pa := pa) (gu := gu) (cl := cl) (se := se) (lo := lo) (lu := lu) (ml := ml) (x1 := x1) m7 c7 m9 m4
  exact ⟨m1, m2, m3, g.2.2.2.1, m5, ⟨c1, c2, c3, c4, c5, c6, g.2.1⟩, g.1, k, g.2.2.1⟩
/-- what lay leaves -/
def LF (D : va_G) (R C K : Nat) (pa gu : Int32) (sc nh nh0 n cap : Nat) (fY : Nat → Int32) (V V0 : Nat → KV) (K0 : Nat) : Prop := (0 < R ∧ R ≤ 5 ∧ 0 < C ∧ C ≤ 5 ∧ R * C = K ∧ K ≤ 25) ∧ (gu = 0 ∨ gu = 1) ∧ ¬ pa ≤ 0 ∧ sc ≤ 2000 ∧ nh ≤ nh0 ∧ okB n cap fY ∧ BO K V ∧ sumK K V wP ≤ sumK K0 V0 wP + 1000
theorem lay_LF {km hm : Int32} (h : MI D R C K pa gu sc kn kg aK hd hcp nh hg aH hf n cap fY V Z) :
    let F := F_X7_lay R C fi di he br pa gu sc cl se lo km K kn hm nh ml n V x1 x2
    LF D F.2.2.1 F.2.2.2.1 F.2.2.2.2.2.2.2.2.2.2.2.2.2.2.2.2.2.2.2.2.2.1 F.2.2.2.2.2.2.2.2.1 F.2.2.2.2.2.2.2.2.2.1 F.2.2.2.2.2.2.2.2.2.2.1 F.2.2.2.2.2.2.2.2.2.2.2.2.2.2.2.2.2.2.2.2.2.2.2 nh F.2.2.2.2.2.2.2.2.2.2.2.2.2.2.2.2.2.2.2.2.1 cap fY F.2.2.2.2.2.2.2.2.2.2.2.2.2.2.2.2.2.2.2.2.2.2.1 V K := by
  intro F
  obtain ⟨m1, m2, m3, m4, m5, m6, m7, m8, m9⟩ := h
  have e0 : LF D R C K pa gu sc nh nh n cap fY V V K := ⟨m1, m2, m3, m4, Nat.le_refl _, m7, m9, Nat.le_add_right _ _⟩
  by_cases h1 : F_X7_isIn x1 2 5 = 0
  · have e : F = (0, (F_X7_start 1 1).2, R, C, fi, di, he, br, pa, gu, sc, cl, se, lo, km, K, kn, hm, nh, ml, n, K, V, nh) := if_pos h1
    rw [e]
    exact e0
  · by_cases h2 : F_X7_isIn x2 2 5 = 0
    · have e : F = (0, (F_X7_start 1 1).2, R, C, fi, di, he, br, pa, gu, sc, cl, se, lo, km, K, kn, hm, nh, ml, n, K, V, nh) := (if_neg h1).trans (if_pos h2)
      rw [e]
      exact e0
    · have e : F = _ := (if_neg h1).trans (if_neg h2)
      rw [e]
      obtain ⟨a1, a2, a3⟩ := in_2 h1
      obtain ⟨b1, b2, b3⟩ := in_2 h2
      have hk : x1.toNatClampNeg * x2.toNatClampNeg ≤ 25 := Nat.mul_le_mul a2 b2
      refine ⟨⟨by show 0 < x1.toNatClampNeg; omega, a2, by show 0 < x2.toNatClampNeg; omega, b2, rfl, hk⟩, Or.inl rfl, by show ¬ (2 : Int32) ≤ 0; decide, Nat.zero_le _, Nat.zero_le _, ⟨Nat.zero_le _, Nat.zero_le _, m7.2.2.1, m7.2.2.2⟩, BO_new, ?_⟩
      show sumK (x1.toNatClampNeg * x2.toNatClampNeg) newV wP ≤ sumK K V wP + 1000
      rw [new_wP]
      omega
theorem MI_lay {R' C' K' : Nat} {pa' gu' : Int32} {sc' kn' : Nat} {kg' : Nat → Option Nat} {aK' : Nat → Nat} {nh' : Nat} {hg' : Nat → Option Nat} {n' : Nat} {V' : Nat → KV} {Z' : Nat → KZ} (h : MI D R C K pa gu sc kn kg aK hd hcp nh hg aH hf n cap fY V Z) (f : LF D R' C' K' pa' gu' sc' nh' nh n' cap fY V' V K) (g : (∀ i, i < K' → kg' i = some (aK' i)) ∧ K' ≤ kn' ∧ kn' ≤ 40 ∧ 10 ≤ kn' ∧ KI D K' sc' 0 V' Z' ∧ (∀ i, i < nh' → hg' i = some (aH i))) : MI D R' C' K' pa' gu' sc' kn' kg' aK' hd hcp nh' hg' aH hf n' cap fY V' Z' := by
  obtain ⟨f1, f2, f3, f4, f5, f6, f7, -⟩ := f
  obtain ⟨g1, g2, g3, g4, g5, g6⟩ := g
  obtain ⟨c1, c2, c3, c4, c5, c6, c7⟩ := h.2.2.2.2.2.1
  exact ⟨f1, f2, f3, f4, ⟨g2, g3, g4, g1⟩, ⟨by omega, by omega, c3, c4, c5, g6, fun i hi => c7 i (by omega)⟩, f6, g5, f7⟩
end
section
variable {R C K : Nat} {pa gu : Int32} {sc nh : Nat} {hf : Nat → Nat → Int32} {n cap : Nat} {fY : Nat → Int32} {V : Nat → KV} {fi di he br cl se lo lu ml : Int32} {x1 : Int32}
theorem scan_wS (hB : okB n cap fY) : sumK K V wS ≤ sumK K (F_X7_scan R C fi di he br pa gu sc cl se lo lu K nh hf ml n cap fY V x1).2.2.2.2.2.2.2.1 wS := by
  by_cases h1 : (F_X7_start (if (F_X7_isIn x1 1 50) = 0 then (1 : Int32) else (0 : Int32)) 1).1 = 0
  · by_cases h2 : (F_X7_refuse ((F_X7_start (if (F_X7_isIn x1 1 50) = 0 then (1 : Int32) else (0 : Int32)) 1).2) (if ((nI sc) + x1) ≤ 2000 then (0 : Int32) else (1 : Int32)) 2).1 = 0
    · rw [scan_V h1 h2]
      have g := link_le (f := fun i a => S_X7_scan_54 R C fi di he br pa gu K nh i a) OK3 (PS3 K) scan_S3 x1.toNatClampNeg 0 (0, sc, cl, se, lu, lo, V, ml, n, cap, fY, hf) hB
      exact g.2
    · have e : (F_X7_scan R C fi di he br pa gu sc cl se lo lu K nh hf ml n cap fY V x1).2.2.2.2.2.2.2.1 = V := congrArg (fun z => z.2.2.2.2.2.2.1) (scan_V2 h1 h2)
      rw [e]
      exact Nat.le_refl _
  · have e : (F_X7_scan R C fi di he br pa gu sc cl se lo lu K nh hf ml n cap fY V x1).2.2.2.2.2.2.2.1 = V := congrArg (fun z => z.2.2.2.2.2.2.1) (scan_V1 h1)
    rw [e]
    exact Nat.le_refl _
end
