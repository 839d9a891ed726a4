/-- all that stands between two calls -/
def WI (t sc : Nat) (pa gu cl : Int32) (R C : Nat) (fi br li he dn ea lo : Int32) (Ch : Nat) (ct rf : Int32) (n cap : Nat) (fY fM fE fLE fC fG fL : Nat → Int32) : Prop :=
  (R ≤ 5 ∧ C ≤ 5 ∧ Live R C fi br li ∧ (∀ j, bt he j = true → bt fi j = true) ∧ (∀ j, bt cl j = true → j < R * C)) ∧
  (okB n cap fY ∧ sc ≤ 2000 ∧ EVI (R * C) (fun _ => sc) sc fE dn ea fG fLE ∧ (∀ j, j < R * C → fM j = -1 ∨ ∃ a, a ≤ sc ∧ fM j = nI a)) ∧
  ((∃ p : Nat, p ≤ 6 ∧ pa = nI p) ∧ (gu = 0 ∨ gu = 1) ∧ Ch ≤ 6 ∧ (∀ j, j < 75 → ∃ c : Nat, c ≤ 31 ∧ fC j = nI c) ∧ (∀ j, j < 6 → ∃ c : Nat, c ≤ 31 ∧ fL j = nI c)) ∧
  (∃ l, l ≤ 31 * sc ∧ lo = nI l) ∧ (∃ c, c ≤ 6 * sc ∧ ct = nI c) ∧ (∃ r, r ≤ t ∧ rf = nI r)
theorem WI_IA {t sc : Nat} {pa gu cl : Int32} {R C : Nat} {fi br li he dn ea lo : Int32} {Ch : Nat} {ct rf : Int32} {n cap : Nat} {fY fM fE fLE fC fG fL : Nat → Int32} (hn : n ≤ 60) (h : WI t sc pa gu cl R C fi br li he dn ea lo Ch ct rf n cap fY fM fE fLE fC fG fL) : IA sc cl R C fi br li he dn ea n fM fE fLE fG := by
  obtain ⟨⟨h1, h2, h3, h4, h5⟩, ⟨h6, h7, ⟨h8, h9, h10⟩, h11⟩, -⟩ := h
  exact ⟨h3, h4, h5, hn, h7, h9, h8, h10, h11⟩
/-- a set's keys stay below K when it lies in the fitted ones -/
theorem in_lt {R C : Nat} {fi br li cl : Int32} (hL : Live R C fi br li) (h : ∀ j, bt cl j = true → bt fi j = true) : ∀ j, bt cl j = true → j < R * C := fun j hj => hL.1 j (h j hj)
theorem WI_key {t sc : Nat} {pa gu cl : Int32} {R C : Nat} {fi di br li he dn ea lo : Int32} {Ch : Nat} {ct rf : Int32} {n cap : Nat} {fY fB fS fN fM fE fLE fC fG fL : Nat → Int32} {x1 x2 x3 x4 x5 : Int32} (h : WI t sc pa gu cl R C fi br li he dn ea lo Ch ct rf n cap fY fM fE fLE fC fG fL) :
    WI t sc pa gu cl R C (F_X4_key sc R C (R * C) fi di br li he fB fS fN fM x1 x2 x3 x4 x5).2.1 br (F_X4_key sc R C (R * C) fi di br li he fB fS fN fM x1 x2 x3 x4 x5).2.2.2.1 (F_X4_key sc R C (R * C) fi di br li he fB fS fN fM x1 x2 x3 x4 x5).2.2.2.2.2.2.1 dn ea lo Ch ct rf n cap fY (F_X4_key sc R C (R * C) fi di br li he fB fS fN fM x1 x2 x3 x4 x5).2.2.2.2.2.2.2.2 fE fLE fC fG fL := by
  obtain ⟨⟨h1, h2, h3, h4, h5⟩, ⟨h6, h7, h8, h9⟩, h10⟩ := h
  obtain ⟨g1, g2, g3⟩ := key_ok (di := di) (fB := fB) (fS := fS) (fN := fN) (x1 := x1) (x2 := x2) (x3 := x3) (x4 := x4) (x5 := x5) h1 h2 h3 h4 h9
  exact ⟨⟨h1, h2, g1, g2, h5⟩, ⟨h6, h7, h8, g3⟩, h10⟩
theorem WI_line {t sc : Nat} {pa gu cl : Int32} {R C : Nat} {fi br li he dn ea lo : Int32} {Ch : Nat} {ct rf : Int32} {n cap : Nat} {fY fM fE fLE fC fG fL : Nat → Int32} {x1 x2 : Int32} (h : WI t sc pa gu cl R C fi br li he dn ea lo Ch ct rf n cap fY fM fE fLE fC fG fL) :
    WI t sc pa gu cl R C fi (F_X4_line R C fi br li x1 x2).2.1 (F_X4_line R C fi br li x1 x2).2.2 he dn ea lo Ch ct rf n cap fY fM fE fLE fC fG fL := by
  obtain ⟨⟨h1, h2, h3, h4, h5⟩, h6⟩ := h
  exact ⟨⟨h1, h2, line_ok h1 h2 h3, h4, h5⟩, h6⟩
theorem WI_hold {t sc : Nat} {pa gu cl : Int32} {R C : Nat} {fi br li he dn ea lo : Int32} {Ch : Nat} {ct rf : Int32} {n cap : Nat} {fY fB fN fM fE fLE fC fG fL : Nat → Int32} {x1 x2 : Int32} (h : WI t sc pa gu cl R C fi br li he dn ea lo Ch ct rf n cap fY fM fE fLE fC fG fL) :
    WI t sc pa gu cl R C fi br li (F_X4_hold sc (R * C) fi he fB fN fM x1 x2).2.1 dn ea lo Ch ct rf n cap fY (F_X4_hold sc (R * C) fi he fB fN fM x1 x2).2.2.2 fE fLE fC fG fL := by
  obtain ⟨⟨h1, h2, h3, h4, h5⟩, ⟨h6, h7, h8, h9⟩, h10⟩ := h
  obtain ⟨g1, g2⟩ := hold_ok (fB := fB) (fN := fN) (x1 := x1) (x2 := x2) (Nat.mul_le_mul h1 h2) h4 h9
  exact ⟨⟨h1, h2, h3, g1, h5⟩, ⟨h6, h7, h8, g2⟩, h10⟩
theorem WI_code {t sc : Nat} {pa gu cl : Int32} {R C : Nat} {fi br li he dn ea lo : Int32} {Ch : Nat} {ct rf : Int32} {n cap : Nat} {fY fM fE fLE fC fG fL : Nat → Int32} {K : Nat} {x1 x2 x3 : Int32} (h : WI t sc pa gu cl R C fi br li he dn ea lo Ch ct rf n cap fY fM fE fLE fC fG fL) :
    WI t sc pa gu cl R C fi br li he dn ea lo Ch ct rf n cap fY fM fE fLE (F_X4_code K fC x1 x2 x3).2 fG fL := by
  obtain ⟨h1, h2, ⟨h3, h4, h5, h6, h7⟩, h8⟩ := h
  exact ⟨h1, h2, ⟨h3, h4, h5, code_ok h6, h7⟩, h8⟩
theorem WI_chord {t sc : Nat} {pa gu cl : Int32} {R C : Nat} {fi br li he dn ea lo : Int32} {Ch : Nat} {ct rf : Int32} {n cap : Nat} {fY fM fE fLE fC fG fL fK fQ : Nat → Int32} {K : Nat} {x1 x2 : Int32} (h : WI t sc pa gu cl R C fi br li he dn ea lo Ch ct rf n cap fY fM fE fLE fC fG fL) :
    WI t sc pa gu cl R C fi br li he dn ea lo (F_X4_chord K Ch fK fL fQ x1 x2).2.2.2.2 ct rf n cap fY fM fE fLE fC fG (F_X4_chord K Ch fK fL fQ x1 x2).2.2.1 := by
  obtain ⟨h1, h2, ⟨h3, h4, h5, h6, h7⟩, h8⟩ := h
  obtain ⟨g1, g2⟩ := chord_ok (K := K) (fK := fK) (fQ := fQ) (x1 := x1) (x2 := x2) h5 h7
  exact ⟨h1, h2, ⟨h3, h4, g1, h6, g2⟩, h8⟩
theorem WI_patience {t sc : Nat} {pa gu cl : Int32} {R C : Nat} {fi br li he dn ea lo : Int32} {Ch : Nat} {ct rf : Int32} {n cap : Nat} {fY fM fE fLE fC fG fL : Nat → Int32} {x1 x2 : Int32} (hx2 : x2 = 0 ∨ x2 = 1) (h : WI t sc pa gu cl R C fi br li he dn ea lo Ch ct rf n cap fY fM fE fLE fC fG fL) :
    WI t sc (F_X4_patience pa gu x1 x2).2.1 (F_X4_patience pa gu x1 x2).2.2 cl R C fi br li he dn ea lo Ch ct rf n cap fY fM fE fLE fC fG fL := by
  obtain ⟨h1, h2, ⟨h3, h4, h5⟩, h8⟩ := h
  obtain ⟨g1, g2⟩ := patience_ok (x1 := x1) h3 h4 hx2
  exact ⟨h1, h2, ⟨g1, g2, h5⟩, h8⟩
theorem WI_call {t sc : Nat} {pa gu cl : Int32} {R C : Nat} {fi br li he dn ea lo : Int32} {Ch : Nat} {ct rf : Int32} {n cap : Nat} {fY fM fE fLE fC fG fL : Nat → Int32} (h : WI t sc pa gu cl R C fi br li he dn ea lo Ch ct rf n cap fY fM fE fLE fC fG fL) :
    WI (t + 1) sc pa gu cl R C fi br li he dn ea lo Ch ct (rf + 1) n cap fY fM fE fLE fC fG fL := by
  obtain ⟨h1, h2, h3, h4, h5, r, h6, h7⟩ := h
  exact ⟨h1, h2, h3, h4, h5, r + 1, by omega, by rw [h7]; exact (Int32.ofNat_add _ _).symm⟩
