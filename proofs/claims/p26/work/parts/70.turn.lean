abbrev TA : Type := Int32 × Nat × Int32 × Int32 × Int32 × Int32 × Int32 × Int32 × Int32 × Int32 × Int32 × Int32 × Int32 × Int32 × Int32 × Int32 × Nat × Int32 × Int32 × Nat × Nat × (Nat → Int32) × (Nat → Int32) × (Nat → Int32) × (Nat → Int32) × (Nat → Int32) × (Nat → Int32) × (Nat → Int32) × (Nat → Int32) × (Nat → Int32) × (Nat → Int32) × (Nat → Int32) × (Nat → Int32) × (Nat → Int32) × (Nat → Int32)
/-- what stands after a turn -/
def PA (tn R C : Nat) (T : Nat → Int32) (u : TA) : Prop :=
  (u.1 = 0 ∨ u.1 = 1) ∧ WI tn u.2.1 u.2.2.1 u.2.2.2.1 u.2.2.2.2.1 R C u.2.2.2.2.2.2.2.1 u.2.2.2.2.2.2.2.2.2.1 u.2.2.2.2.2.2.2.2.2.2.1 u.2.2.2.2.2.2.2.2.2.2.2.1 u.2.2.2.2.2.2.2.2.2.2.2.2.2.1 u.2.2.2.2.2.2.2.2.2.2.2.2.2.2.1 u.2.2.2.2.2.2.2.2.2.2.2.2.2.2.2.1 u.2.2.2.2.2.2.2.2.2.2.2.2.2.2.2.2.1 u.2.2.2.2.2.2.2.2.2.2.2.2.2.2.2.2.2.1 u.2.2.2.2.2.2.1 u.2.2.2.2.2.2.2.2.2.2.2.2.2.2.2.2.2.2.2.1 u.2.2.2.2.2.2.2.2.2.2.2.2.2.2.2.2.2.2.2.2.1 u.2.2.2.2.2.2.2.2.2.2.2.2.2.2.2.2.2.2.2.2.2.1 u.2.2.2.2.2.2.2.2.2.2.2.2.2.2.2.2.2.2.2.2.2.2.2.2.2.1 u.2.2.2.2.2.2.2.2.2.2.2.2.2.2.2.2.2.2.2.2.2.2.2.2.2.2.2.1 u.2.2.2.2.2.2.2.2.2.2.2.2.2.2.2.2.2.2.2.2.2.2.2.2.2.2.2.2.1 u.2.2.2.2.2.2.2.2.2.2.2.2.2.2.2.2.2.2.2.2.2.2.2.2.2.2.2.2.2.1 u.2.2.2.2.2.2.2.2.2.2.2.2.2.2.2.2.2.2.2.2.2.2.2.2.2.2.2.2.2.2.1 u.2.2.2.2.2.2.2.2.2.2.2.2.2.2.2.2.2.2.2.2.2.2.2.2.2.2.2.2.2.2.2.2.2.1 ∧ (u.1 = 0 ∨ AS u.2.2.1 u.2.2.2.2.1 u.2.2.2.2.2.1 R C u.2.2.2.2.2.2.2.1 u.2.2.2.2.2.2.2.2.1 u.2.2.2.2.2.2.2.2.2.2.1 u.2.2.2.2.2.2.2.2.2.2.2.2.2.2.2.2.2.2.2.2.2.2.2.2.2.2.1) ∧ ∀ j, j < 5 → T j ≤ (T_now u.2.1 u.2.2.1 u.2.2.2.1 u.2.2.2.2.2.2.1 R C (R * C) u.2.2.2.2.2.2.2.1 u.2.2.2.2.2.2.2.2.1 u.2.2.2.2.2.2.2.2.2.1 u.2.2.2.2.2.2.2.2.2.2.1 u.2.2.2.2.2.2.2.2.2.2.2.2.1 u.2.2.2.2.2.2.2.2.2.2.2.2.2.2.1 u.2.2.2.2.2.2.2.2.2.2.2.2.2.2.2.1 u.2.2.2.2.2.2.2.2.2.2.2.2.2.2.2.2.1 u.2.2.2.2.2.2.2.2.2.2.2.2.2.2.2.2.2.1 u.2.2.2.2.2.2.2.2.2.2.2.2.2.2.2.2.2.2.2.2.2.2.2.2.2.2.2.2.2.2.1) j
theorem i32_rf (x : Int32) : x ≤ x := by rw [Int32.le_iff_toInt_le]; exact Int.le_refl _
theorem now_mono {R C : Nat} {sc : Nat} {pa : Int32} {gu : Int32} {rf : Int32} {fi : Int32} {di : Int32} {br : Int32} {li : Int32} {lu : Int32} {ea : Int32} {lo : Int32} {Ch : Nat} {ct : Int32} {fG : Nat → Int32} {sc' : Nat} {pa' : Int32} {gu' : Int32} {rf' : Int32} {fi' : Int32} {di' : Int32} {br' : Int32} {li' : Int32} {lu' : Int32} {ea' : Int32} {lo' : Int32} {Ch' : Nat} {ct' : Int32} {fG' : Nat → Int32} (h0 : sc ≤ sc') (hs : sc' ≤ 2000) (h1 : ea ≤ ea') (h2 : ct ≤ ct') (h3 : lo ≤ lo') (h4 : rf ≤ rf') : ∀ j, j < 5 → (T_now sc pa gu rf R C (R * C) fi di br li lu ea lo Ch ct fG) j ≤ (T_now sc' pa' gu' rf' R C (R * C) fi' di' br' li' lu' ea' lo' Ch' ct' fG') j := by
  intro j hj
  rcases (show j = 0 ∨ j = 1 ∨ j = 2 ∨ j = 3 ∨ j = 4 by omega) with rfl | rfl | rfl | rfl | rfl
  · rw [now_0, now_0]; exact nI_le h0 (by omega)
  · rw [now_1, now_1]; exact h1
  · rw [now_2, now_2]; exact h2
  · rw [now_3, now_3]; exact h3
  · rw [now_4, now_4]; exact h4
theorem WI_up {tn : Nat} {sc : Nat} {pa : Int32} {gu : Int32} {cl : Int32} {R : Nat} {C : Nat} {fi : Int32} {br : Int32} {li : Int32} {he : Int32} {dn : Int32} {ea : Int32} {lo : Int32} {Ch : Nat} {ct : Int32} {rf : Int32} {n : Nat} {cap : Nat} {fY : Nat → Int32} {fM : Nat → Int32} {fE : Nat → Int32} {fLE : Nat → Int32} {fC : Nat → Int32} {fG : Nat → Int32} {fL : Nat → Int32} (h : WI tn sc pa gu cl R C fi br li he dn ea lo Ch ct rf n cap fY fM fE fLE fC fG fL) : WI (tn + 1) sc pa gu cl R C fi br li he dn ea lo Ch ct rf n cap fY fM fE fLE fC fG fL := by
  obtain ⟨h1, h2, h3, h4, h5, r, h6, h7⟩ := h
  exact ⟨h1, h2, h3, h4, h5, r, Nat.le_succ_of_le h6, h7⟩
theorem PA_ite {tn R C : Nat} {T : Nat → Int32} {p : Prop} [Decidable p] {a b : TA} (h1 : p → PA tn R C T a) (h2 : ¬ p → PA tn R C T b) : PA tn R C T (if p then a else b) := by
  by_cases h : p
  · rw [if_pos h]; exact h1 h
  · rw [if_neg h]; exact h2 h
set_option maxHeartbeats 4000000 in
theorem act_PA {sc : Nat} {pa : Int32} {gu : Int32} {cl : Int32} {se : Int32} {rf : Int32} {R : Nat} {C : Nat} {fi : Int32} {di : Int32} {br : Int32} {li : Int32} {he : Int32} {lu : Int32} {dn : Int32} {ea : Int32} {lo : Int32} {Ch : Nat} {ct : Int32} {ml : Int32} {n : Nat} {cap : Nat} {fY : Nat → Int32} {fB : Nat → Int32} {fS : Nat → Int32} {fN : Nat → Int32} {fM : Nat → Int32} {fCn : Nat → Int32} {fE : Nat → Int32} {fLE : Nat → Int32} {fC : Nat → Int32} {fG : Nat → Int32} {fI : Nat → Int32} {fK : Nat → Int32} {fL : Nat → Int32} {fQ : Nat → Int32} {x1 : Int32} {wh : Nat} {tn : Nat} (h : WI tn sc pa gu cl R C fi br li he dn ea lo Ch ct rf n cap fY fM fE fLE fC fG fL) (ht : tn < 100) : PA (tn + 1) R C (T_now sc pa gu rf R C (R * C) fi di br li lu ea lo Ch ct fG) (F_L_act sc pa gu cl se rf R C fi di br li he lu dn ea lo Ch ct ml n cap fY fB fS fN fM fCn fE fLE fC fG fI fK fL fQ x1 wh) := by
  have hpa : (if (F_L_below (x1 >>> ((5 : Int32) &&& 31)) 2) = 0 then (1 : Int32) else (0 : Int32)) = 0 ∨ (if (F_L_below (x1 >>> ((5 : Int32) &&& 31)) 2) = 0 then (1 : Int32) else (0 : Int32)) = 1 := by split <;> first | exact Or.inl rfl | exact Or.inr rfl
  unfold F_L_act
  refine PA_ite (fun _ => PA_ite (fun _ => PA_ite (fun _ => ?k1) (fun _ => ?o1)) (fun _ => PA_ite (fun _ => ?k2) (fun _ => ?o2))) (fun _ => ?_)
  case k1 => exact ⟨Or.inl rfl, WI_up (WI_key h), Or.inl rfl, (now_mono (Nat.le_refl _) h.2.1.2.1 (i32_rf _) (i32_rf _) (i32_rf _) (i32_rf _))⟩
  case k2 => exact ⟨Or.inl rfl, WI_up (WI_key h), Or.inl rfl, (now_mono (Nat.le_refl _) h.2.1.2.1 (i32_rf _) (i32_rf _) (i32_rf _) (i32_rf _))⟩
  case o1 => exact ⟨Or.inl rfl, WI_up h, Or.inl rfl, (now_mono (Nat.le_refl _) h.2.1.2.1 (i32_rf _) (i32_rf _) (i32_rf _) (i32_rf _))⟩
  case o2 => exact ⟨Or.inl rfl, WI_up h, Or.inl rfl, (now_mono (Nat.le_refl _) h.2.1.2.1 (i32_rf _) (i32_rf _) (i32_rf _) (i32_rf _))⟩
  refine PA_ite (fun _ => PA_ite (fun _ => ?g_line) (fun _ => ?h_line)) (fun _ => ?_)
  case g_line => exact ⟨Or.inl rfl, WI_up (WI_line h), Or.inl rfl, (now_mono (Nat.le_refl _) h.2.1.2.1 (i32_rf _) (i32_rf _) (i32_rf _) (i32_rf _))⟩
  case h_line => exact ⟨Or.inl rfl, WI_up h, Or.inl rfl, (now_mono (Nat.le_refl _) h.2.1.2.1 (i32_rf _) (i32_rf _) (i32_rf _) (i32_rf _))⟩
  refine PA_ite (fun _ => PA_ite (fun _ => ?g_patience) (fun _ => ?h_patience)) (fun _ => ?_)
  case g_patience => exact ⟨Or.inl rfl, WI_up (WI_patience hpa h), Or.inl rfl, (now_mono (Nat.le_refl _) h.2.1.2.1 (i32_rf _) (i32_rf _) (i32_rf _) (i32_rf _))⟩
  case h_patience => exact ⟨Or.inl rfl, WI_up h, Or.inl rfl, (now_mono (Nat.le_refl _) h.2.1.2.1 (i32_rf _) (i32_rf _) (i32_rf _) (i32_rf _))⟩
  refine PA_ite (fun _ => PA_ite (fun _ => ?g_code) (fun _ => ?h_code)) (fun _ => ?_)
  case g_code => exact ⟨Or.inl rfl, WI_up (WI_code h), Or.inl rfl, (now_mono (Nat.le_refl _) h.2.1.2.1 (i32_rf _) (i32_rf _) (i32_rf _) (i32_rf _))⟩
  case h_code => exact ⟨Or.inl rfl, WI_up h, Or.inl rfl, (now_mono (Nat.le_refl _) h.2.1.2.1 (i32_rf _) (i32_rf _) (i32_rf _) (i32_rf _))⟩
  refine PA_ite (fun _ => PA_ite (fun _ => ?g_chord) (fun _ => ?h_chord)) (fun _ => ?_)
  case g_chord => exact ⟨Or.inl rfl, WI_up (WI_chord h), Or.inl rfl, (now_mono (Nat.le_refl _) h.2.1.2.1 (i32_rf _) (i32_rf _) (i32_rf _) (i32_rf _))⟩
  case h_chord => exact ⟨Or.inl rfl, WI_up h, Or.inl rfl, (now_mono (Nat.le_refl _) h.2.1.2.1 (i32_rf _) (i32_rf _) (i32_rf _) (i32_rf _))⟩
  refine PA_ite (fun _ => ?_) (fun _ => ?_)
  · obtain ⟨r, r1, r2⟩ := h.2.2.2.2.2
    exact ⟨Or.inl rfl, WI_call h, Or.inl rfl, now_mono (Nat.le_refl _) h.2.1.2.1 (i32_rf _) (i32_rf _) (i32_rf _) (grow_of (b := 100) (d := 1) r2 (by omega) rfl (by decide))⟩
  refine PA_ite (fun _ => PA_ite (fun _ => ?g_hold6) (fun _ => ?h_hold6)) (fun _ => ?_)
  case g_hold6 => exact ⟨Or.inl rfl, WI_up (WI_hold h), Or.inl rfl, (now_mono (Nat.le_refl _) h.2.1.2.1 (i32_rf _) (i32_rf _) (i32_rf _) (i32_rf _))⟩
  case h_hold6 => exact ⟨Or.inl rfl, WI_up h, Or.inl rfl, (now_mono (Nat.le_refl _) h.2.1.2.1 (i32_rf _) (i32_rf _) (i32_rf _) (i32_rf _))⟩
  refine PA_ite (fun _ => PA_ite (fun _ => ?g_hold7) (fun _ => ?h_hold7)) (fun _ => ?_)
  case g_hold7 => exact ⟨Or.inl rfl, WI_up (WI_hold h), Or.inl rfl, (now_mono (Nat.le_refl _) h.2.1.2.1 (i32_rf _) (i32_rf _) (i32_rf _) (i32_rf _))⟩
  case h_hold7 => exact ⟨Or.inl rfl, WI_up h, Or.inl rfl, (now_mono (Nat.le_refl _) h.2.1.2.1 (i32_rf _) (i32_rf _) (i32_rf _) (i32_rf _))⟩
  refine PA_ite (fun e0 => ?_) (fun _ => ⟨Or.inl rfl, WI_up h, Or.inl rfl, (now_mono (Nat.le_refl _) h.2.1.2.1 (i32_rf _) (i32_rf _) (i32_rf _) (i32_rf _))⟩)
  have hs := (WI_scan (se := se) (di := di) (lu := lu) (ml := ml) (fS := fS) (fN := fN) (fCn := fCn) (fI := fI) (fK := fK) (fQ := fQ) (x1 := 1 + (F_L_below (x1 >>> ((3 : Int32) &&& 31)) 12)) h).resolve_left (fun q => q.1 e0)
  obtain ⟨d0, d1, d2⟩ := scan_ea (sc := sc) (pa := pa) (gu := gu) (cl := cl) (se := se) (R := R) (C := C) (fi := fi) (di := di) (li := li) (he := he) (lu := lu) (dn := dn) (ea := ea) (lo := lo) (Ch := Ch) (ct := ct) (ml := ml) (n := n) (cap := cap) (fY := fY) (fS := fS) (fN := fN) (fCn := fCn) (fE := fE) (fLE := fLE) (fC := fC) (fG := fG) (fI := fI) (fK := fK) (fL := fL) (fQ := fQ) (x1 := 1 + (F_L_below (x1 >>> ((3 : Int32) &&& 31)) 12)) (Nat.mul_le_mul h.1.1 h.1.2.1 : R * C ≤ 25)
  obtain ⟨w1, w2, w3, ⟨l, l1, l2⟩, c, c1, c2⟩ := hs
  obtain ⟨ea1, ea2, ea3⟩ := EVI_ea h.2.1.2.2.1
  obtain ⟨lo1, lo2, lo3⟩ := h.2.2.2.1
  obtain ⟨ct1, ct2, ct3⟩ := h.2.2.2.2.1
  have hsc := h.2.1.2.1
  have hea : ea1 ≤ 25 * 2000 := Nat.le_trans ea2 (Nat.mul_le_mul (Nat.mul_le_mul h.1.1 h.1.2.1) hsc)
  have hsc2 := w1.2.1.2.1
  exact ⟨Or.inr rfl, WI_up w1, Or.inr w2, now_mono w3 hsc2 (grow_of (b := 25 * 2000) (d := d0) ea3 hea d2 (by omega)) (grow_of (b := 6 * 2000) (d := c) ct3 (by omega) c2 (by omega)) (grow_of (b := 31 * 2000) (d := l) lo3 (by omega) l2 (by omega)) (i32_rf _)⟩
