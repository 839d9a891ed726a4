theorem alw51 {sc : Nat} {pa : Int32} {gu : Int32} {cl : Int32} {se : Int32} {rf : Int32} {R : Nat} {C : Nat} {fi : Int32} {di : Int32} {br : Int32} {li : Int32} {he : Int32} {lu : Int32} {dn : Int32} {ea : Int32} {lo : Int32} {Ch : Nat} {ct : Int32} {n : Nat} {fB : Nat → Int32} {fS : Nat → Int32} {fN : Nat → Int32} {fM : Nat → Int32} {fCn : Nat → Int32} {fE : Nat → Int32} {fLE : Nat → Int32} {fG : Nat → Int32} {x3 : Int32} (hR : R ≤ 5) (hC : C ≤ 5) (hI : IA sc cl R C fi br li he dn ea n fM fE fLE fG) (hA : x3 = 0 ∨ AS pa cl se R C fi di li fCn) : ∀ (q i : Nat) (f : Nat → Int32), i + q = 5 → (∀ j, i ≤ j → j < 5 → f j ≤ (T_now sc pa gu rf R C (R * C) fi di br li lu ea lo Ch ct fG) j) → (∀ j, j < i → f j = (T_now sc pa gu rf R C (R * C) fi di br li lu ea lo Ch ct fG) j) → (L_L_isAlways_51 sc pa gu cl se rf R C (R * C) fi di br li he lu dn ea lo Ch ct n fB fS fN fM fCn fE fLE fG x3 q i f).1 = 1 ∧ ∀ j, j < 5 → (L_L_isAlways_51 sc pa gu cl se rf R C (R * C) fi di br li he lu dn ea lo Ch ct n fB fS fN fM fCn fE fLE fG x3 q i f).2 j = (T_now sc pa gu rf R C (R * C) fi di br li lu ea lo Ch ct fG) j := by
  obtain ⟨e, hev⟩ := hI.ev
  intro q
  induction q with
  | zero =>
    intro i f hi _ h2
    rw [L_L_isAlways_51, alw92 hR hC hI hA hev (R * C) 0 0 (by omega) rfl]
    exact ⟨rfl, fun j hj => h2 j (by omega)⟩
  | succ q ih =>
    intro i f hi h1 h2
    rw [L_L_isAlways_51, if_pos (h1 i (Nat.le_refl i) (by omega))]
    refine ih (i + 1) _ (by omega) (fun j hj hj2 => ?_) (fun j hj => ?_)
    · rw [upd, if_neg (by omega)]; exact h1 j (by omega) hj2
    · rcases Nat.lt_succ_iff_lt_or_eq.mp hj with g | g
      · rw [upd, if_neg (by omega)]; exact h2 j g
      · rw [upd, if_pos g, g]
/-- isAlways answers true -/
theorem always_1 {sc : Nat} {pa : Int32} {gu : Int32} {cl : Int32} {se : Int32} {rf : Int32} {R : Nat} {C : Nat} {fi : Int32} {di : Int32} {br : Int32} {li : Int32} {he : Int32} {lu : Int32} {dn : Int32} {ea : Int32} {lo : Int32} {Ch : Nat} {ct : Int32} {n : Nat} {fB : Nat → Int32} {fS : Nat → Int32} {fN : Nat → Int32} {fM : Nat → Int32} {fCn : Nat → Int32} {fE : Nat → Int32} {fLE : Nat → Int32} {fG : Nat → Int32} {fW : Nat → Int32} {x3 : Int32} (hR : R ≤ 5) (hC : C ≤ 5) (hI : IA sc cl R C fi br li he dn ea n fM fE fLE fG) (hA : x3 = 0 ∨ AS pa cl se R C fi di li fCn) (h : ∀ j, j < 5 → fW j ≤ (T_now sc pa gu rf R C (R * C) fi di br li lu ea lo Ch ct fG) j) : (F_L_isAlways sc pa gu cl se rf R C (R * C) fi di br li he lu dn ea lo Ch ct n fB fS fN fM fCn fE fLE fG fW x3).1 = 1 ∧ ∀ j, j < 5 → (F_L_isAlways sc pa gu cl se rf R C (R * C) fi di br li he lu dn ea lo Ch ct n fB fS fN fM fCn fE fLE fG fW x3).2 j = (T_now sc pa gu rf R C (R * C) fi di br li lu ea lo Ch ct fG) j :=
  alw51 hR hC hI hA 5 0 fW (by omega) (fun j _ hj => h j hj) (fun j hj => absurd hj (Nat.not_lt_zero _))
