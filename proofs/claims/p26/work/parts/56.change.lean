/-- what a key's change or wait leaves -/
def CW (K : Nat) (b : Nat → Nat) (s : Nat) (pa : Int32) (k : Nat) (fCn : Nat → Int32) (lo : Int32) (X : (Nat → Int32) × (Nat → Int32) × (Nat → Int32) × Int32 × Int32 × (Nat → Int32) × (Nat → Int32) × Int32 × Int32 × Nat × Nat × (Nat → Int32)) : Prop :=
  EVI K (fun j => if j = k then b j + 1 else b j) s X.2.1 X.2.2.2.1 X.2.2.2.2.1 X.2.2.2.2.2.1 X.2.2.1 ∧ X.1 k ≤ pa ∧ (∀ j, j ≠ k → X.1 j = fCn j) ∧ (X.2.2.2.2.2.2.2.1 = lo ∨ X.2.2.2.2.2.2.2.1 = lo + 1)
theorem cow {sc : Nat} {pa gu se : Int32} {R C K : Nat} {fi di li dn ea lo ml : Int32} {n cap : Nat} {fY fCn fE fLE fC fG fI : Nat → Int32} {k : Nat} {b : Nat → Nat} (hK : K ≤ 25) (hk : k < K) (hpa : 0 ≤ pa) (hcd : ∀ j, j < 75 → ∃ c : Nat, c ≤ 31 ∧ fC j = nI c) (h : EVI K b sc fE dn ea fG fLE) :
    CW K b sc pa k fCn lo (F_X4_changeOrWait sc pa gu se R C fi di li dn ea lo ml n cap fY fCn fE fLE fC fG fI k) := by
  have hz : upd fCn k 0 k ≤ pa := by rw [upd, if_pos rfl]; exact hpa
  have hp : upd fCn k pa k ≤ pa := by rw [upd, if_pos rfl]; exact Int32.le_refl _
  have ho : ∀ v j, j ≠ k → upd fCn k v j = fCn j := fun v j hj => by rw [upd, if_neg hj]
  have hcode := press_code (fG := fG) (show k < 25 by omega) hcd
  unfold F_X4_changeOrWait F_X2_change
  by_cases h1 : F_X4_holds dn (nI k) = 0
  · have hb := (holds_iff (by omega)).mp h1
    have hE := EVI_change (v := T_X1_press_14 fC fG k) hK hk h ⟨fun q => absurd q hcode, fun q => by rw [hb] at q; cases q⟩
    have hpress : CW K b sc pa k fCn lo (upd fCn k 0, upd fE k (fE k + 1), upd fLE k (nI sc), dn ^^^ ((1 : Int32) <<< (nI k &&& 31)), ea + 1, (F_X1_press lo fC fG fI ml n cap fY k (nI sc)).1, (F_X1_press lo fC fG fI ml n cap fY k (nI sc)).2.1, (F_X1_press lo fC fG fI ml n cap fY k (nI sc)).2.2.1, (F_X1_press lo fC fG fI ml n cap fY k (nI sc)).2.2.2.1, ((F_X1_press lo fC fG fI ml n cap fY k (nI sc)).2.2.2.2.1), ((F_X1_press lo fC fG fI ml n cap fY k (nI sc)).2.2.2.2.2.1), (F_X1_press lo fC fG fI ml n cap fY k (nI sc)).2.2.2.2.2.2) := by
      have hg := press_got (lo := lo) (fC := fC) (fG := fG) (fI := fI) (ml := ml) (n := n) (cap := cap) (fY := fY) (k := k) (x2 := nI sc)
      refine ⟨?_, hz, ho 0, hg.2⟩
      show EVI K _ sc (upd fE k (fE k + 1)) _ (ea + 1) (F_X1_press lo fC fG fI ml n cap fY k (nI sc)).1 _
      rw [hg.1]
      exact hE
    rw [if_pos h1]
    by_cases h2 : gu = 0
    · rw [if_pos h2]; exact hpress
    · rw [if_neg h2]
      by_cases h3 : F_X4_couldBeGhost se R C fi di li k = 0
      · rw [if_pos h3]; exact hpress
      · rw [if_neg h3]
        refine ⟨EVI_le h (fun j _ => ?_) (Nat.le_refl _), hp, ho pa, Or.inl rfl⟩
        by_cases hj : j = k
        · rw [if_pos hj]; omega
        · rw [if_neg hj]; exact Nat.le_refl _
  · rw [if_neg h1]
    have hb := (holds_1 (by omega)).mp h1
    exact ⟨EVI_change hK hk h ⟨fun _ => hb, fun _ => rfl⟩, hz, ho 0, Or.inl rfl⟩
/-- a scan's step at a key -/
theorem due {pa dn : Int32} {fCn : Nat → Int32} {k : Nat} {x2 : Int32} : (∀ j, j ≠ k → (F_X2_isDue fCn dn k x2 pa).2 j = fCn j) ∧ ((F_X2_isDue fCn dn k x2 pa).1 = 0 → (0 ≤ pa) → (F_X2_isDue fCn dn k x2 pa).2 k ≤ pa) := by
  unfold F_X2_isDue
  by_cases h : x2 = F_X4_holds dn (nI k)
  · rw [if_pos h]
    refine ⟨fun j hj => by show upd fCn k 0 j = _; rw [upd, if_neg hj], fun _ hp => ?_⟩
    show upd fCn k 0 k ≤ pa
    rw [upd, if_pos rfl]; exact hp
  · rw [if_neg h]
    by_cases h2 : (upd fCn k (fCn k + 1)) k < pa
    · rw [if_pos h2]
      exact ⟨fun j hj => by show upd fCn k (fCn k + 1) j = _; rw [upd, if_neg hj], fun _ _ => Int32.le_of_lt h2⟩
    · rw [if_neg h2]
      exact ⟨fun j hj => by show upd fCn k (fCn k + 1) j = _; rw [upd, if_neg hj], fun q => absurd q (show ¬ (1 : Int32) = 0 by decide)⟩
