/-- a row's own columns -/
abbrev bas (C : Nat) (f : Int32) (r : Nat) (j : Nat) : Prop := j < C ∧ bt f (r * C + j) = true
/-- a column that is reached has a first step at which it is -/
theorem Rch_first {R C : Nat} {f b : Int32} {a : Nat → Prop} {j : Nat} : ∀ n, Rch R C f b a n j → ¬ a j → ∃ m, m < n ∧ Rch R C f b a (m + 1) j ∧ ¬ Rch R C f b a m j := by
  intro n
  induction n with
  | zero => intro h h2; exact absurd h h2
  | succ n ih =>
    intro h h2
    by_cases h3 : Rch R C f b a n j
    · obtain ⟨m, h4, h5⟩ := ih h3 h2
      exact ⟨m, by omega, h5⟩
    · exact ⟨n, by omega, h, h3⟩
/-- the rows that were come to before step n, the first one too -/
def Ent (R C : Nat) (f b : Int32) (r0 n r : Nat) : Prop := r = r0 ∨ ∃ m, m < n ∧ r < R ∧ ∃ c, c < C ∧ bt b (r * C + c) = true ∧ Rch R C f b (bas C f r0) m c
theorem Ent_le {R C : Nat} {f b : Int32} {r0 n m r : Nat} (h : n ≤ m) (h1 : Ent R C f b r0 n r) : Ent R C f b r0 m r := by
  rcases h1 with h1 | ⟨i, h2, h3⟩
  · exact Or.inl h1
  · exact Or.inr ⟨i, by omega, h3⟩
theorem Ent_reach {R C : Nat} {f b : Int32} {r0 n r j : Nat} (h : Ent R C f b r0 n r) (hj : j < C) (hf : bt f (r * C + j) = true) : Rch R C f b (bas C f r0) n j := by
  rcases h with h1 | ⟨i, h2, h3, h4⟩
  · subst h1; exact Rch_le (Nat.zero_le n) (show Rch R C f b (bas C f r) 0 j from ⟨hj, hf⟩)
  · exact Rch_le (by omega : i + 1 ≤ n) (Or.inr ⟨r, h3, h4, hj, hf⟩)
/-- the shortest way: 2n+1 keys on n+1 rows, and they are way enough -/
theorem way {R C : Nat} {f b : Int32} {r0 : Nat} (hr0 : r0 < R) (hbf : ∀ j, bt b j = true → bt f j = true) : ∀ n c, Rch R C f b (bas C f r0) n c → (∀ m, m < n → ¬ Rch R C f b (bas C f r0) m c) →
    ∃ (L : List (Nat × Nat)) (rs : List Nat), L.Nodup ∧ L.length = 2 * n + 1 ∧ rs.Nodup ∧ rs.length = n + 1 ∧ (∀ r ∈ rs, r < R ∧ Ent R C f b r0 n r) ∧
      (∀ p ∈ L, p.1 < R ∧ p.2 < C ∧ bt f (p.1 * C + p.2) = true ∧ Ent R C f b r0 n p.1) ∧ (∃ c0, (r0, c0) ∈ L) ∧ (∃ r1, (r1, c) ∈ L) ∧
      (∀ f' b' : Int32, (∀ p ∈ L, bt f' (p.1 * C + p.2) = true) → (∀ p ∈ L, bt b (p.1 * C + p.2) = true → bt b' (p.1 * C + p.2) = true) → Rch R C f' b' (bas C f' r0) n c) := by
  intro n
  induction n with
  | zero =>
    intro c h _
    have h' : bas C f r0 c := h
    refine ⟨[(r0, c)], [r0], by simp, rfl, by simp, rfl, ?_, ?_, ⟨c, by simp⟩, ⟨r0, by simp⟩, ?_⟩
    · intro r hr
      rw [List.mem_singleton.mp hr]
      exact ⟨hr0, Or.inl rfl⟩
    · intro p hp
      rw [List.mem_singleton.mp hp]
      exact ⟨hr0, h'.1, h'.2, Or.inl rfl⟩
    · intro f' b' hf _
      exact ⟨h'.1, hf (r0, c) (by simp)⟩
  | succ n ih =>
    intro c h hno
    have hn := hno n (by omega)
    rcases h with h | ⟨r, hr, ⟨e, he, hb, h1⟩, hc, hf⟩
    · exact absurd h hn
    · have hent : ¬ Ent R C f b r0 n r := fun q => hn (Ent_reach q hc hf)
      have hene : Ent R C f b r0 (n + 1) r := Or.inr ⟨n, by omega, hr, e, he, hb, h1⟩
      have hfirst : ∀ m, m < n → ¬ Rch R C f b (bas C f r0) m e := fun m hm q => hent (Or.inr ⟨m, hm, hr, e, he, hb, q⟩)
      obtain ⟨L, rs, hL, hLl, hrs, hrl, hR2, hp, ⟨c0, hc0⟩, ⟨r1, hr1⟩, hway⟩ := ih e h1 hfirst
      have hce : c ≠ e := fun q => hn (by rw [q]; exact h1)
      have hnew : ∀ j, (r, j) ∉ L := fun j q => hent (hp _ q).2.2.2
      refine ⟨(r, c) :: (r, e) :: L, r :: rs, ?_, ?_, ?_, ?_, ?_, ?_, ⟨c0, by simp [hc0]⟩, ⟨r, by simp⟩, ?_⟩
      · rw [List.nodup_cons, List.nodup_cons]
        refine ⟨?_, hnew e, hL⟩
        rw [List.mem_cons]
        rintro (q | q)
        · exact hce (by injection q)
        · exact hnew c q
      · simp only [List.length_cons, hLl]; omega
      · rw [List.nodup_cons]
        exact ⟨fun q => hent (hR2 r q).2, hrs⟩
      · simp only [List.length_cons, hrl]
      · intro q hq
        rcases List.mem_cons.mp hq with h2 | h2
        · rw [h2]; exact ⟨hr, hene⟩
        · exact ⟨(hR2 q h2).1, Ent_le (by omega) (hR2 q h2).2⟩
      · intro p hq
        rcases List.mem_cons.mp hq with h2 | h2
        · rw [h2]; exact ⟨hr, hc, hf, hene⟩
        · rcases List.mem_cons.mp h2 with h3 | h3
          · rw [h3]; exact ⟨hr, he, hbf _ hb, hene⟩
          · obtain ⟨g1, g2, g3, g4⟩ := hp p h3
            exact ⟨g1, g2, g3, Ent_le (by omega) g4⟩
      · intro f' b' hf' hb'
        have h2 := hway f' b' (fun p hq => hf' p (List.mem_cons_of_mem _ (List.mem_cons_of_mem _ hq))) (fun p hq => hb' p (List.mem_cons_of_mem _ (List.mem_cons_of_mem _ hq)))
        exact Or.inr ⟨r, hr, ⟨e, he, hb' (r, e) (by simp) hb, h2⟩, hc, hf' (r, c) (by simp)⟩
/-- different numbers below n are no more than n -/
theorem pigeon : ∀ (n : Nat) (l : List Nat), l.Nodup → (∀ x ∈ l, x < n) → l.length ≤ n := by
  intro n
  induction n with
  | zero =>
    intro l _ h
    cases l with
    | nil => exact Nat.le_refl _
    | cons x l => exact absurd (h x (by simp)) (Nat.not_lt_zero _)
  | succ n ih =>
    intro l hl h
    have h1 := ih (l.erase n) (hl.erase n) (fun x hx => by
      have h2 := h x (List.mem_of_mem_erase hx)
      have h3 : x ≠ n := fun e => by rw [e] at hx; exact (List.Nodup.not_mem_erase hl) hx
      omega)
    have h4 := List.length_erase (a := n) (l := l)
    by_cases hn : n ∈ l
    · rw [if_pos hn] at h4; omega
    · rw [if_neg hn] at h4; omega
/-- rows less one are steps enough -/
theorem way_lt {R C : Nat} {f b : Int32} {r0 : Nat} (hr0 : r0 < R) (hbf : ∀ j, bt b j = true → bt f j = true) {n c : Nat} (h : Rch R C f b (bas C f r0) (n + 1) c) (h2 : ¬ Rch R C f b (bas C f r0) n c) : n + 2 ≤ R := by
  obtain ⟨L, rs, -, -, h3, h4, h5, -⟩ := way hr0 hbf (n + 1) c h (fun m hm q => h2 (Rch_le (by omega) q))
  have h6 := pigeon R rs h3 (fun r hr => (h5 r hr).1)
  omega
