/-! worlds as rows of blocks: a block is a cell, or the cells of a pool -/
theorem vaP_mem {D : va_G} {cl : List vw_C} {ws : va_W} {H : Heap} : va_P D cl ws H ↔ ∀ q ∈ ws, va_at D cl q H :=
  ⟨fun h q hq => by obtain ⟨k, hk⟩ := List.getElem?_of_mem hq; exact h k q hk, fun h _ q hk => h q (List.mem_of_getElem? hk)⟩
/-- two cells of one world lie apart -/
abbrev apart2 : Nat × va_E → Nat × va_E → Prop := fun p q => p.1 ≠ q.1
theorem vaD_mem {A : Nat → Prop} {ws : va_W} : va_D A ws ↔ ws.Pairwise apart2 ∧ ∀ q ∈ ws, A q.1 := by
  constructor
  · intro h
    refine ⟨List.pairwise_iff_getElem.mpr (fun i j hi hj hij e => ?_), fun q hq => ?_⟩
    · have := h.1 i j _ _ (List.getElem?_eq_getElem hi) (List.getElem?_eq_getElem hj) e
      omega
    · obtain ⟨k, hk⟩ := List.getElem?_of_mem hq
      exact h.2 k q hk
  · rintro ⟨h1, h2⟩
    refine ⟨fun i j p q hp hq e => ?_, fun k q hk => h2 q (List.mem_of_getElem? hk)⟩
    have h3 := List.pairwise_iff_getElem.mp h1
    obtain ⟨hi, rfl⟩ := List.getElem?_eq_some_iff.mp hp
    obtain ⟨hj, rfl⟩ := List.getElem?_eq_some_iff.mp hq
    rcases Nat.lt_trichotomy i j with h | h | h
    · exact absurd e (h3 i j hi hj h)
    · exact h
    · exact absurd e.symm (h3 j i hj hi h)
/-- what a row of places picks -/
theorem pick_of {bs cs : List va_W} {is : List Nat} (hs : is.map (fun i => bs[i]?) = cs.map some) {k : Nat} {c : va_W} (h : cs[k]? = some c) : ∃ i, is[k]? = some i ∧ bs[i]? = some c := by
  have h1 : (is.map (fun i => bs[i]?))[k]? = some (some c) := by rw [hs, List.getElem?_map, h]; rfl
  rw [List.getElem?_map] at h1
  cases hi : is[k]? with
  | none => rw [hi] at h1; cases h1
  | some i => rw [hi] at h1; exact ⟨i, rfl, Option.some.inj h1⟩
theorem wb_P {D : va_G} {cl : List vw_C} {bs cs : List va_W} {H : Heap} (is : List Nat) (hs : is.map (fun i => bs[i]?) = cs.map some) (h : va_P D cl bs.flatten H) : va_P D cl cs.flatten H := by
  rw [vaP_mem] at h ⊢
  intro q hq
  obtain ⟨c, hc, hq⟩ := List.mem_flatten.mp hq
  obtain ⟨k, hk⟩ := List.getElem?_of_mem hc
  obtain ⟨i, h1, h2⟩ := pick_of hs hk
  exact h q (List.mem_flatten.mpr ⟨c, List.mem_of_getElem? h2, hq⟩)
theorem wb_D {A : Nat → Prop} {bs cs : List va_W} (is : List Nat) (hn : va_nd is = true) (hs : is.map (fun i => bs[i]?) = cs.map some) (h : va_D A bs.flatten) : va_D A cs.flatten := by
  rw [vaD_mem] at h ⊢
  obtain ⟨h1, h2⟩ := h
  rw [List.pairwise_flatten] at h1 ⊢
  have hmem : ∀ c ∈ cs, c ∈ bs := fun c hc => by
    obtain ⟨k, hk⟩ := List.getElem?_of_mem hc
    obtain ⟨i, e1, e2⟩ := pick_of hs hk
    exact List.mem_of_getElem? e2
  refine ⟨⟨fun c hc => h1.1 c (hmem c hc), List.pairwise_iff_getElem.mpr (fun i j hi hj hij => ?_)⟩, fun q hq => ?_⟩
  · obtain ⟨a, a1, a2⟩ := pick_of hs (List.getElem?_eq_getElem hi)
    obtain ⟨b, b1, b2⟩ := pick_of hs (List.getElem?_eq_getElem hj)
    have hab : a ≠ b := by
      intro e
      subst e
      have := va_nd_inj is hn i j a a1 b1
      omega
    obtain ⟨la, ea⟩ := List.getElem?_eq_some_iff.mp a2
    obtain ⟨lb, eb⟩ := List.getElem?_eq_some_iff.mp b2
    rw [← ea, ← eb]
    have h3 := List.pairwise_iff_getElem.mp h1.2
    rcases Nat.lt_or_ge a b with h | h
    · exact h3 a b la lb h
    · intro x hx y hy e
      exact h3 b a lb la (by omega) y hy x hx e.symm
  · obtain ⟨c, hc, hq⟩ := List.mem_flatten.mp hq
    exact h2 q (List.mem_flatten.mpr ⟨c, hmem c hc, hq⟩)
theorem vaA_mem {ws : va_W} {sz q : Nat} : va_A ws sz q ↔ (∃ e, (q, e) ∈ ws) ∨ sz ≤ q := by
  constructor
  · rintro (⟨k, e, h⟩ | h)
    · exact Or.inl ⟨e, List.mem_of_getElem? h⟩
    · exact Or.inr h
  · rintro (⟨e, h⟩ | h)
    · obtain ⟨k, hk⟩ := List.getElem?_of_mem h
      exact Or.inl ⟨k, e, hk⟩
    · exact Or.inr h
theorem wb_free {A : Nat → Prop} {bs cs : List va_W} {H0 H : Heap} {locs : List Loc} (hD : va_D A bs.flatten) (hS : va_S A H0 H locs) (hA : ∀ q, H0.size ≤ q → A q) (is : List Nat) (hs : is.map (fun i => bs[i]?) = cs.map some) : ∀ q, va_A cs.flatten H.size q → A q := by
  intro q h
  rcases vaA_mem.mp h with ⟨e, h⟩ | h
  · obtain ⟨c, hc, hq⟩ := List.mem_flatten.mp h
    obtain ⟨k, hk⟩ := List.getElem?_of_mem hc
    obtain ⟨i, e1, e2⟩ := pick_of hs hk
    exact (vaD_mem.mp hD).2 _ (List.mem_flatten.mpr ⟨c, List.mem_of_getElem? e2, hq⟩)
  · exact hA q (Nat.le_trans hS.1 h)
theorem wb_join {A0 : Nat → Prop} {D : va_G} {cl : List vw_C} {bs cs rs ns : List va_W} {H H1 : Heap} (hP : va_P D cl bs.flatten H) (hD : va_D A0 bs.flatten) (isC isR : List Nat) (hC : isC.map (fun i => bs[i]?) = cs.map some) (hR : isR.map (fun i => bs[i]?) = rs.map some) (hn : va_nd isR = true) (hdis : ∀ i ∈ isR, i ∉ isC)
    (hk : ∀ q : Nat, q < H.size → ¬ va_A cs.flatten H.size q → H1[q]? = H[q]?) (hF : ∀ q, va_A cs.flatten H.size q → A0 q) (hP1 : va_P D cl ns.flatten H1) (hD1 : va_D (va_A cs.flatten H.size) ns.flatten) : va_P D cl (rs ++ ns).flatten H1 ∧ va_D A0 (rs ++ ns).flatten := by
  have hDm := vaD_mem.mp hD
  have hb := List.pairwise_flatten.mp hDm.1
  have h3 := List.pairwise_iff_getElem.mp hb.2
  have apart : ∀ q ∈ rs.flatten, q.1 < H.size ∧ ¬ va_A cs.flatten H.size q.1 := by
    intro q hq
    obtain ⟨r, hr, hqr⟩ := List.mem_flatten.mp hq
    obtain ⟨k, hk⟩ := List.getElem?_of_mem hr
    obtain ⟨i, e1, e2⟩ := pick_of hR hk
    have hl : q.1 < H.size := (vaP_mem.mp hP q (List.mem_flatten.mpr ⟨r, List.mem_of_getElem? e2, hqr⟩)).lt
    refine ⟨hl, fun h => ?_⟩
    rcases vaA_mem.mp h with ⟨e, h⟩ | h
    · obtain ⟨c, hc, hqc⟩ := List.mem_flatten.mp h
      obtain ⟨k2, hk2⟩ := List.getElem?_of_mem hc
      obtain ⟨j, f1, f2⟩ := pick_of hC hk2
      have hij : i ≠ j := fun e9 => hdis i (List.mem_of_getElem? e1) (e9 ▸ List.mem_of_getElem? f1)
      obtain ⟨la, ea⟩ := List.getElem?_eq_some_iff.mp e2
      obtain ⟨lb, eb⟩ := List.getElem?_eq_some_iff.mp f2
      rcases Nat.lt_or_ge i j with g | g
      · exact h3 i j la lb g q (ea ▸ hqr) (q.1, e) (eb ▸ hqc) rfl
      · exact h3 j i lb la (by omega) (q.1, e) (eb ▸ hqc) q (ea ▸ hqr) rfl
    · omega
  rw [List.flatten_append]
  constructor
  · rw [vaP_mem]
    intro q hq
    rcases List.mem_append.mp hq with h | h
    · obtain ⟨r, hr, hqr⟩ := List.mem_flatten.mp h
      obtain ⟨k, hk9⟩ := List.getElem?_of_mem hr
      obtain ⟨i, e1, e2⟩ := pick_of hR hk9
      obtain ⟨g1, g2⟩ := apart q h
      exact (vaP_mem.mp hP q (List.mem_flatten.mpr ⟨r, List.mem_of_getElem? e2, hqr⟩)).kept (hk q.1 g1 g2)
    · exact vaP_mem.mp hP1 q h
  · have hDr := vaD_mem.mp (wb_D isR hn hR hD)
    have hDn := vaD_mem.mp hD1
    rw [vaD_mem]
    refine ⟨List.pairwise_append.mpr ⟨hDr.1, hDn.1, fun x hx y hy e => (apart x hx).2 (by rw [e]; exact hDn.2 y hy)⟩, fun q hq => ?_⟩
    rcases List.mem_append.mp hq with h | h
    · exact hDr.2 q h
    · exact hF _ (hDn.2 q h)
theorem wb_newP {D : va_G} {cl : List vw_C} {bs : List va_W} {x : Nat × va_E} {H : Heap} (h : va_P D cl (bs.flatten ++ [x]) H) : va_P D cl (bs ++ [[x]]).flatten H := by
  rw [List.flatten_append]; exact h
theorem wb_newD {A : Nat → Prop} {bs : List va_W} {x : Nat × va_E} (h : va_D A (bs.flatten ++ [x])) : va_D A (bs ++ [[x]]).flatten := by
  rw [List.flatten_append]; exact h
/-- worlds with the same cells in another order -/
theorem vaP_perm {D : va_G} {cl : List vw_C} {a b : va_W} {H : Heap} (hp : a.Perm b) (h : va_P D cl a H) : va_P D cl b H :=
  vaP_mem.mpr (fun q hq => vaP_mem.mp h q (hp.mem_iff.mpr hq))
theorem vaD_perm {A : Nat → Prop} {a b : va_W} (hp : a.Perm b) (h : va_D A a) : va_D A b := by
  rw [vaD_mem] at h ⊢
  exact ⟨(hp.pairwise_iff (fun {x y} e e2 => e e2.symm)).mp h.1, fun q hq => h.2 q (hp.mem_iff.mpr hq)⟩
theorem wb_perm {bs cs ds : List va_W} (hp : cs.flatten.Perm ds.flatten) : (bs ++ cs).flatten.Perm (bs ++ ds).flatten := by
  rw [List.flatten_append, List.flatten_append]; exact List.Perm.append_left _ hp
/-! the keys -/
abbrev KV : Type := (Int32 × Int32 × Int32) × (Int32 × Int32 × Int32) × (Nat → Int32) × (Nat × Nat × (Nat → Int32))
abbrev KZ : Type := Int32 × Nat × (Nat → Option Nat) × List Nat × (Nat → Int32)
def kbo (v : KV) : Int32 := v.1.1
def kst (v : KV) : Int32 := v.1.2.1
def kle (v : KV) : Int32 := v.1.2.2
def kco (v : KV) : Int32 := v.2.1.1
def kto (v : KV) : Int32 := v.2.1.2.1
def kgo (v : KV) : Int32 := v.2.1.2.2
def kcc (v : KV) : Nat → Int32 := v.2.2.1
def kne (v : KV) : Nat := v.2.2.2.1
def kcp (v : KV) : Nat := v.2.2.2.2.1
def kev (v : KV) : Nat → Int32 := v.2.2.2.2.2
def mkV (bo st le co to go : Int32) (cc : Nat → Int32) (ne cp : Nat) (ev : Nat → Int32) : KV := ((bo, st, le), (co, to, go), cc, (ne, cp, ev))
def zmd (z : KZ) : Int32 := z.1
def zed (z : KZ) : Nat := z.2.1
def zg (z : KZ) : Nat → Option Nat := z.2.2.1
def zlp (z : KZ) : List Nat := z.2.2.2.1
def zpv (z : KZ) : Nat → Int32 := z.2.2.2.2
def mkZ (md : Int32) (ed : Nat) (g : Nat → Option Nat) (LP : List Nat) (pv : Nat → Int32) : KZ := (md, ed, g, LP, pv)
/-- a list's array: none of its own while it is the empty one -/
def LD (D : va_G) (cp ed : Nat) (g : Nat → Option Nat) : va_W := if cp = 0 then [] else [(ed, .inl (D.1 102, cp, .inr (.inr (.inr (.inr g)))))]
/-- boxes: where, and what is in them (ev tells what the list's places hold: no cell) -/
def BX (ev : Nat → Int32) (LP : List Nat) (pv : Nat → Int32) : va_W := va_pl LP (fun a => .inr (2, [.int (pv a)]))
/-- the cells of one key -/
def kcl (D : va_G) (aK aC aE : Nat) (v : KV) (z : KZ) : va_W :=
  (aK, .inr (13, [.int (kbo v), .int (kst v), .int (kle v), .int (kco v), .int (kto v), .int (kgo v), .ref aC, .ref aE])) :: (aC, .inl (D.1 101, 3, .inl (kcc v))) :: (aE, .inr (6, [.int (zmd z), .ref (zed z), .int (nI (kne v))])) :: (LD D (kcp v) (zed z) (zg z) ++ (BX (kev v) (zlp z) (zpv z) ++ []))
def KP (D : va_G) (K : Nat) (aK aC aE : Nat → Nat) (V : Nat → KV) (Z : Nat → KZ) : va_W := (List.range K).flatMap (fun k => kcl D (aK k) (aC k) (aE k) (V k) (Z k))
def KR (D : va_G) (K : Nat) (aK aC aE : Nat → Nat) (V : Nat → KV) (Z : Nat → KZ) (j : Nat) : va_W := ((List.range K).erase j).flatMap (fun k => kcl D (aK k) (aC k) (aE k) (V k) (Z k))
theorem KP_open {D : va_G} {K : Nat} {aK aC aE : Nat → Nat} {V : Nat → KV} {Z : Nat → KZ} {j : Nat} (hj : j < K) : (KP D K aK aC aE V Z).Perm (kcl D (aK j) (aC j) (aE j) (V j) (Z j) ++ KR D K aK aC aE V Z j) := by
  have h := (List.perm_cons_erase (List.mem_range.mpr hj)).flatMap_right (fun k => kcl D (aK k) (aC k) (aE k) (V k) (Z k))
  exact h
theorem KR_up {D : va_G} {K : Nat} {aK aC aE : Nat → Nat} {V : Nat → KV} {Z : Nat → KZ} {j : Nat} {v : KV} {z : KZ} : KR D K aK aC aE (va_up V j v) (va_up Z j z) j = KR D K aK aC aE V Z j := by
  unfold KR
  rw [List.flatMap_def, List.flatMap_def]
  congr 1
  apply List.map_congr_left
  intro k hk
  have hne : k ≠ j := fun e => by
    subst e
    exact (List.nodup_range.not_mem_erase) hk
  rw [va_up_ne _ _ hne, va_up_ne _ _ hne]
theorem KP_close {D : va_G} {K : Nat} {aK aC aE : Nat → Nat} {V : Nat → KV} {Z : Nat → KZ} {j : Nat} (hj : j < K) (v : KV) (z : KZ) : (kcl D (aK j) (aC j) (aE j) v z ++ KR D K aK aC aE V Z j).Perm (KP D K aK aC aE (va_up V j v) (va_up Z j z)) := by
  have h := (KP_open (D := D) (aK := aK) (aC := aC) (aE := aE) (V := va_up V j v) (Z := va_up Z j z) hj).symm
  rw [va_up_self, va_up_self, KR_up] at h
  exact h
/-- as KP_open, as blocks -/
theorem KP_openB {D : va_G} {K : Nat} {aK aC aE : Nat → Nat} {V : Nat → KV} {Z : Nat → KZ} {j : Nat} (hj : j < K) : [KP D K aK aC aE V Z].flatten.Perm [[(aK j, .inr (13, [.int (kbo (V j)), .int (kst (V j)), .int (kle (V j)), .int (kco (V j)), .int (kto (V j)), .int (kgo (V j)), .ref (aC j), .ref (aE j)]))], [(aC j, .inl (D.1 101, 3, .inl (kcc (V j))))], [(aE j, .inr (6, [.int (zmd (Z j)), .ref (zed (Z j)), .int (nI (kne (V j)))]))], LD D (kcp (V j)) (zed (Z j)) (zg (Z j)), BX (kev (V j)) (zlp (Z j)) (zpv (Z j)), KR D K aK aC aE V Z j].flatten := by
  have h := KP_open (D := D) (aK := aK) (aC := aC) (aE := aE) (V := V) (Z := Z) hj
  simp only [List.flatten_cons, List.flatten_nil, List.append_nil]
  refine h.trans (List.Perm.of_eq ?_)
  unfold kcl
  simp only [List.cons_append, List.nil_append, List.append_nil, List.append_assoc]
theorem KP_closeB {D : va_G} {K : Nat} {aK aC aE : Nat → Nat} {V : Nat → KV} {Z : Nat → KZ} {j : Nat} (hj : j < K) {bo st le co to go : Int32} {cc : Nat → Int32} {ne cp : Nat} {ev : Nat → Int32} {md : Int32} {ed : Nat} {g : Nat → Option Nat} {LP : List Nat} {pv : Nat → Int32} : [[(aK j, .inr (13, [.int bo, .int st, .int le, .int co, .int to, .int go, .ref (aC j), .ref (aE j)]))], [(aC j, .inl (D.1 101, 3, .inl cc))], [(aE j, .inr (6, [.int md, .ref ed, .int (nI ne)]))], LD D cp ed g, BX ev LP pv, KR D K aK aC aE V Z j].flatten.Perm [KP D K aK aC aE (va_up V j (mkV bo st le co to go cc ne cp ev)) (va_up Z j (mkZ md ed g LP pv))].flatten := by
  have h := KP_close (D := D) (aK := aK) (aC := aC) (aE := aE) (V := V) (Z := Z) hj (mkV bo st le co to go cc ne cp ev) (mkZ md ed g LP pv)
  simp only [List.flatten_cons, List.flatten_nil, List.append_nil]
  refine (List.Perm.of_eq ?_).trans h
  unfold kcl
  simp only [List.cons_append, List.nil_append, List.append_nil, List.append_assoc]
  rfl
/-- the chords' arrays -/
def HP (D : va_G) (n : Nat) (aH : Nat → Nat) (hf : Nat → Nat → Int32) : va_W := (List.range n).map (fun i => (aH i, .inl (D.1 101, 4, .inl (hf i))))
def HR (D : va_G) (n : Nat) (aH : Nat → Nat) (hf : Nat → Nat → Int32) (j : Nat) : va_W := ((List.range n).erase j).map (fun i => (aH i, .inl (D.1 101, 4, .inl (hf i))))
theorem HP_openB {D : va_G} {n : Nat} {aH : Nat → Nat} {hf : Nat → Nat → Int32} {j : Nat} (hj : j < n) : [HP D n aH hf].flatten.Perm [[(aH j, .inl (D.1 101, 4, .inl (hf j)))], HR D n aH hf j].flatten := by
  have h := (List.perm_cons_erase (List.mem_range.mpr hj)).map (fun i => ((aH i, .inl (D.1 101, 4, .inl (hf i))) : Nat × va_E))
  simp only [List.flatten_cons, List.flatten_nil, List.append_nil]
  exact h
theorem HP_closeB {D : va_G} {n : Nat} {aH : Nat → Nat} {hf : Nat → Nat → Int32} {j : Nat} (hj : j < n) {f : Nat → Int32} : [[(aH j, .inl (D.1 101, 4, .inl f))], HR D n aH hf j].flatten.Perm [HP D n aH (va_up hf j f)].flatten := by
  have h := (HP_openB (D := D) (aH := aH) (hf := va_up hf j f) hj).symm
  have e : HR D n aH (va_up hf j f) j = HR D n aH hf j := by
    unfold HR
    apply List.map_congr_left
    intro k hk
    have hne : k ≠ j := fun e => by
      subst e
      exact (List.nodup_range.not_mem_erase) hk
    rw [va_up_ne _ _ hne]
  rw [e, va_up_self] at h
  exact h
theorem HP_push {D : va_G} {n : Nat} {aH : Nat → Nat} {hf : Nat → Nat → Int32} {q : Nat} {f : Nat → Int32} : [[(q, .inl (D.1 101, 4, .inl f))], HP D n aH hf].flatten.Perm [HP D (n + 1) (va_up aH n q) (va_up hf n f)].flatten := by
  refine (List.perm_append_comm).trans (List.Perm.of_eq ?_)
  simp only [List.flatten_cons, List.flatten_nil, List.append_nil]
  unfold HP
  rw [List.range_succ, List.map_append]
  simp only [List.map_cons, List.map_nil, va_up_self]
  congr 1
  apply List.map_congr_left
  intro k hk
  have hne : k ≠ n := fun e => by
    have := List.mem_range.mp hk
    omega
  rw [va_up_ne _ _ hne, va_up_ne _ _ hne]
theorem bx_P {D : va_G} {H : Heap} {bs : List va_W} {i : Nat} {ev : Nat → Int32} {LP : List Nat} {pv : Nat → Int32} (hP : va_P D vwCl bs.flatten H) (hb : bs[i]? = some (BX ev LP pv)) : va_P D vwCl ([] ++ va_pl LP (fun a => .inr (2, [.int (pv a)]))) H := by
  rw [List.nil_append]
  exact vaP_mem.mpr (fun q hq => vaP_mem.mp hP q (List.mem_flatten.mpr ⟨_, List.mem_of_getElem? hb, hq⟩))
theorem va_up_id {α : Type} {f : Nat → α} {j : Nat} : va_up f j (f j) = f := funext (fun i => by
  by_cases h : i = j
  · subst h; exact va_up_self _ _ _
  · exact va_up_ne _ _ h)
/-- closed with another value, the places as they were -/
theorem KP_closeV {D : va_G} {K : Nat} {aK aC aE : Nat → Nat} {V : Nat → KV} {Z : Nat → KZ} {j : Nat} (hj : j < K) {bo st le co to go : Int32} {cc : Nat → Int32} {ne cp : Nat} {ev : Nat → Int32} : [[(aK j, .inr (13, [.int bo, .int st, .int le, .int co, .int to, .int go, .ref (aC j), .ref (aE j)]))], [(aC j, .inl (D.1 101, 3, .inl cc))], [(aE j, .inr (6, [.int (zmd (Z j)), .ref (zed (Z j)), .int (nI ne)]))], LD D cp (zed (Z j)) (zg (Z j)), BX ev (zlp (Z j)) (zpv (Z j)), KR D K aK aC aE V Z j].flatten.Perm [KP D K aK aC aE (va_up V j (mkV bo st le co to go cc ne cp ev)) Z].flatten := by
  have h := KP_closeB (D := D) (aK := aK) (aC := aC) (aE := aE) (V := V) (Z := Z) hj (bo := bo) (st := st) (le := le) (co := co) (to := to) (go := go) (cc := cc) (ne := ne) (cp := cp) (ev := ev) (md := zmd (Z j)) (ed := zed (Z j)) (g := zg (Z j)) (LP := zlp (Z j)) (pv := zpv (Z j))
  rw [show mkZ (zmd (Z j)) (zed (Z j)) (zg (Z j)) (zlp (Z j)) (zpv (Z j)) = Z j from rfl, va_up_id] at h
  exact h
/-- a box stays apart from what a call may write -/
theorem bx_el {D : va_G} {s : State} {H : Heap} {A : Nat → Prop} {locs : List Loc} {tys : List (ClassId × FieldType)} {bs cs : List va_W} {i : Nat} {isC : List Nat} {ev : Nat → Int32} {LP : List Nat} {pv : Nat → Int32} {ad : Nat → Nat} {y : Nat} (hB : vb_C ad A s s.heap) (hS : va_S A s.heap H locs) (hK : va_K D vwCl tys s) (hP : va_P D vwCl bs.flatten H) (hD : va_D A bs.flatten) (hA : ∀ q, s.heap.size ≤ q → A q) (hC : isC.map (fun i => bs[i]?) = cs.map some) (hb : bs[i]? = some (BX ev LP pv)) (hi : i ∉ isC) (hm : vb_bm LP ad y) : elm "java/lang/Integer" y s H ∧ ¬ va_A cs.flatten H.size y := by
  have hlp : va_P D vwCl ([] ++ va_pl LP (fun a => .inr (2, [.int (pv a)]))) H := by
    rw [List.nil_append]
    exact vaP_mem.mpr (fun q hq => vaP_mem.mp hP q (List.mem_flatten.mpr ⟨_, List.mem_of_getElem? hb, hq⟩))
  refine ⟨vb_recv hB hS hK hlp rfl hm, fun h => ?_⟩
  rcases hm with hm | ⟨k, hk, rfl⟩
  · obtain ⟨k9, hk9⟩ := va_pl_get (X := []) (f := fun a => .inr (2, [.int (pv a)])) hm
    have hlt := (hlp k9 _ hk9).lt
    rcases vaA_mem.mp h with ⟨e, h⟩ | h
    · obtain ⟨c, hc, hq⟩ := List.mem_flatten.mp h
      obtain ⟨k2, hk2⟩ := List.getElem?_of_mem hc
      obtain ⟨j, f1, f2⟩ := pick_of hC hk2
      have hij : i ≠ j := fun e9 => hi (e9 ▸ List.mem_of_getElem? f1)
      obtain ⟨la, ea⟩ := List.getElem?_eq_some_iff.mp hb
      obtain ⟨lb, eb⟩ := List.getElem?_eq_some_iff.mp f2
      have h3 := List.pairwise_iff_getElem.mp (List.pairwise_flatten.mp (vaD_mem.mp hD).1).2
      have hy : (y, (.inr (2, [.int (pv y)]) : va_E)) ∈ BX ev LP pv := List.mem_map.mpr ⟨y, hm, rfl⟩
      rcases Nat.lt_or_ge i j with g | g
      · exact h3 i j la lb g (y, .inr (2, [.int (pv y)])) (ea ▸ hy) (y, e) (eb ▸ hq) rfl
      · exact h3 j i lb la (by omega) (y, e) (eb ▸ hq) (y, .inr (2, [.int (pv y)])) (ea ▸ hy) rfl
    · have hlt' : y < H.size := hlt
      omega
  · obtain ⟨cell, h1, -, -, h4⟩ := hB.1 k hk
    have hlt : ad k < s.heap.size := (Array.getElem?_eq_some_iff.mp h1).1
    exact h4 (wb_free hD hS hA isC hC _ h)
theorem BX_push {D : va_G} {cl : List vw_C} {A : Nat → Prop} {bs : List va_W} {ev : Nat → Int32} {LP : List Nat} {pv : Nat → Int32} {q : Nat} {v : Int32} {i j : Nat} {H : Heap} (hD : va_D A bs.flatten) (hi : bs[i]? = some [(q, .inr (2, [.int v]))]) (hj : bs[j]? = some (BX ev LP pv)) (hij : i ≠ j) : [[(q, .inr (2, [.int v]))], BX ev LP pv].flatten.Perm [BX ev (LP ++ [q]) (va_up pv q v)].flatten := by
  have hq : q ∉ LP := fun hm => by
    obtain ⟨la, ea⟩ := List.getElem?_eq_some_iff.mp hi
    obtain ⟨lb, eb⟩ := List.getElem?_eq_some_iff.mp hj
    have h3 := List.pairwise_iff_getElem.mp (List.pairwise_flatten.mp (vaD_mem.mp hD).1).2
    have hy : (q, (.inr (2, [.int (pv q)]) : va_E)) ∈ BX ev LP pv := List.mem_map.mpr ⟨q, hm, rfl⟩
    have hz : (q, (.inr (2, [.int v]) : va_E)) ∈ ([(q, .inr (2, [.int v]))] : va_W) := List.mem_cons_self
    rcases Nat.lt_or_ge i j with g | g
    · exact h3 i j la lb g (q, .inr (2, [.int v])) (ea ▸ hz) (q, .inr (2, [.int (pv q)])) (eb ▸ hy) rfl
    · exact h3 j i lb la (by omega) (q, .inr (2, [.int (pv q)])) (eb ▸ hy) (q, .inr (2, [.int v])) (ea ▸ hz) rfl
  refine (List.perm_append_comm).trans (List.Perm.of_eq ?_)
  simp only [List.flatten_cons, List.flatten_nil, List.append_nil]
  unfold BX
  rw [va_pl_push (f := fun a => .inr (2, [.int (pv a)])) hq]
  apply va_pl_congr
  intro a
  by_cases h : a = q
  · subst h; rw [va_up_self, va_up_self]
  · rw [va_up_ne _ _ h, va_up_ne _ _ h]
/-- what holds of a key's list of events -/
def EVok (D : va_G) (v : KV) (z : KZ) : Prop := kne v ≤ kcp v ∧ (kcp v = 0 → zed z = D.2 200 0) ∧ (kcp v ≠ 0 → 10 ≤ kcp v) ∧ kcp v ≤ 2 * kne v + 10 ∧ ∀ i, i < kne v → ∃ y, zg z i = some y ∧ vb_bx (zlp z) (zpv z) (D.2 201) y (kev v i)
theorem cpy_in {g t : Nat → Option Nat} {n i : Nat} (h : i < n) : va_cpy g t 0 0 n i = g i := by
  unfold va_cpy
  rw [if_pos ⟨Nat.zero_le _, by omega⟩]
  congr 1
  omega
