/-! sums over the keys -/
def sumK : Nat → (Nat → KV) → (KV → Nat) → Nat
  | 0, _, _ => 0
  | K + 1, V, w => sumK K V w + w (V K)
theorem sumK_congr {w : KV → Nat} {V V' : Nat → KV} : ∀ {K : Nat}, (∀ i, i < K → w (V i) = w (V' i)) → sumK K V w = sumK K V' w
  | 0, _ => rfl
  | K + 1, h => by
    unfold sumK
    rw [sumK_congr (K := K) (fun i hi => h i (by omega)), h K (by omega)]
theorem sumK_out {w : KV → Nat} {V : Nat → KV} {k : Nat} {v : KV} {K : Nat} (h : K ≤ k) : sumK K (va_up V k v) w = sumK K V w := sumK_congr (fun i hi => by rw [va_up_ne _ _ (by omega)])
theorem sumK_up {w : KV → Nat} {V : Nat → KV} {k : Nat} {v : KV} : ∀ {K : Nat}, k < K → sumK K (va_up V k v) w + w (V k) = sumK K V w + w v
  | 0, h => by omega
  | K + 1, h => by
    unfold sumK
    by_cases hk : k = K
    · subst hk
      rw [sumK_out (Nat.le_refl _), va_up_self]
      omega
    · have := sumK_up (w := w) (V := V) (v := v) (show k < K by omega)
      rw [va_up_ne _ _ (fun e => hk e.symm)]
      omega
theorem sumK_add {w : KV → Nat} {V : Nat → KV} {k : Nat} {v : KV} {K d : Nat} (h : k < K) (hw : w (V k) + d ≤ w v) : sumK K V w + d ≤ sumK K (va_up V k v) w := by
  have := sumK_up (w := w) (V := V) (v := v) h
  omega
theorem sumK_mono {w : KV → Nat} {V : Nat → KV} {k : Nat} {v : KV} {K : Nat} (hw : w (V k) ≤ w v) : sumK K V w ≤ sumK K (va_up V k v) w := by
  rcases Nat.lt_or_ge k K with h | h
  · exact sumK_add (d := 0) h hw
  · exact Nat.le_of_eq (sumK_out h).symm
/-- what the events of a key have cost -/
def wC (v : KV) : Nat := 5 * kne v
def wS (v : KV) : Nat := 13 * kne v + 4 * kcp v
theorem press_nest {V : Nat → KV} {k : Nat} {bo st le co to go x : Int32} {cc : Nat → Int32} {ne cp : Nat} {ev : Nat → Int32} : va_up (va_up V k (mkV bo st le co to go cc ne cp ev)) k (mkV (kbo (va_up V k (mkV bo st le co to go cc ne cp ev) k)) (kst (va_up V k (mkV bo st le co to go cc ne cp ev) k)) (kle (va_up V k (mkV bo st le co to go cc ne cp ev) k)) (kco (va_up V k (mkV bo st le co to go cc ne cp ev) k)) (kto (va_up V k (mkV bo st le co to go cc ne cp ev) k)) (kcc (va_up V k (mkV bo st le co to go cc ne cp ev) k) x.toNatClampNeg) (kcc (va_up V k (mkV bo st le co to go cc ne cp ev) k)) (kne (va_up V k (mkV bo st le co to go cc ne cp ev) k)) (kcp (va_up V k (mkV bo st le co to go cc ne cp ev) k)) (kev (va_up V k (mkV bo st le co to go cc ne cp ev) k))) = va_up V k (mkV bo st le co to (cc x.toNatClampNeg) cc ne cp ev) := by
  rw [va_up_self]
  funext i
  by_cases h : i = k
  · subst h; rw [va_up_self, va_up_self]; rfl
  · rw [va_up_ne _ _ h, va_up_ne _ _ h, va_up_ne _ _ h]
/-- what holds of all keys while the i-th is scanned -/
def KI (D : va_G) (K sc i : Nat) (V : Nat → KV) (Z : Nat → KZ) : Prop := ∀ k, k < K → EVok D (V k) (Z k) ∧ (∀ j, j < 3 → ∃ c : Nat, c ≤ 31 ∧ kcc (V k) j = nI c) ∧ kne (V k) ≤ (if k < i then sc + 1 else sc)
theorem KI_same {D : va_G} {K sc i : Nat} {V : Nat → KV} {Z : Nat → KZ} (h : KI D K sc i V Z) {bo st le co to go : Int32} : KI D K sc (i + 1) (va_up V i (mkV bo st le co to go (kcc (V i)) (kne (V i)) (kcp (V i)) (kev (V i)))) Z := by
  intro k hk
  obtain ⟨h1, h2, h3⟩ := h k hk
  by_cases e : k = i
  · subst e
    rw [va_up_self]
    refine ⟨h1, h2, ?_⟩
    rw [if_pos (by omega)]
    rw [if_neg (by omega)] at h3
    show kne (V k) ≤ _
    omega
  · rw [va_up_ne _ _ e]
    refine ⟨h1, h2, ?_⟩
    by_cases e2 : k < i
    · rw [if_pos e2] at h3; rw [if_pos (by omega)]; exact h3
    · rw [if_neg e2] at h3; rw [if_neg (by omega)]; exact h3
theorem bx_push {LP : List Nat} {pv : Nat → Int32} {ad : Nat → Nat} {q y : Nat} {v v9 : Int32} (hq : q ∉ LP) (h : vb_bx LP pv ad y v) : vb_bx (LP ++ [q]) (va_up pv q v9) ad y v := by
  rcases h with ⟨hm, rfl⟩ | h
  · have hne : y ≠ q := fun e => hq (e ▸ hm)
    exact Or.inl ⟨List.mem_append_left _ hm, by rw [va_up_ne _ _ hne]⟩
  · exact Or.inr h
theorem bx_fresh {LP : List Nat} {pv : Nat → Int32} {ad : Nat → Nat} {q : Nat} {v : Int32} : vb_bx (LP ++ [q]) (va_up pv q v) ad q v := Or.inl ⟨List.mem_append_right _ List.mem_cons_self, by rw [va_up_self]⟩
theorem bx_cache {LP : List Nat} {pv : Nat → Int32} {D : va_G} {v : Nat} (h : v ≤ 127) : vb_bx LP pv (D.2 201) (D.2 201 (v + 128)) (nI v) := Or.inr ⟨v + 128, by omega, rfl, by
  unfold vb_c
  rw [show (Int32.ofNat (v + 128)) = nI v + 128 from (nI_add v 128).symm, Int32.add_sub_cancel]⟩
def capE (n cp : Nat) : Nat := if n < cp then cp else if cp = 0 then 10 else n + n / 2
theorem EV_add {D : va_G} {v : KV} {z : KZ} {LP' : List Nat} {pv' : Nat → Int32} {g' : Nat → Option Nat} {kd' y : Nat} {md' x : Int32} {bo st le co to go : Int32} {cc : Nat → Int32} (h : EVok D v z) (hb : ∀ y v, vb_bx (zlp z) (zpv z) (D.2 201) y v → vb_bx LP' pv' (D.2 201) y v) (h1 : ∀ i, i < kne v → g' i = zg z i) (h2 : g' (kne v) = some y) (hy : vb_bx LP' pv' (D.2 201) y x) : EVok D (mkV bo st le co to go cc (kne v + 1) (capE (kne v) (kcp v)) (va_up (kev v) (kne v) x)) (mkZ md' kd' g' LP' pv') := by
  obtain ⟨e1, e2, e3, e4, e5⟩ := h
  have hc : kne v + 1 ≤ capE (kne v) (kcp v) ∧ 10 ≤ capE (kne v) (kcp v) ∧ capE (kne v) (kcp v) ≤ 2 * (kne v + 1) + 10 := by
    unfold capE
    split
    · have := e3 (by omega)
      omega
    · split
      · omega
      · have := e3 (by assumption)
        omega
  refine ⟨hc.1, fun h0 => ?_, fun _ => hc.2.1, hc.2.2, fun i hi => ?_⟩
  · have h0' : capE (kne v) (kcp v) = 0 := h0
    omega
  · show ∃ y, g' i = some y ∧ vb_bx LP' pv' (D.2 201) y (va_up (kev v) (kne v) x i)
    by_cases e : i = kne v
    · subst e
      exact ⟨y, h2, by rw [va_up_self]; exact hy⟩
    · have hi' : i < kne v + 1 := hi
      obtain ⟨y', f1, f2⟩ := e5 i (by omega)
      exact ⟨y', (h1 i (by omega)).trans f1, by rw [va_up_ne _ _ e]; exact hb _ _ f2⟩
theorem KI_add {D : va_G} {K sc i : Nat} {V : Nat → KV} {Z : Nat → KZ} {LP' : List Nat} {pv' : Nat → Int32} {g' : Nat → Option Nat} {kd' y : Nat} {md' x : Int32} {bo st le co to go : Int32} (h : KI D K sc i V Z) (hi : i < K) (hb : ∀ y v, vb_bx (zlp (Z i)) (zpv (Z i)) (D.2 201) y v → vb_bx LP' pv' (D.2 201) y v) (h1 : ∀ j, j < kne (V i) → g' j = zg (Z i) j) (h2 : g' (kne (V i)) = some y) (hy : vb_bx LP' pv' (D.2 201) y x) : KI D K sc (i + 1) (va_up V i (mkV bo st le co to go (kcc (V i)) (kne (V i) + 1) (capE (kne (V i)) (kcp (V i))) (va_up (kev (V i)) (kne (V i)) x))) (va_up Z i (mkZ md' kd' g' LP' pv')) := by
  intro k hk
  obtain ⟨f1, f2, f3⟩ := h k hk
  by_cases e : k = i
  · subst e
    rw [va_up_self, va_up_self]
    refine ⟨EV_add f1 hb h1 h2 hy, f2, ?_⟩
    rw [if_pos (by omega)]
    rw [if_neg (by omega)] at f3
    show kne (V k) + 1 ≤ _
    omega
  · rw [va_up_ne _ _ e, va_up_ne _ _ e]
    refine ⟨f1, f2, ?_⟩
    by_cases e2 : k < i
    · rw [if_pos e2] at f3; rw [if_pos (by omega)]; exact f3
    · rw [if_neg e2] at f3; rw [if_neg (by omega)]; exact f3
/-! loops: what is made grows -/
theorem link_le {α : Type} {f : Nat → α → α} (OK : α → Prop) (P : α → Nat) (hs : ∀ i a, OK a → OK (f i a) ∧ P a ≤ P (f i a)) : ∀ (n i : Nat) (a : α), OK a → OK (itr f n i a) ∧ P a ≤ P (itr f n i a)
  | 0, _, _, h => ⟨h, Nat.le_refl _⟩
  | n + 1, i, a, h => by
    have h1 := hs i a h
    have h2 := link_le OK P hs n (i + 1) (f i a) h1.1
    exact ⟨h2.1, Nat.le_trans h1.2 h2.2⟩
theorem link_nx {α : Type} {f : Nat → α → α} (OK : α → Prop) (P : α → Nat) (hs : ∀ i a, OK a → OK (f i a) ∧ P a ≤ P (f i a)) (n i : Nat) (a : α) (h : OK a) : P (f i a) ≤ P (itr f (n + 1) i a) := (link_le OK P hs n (i + 1) (f i a) (hs i a h).1).2
theorem blk_out {D : va_G} {A : Nat → Prop} {H : Heap} {bs cs : List va_W} {i : Nat} {isC : List Nat} {b : va_W} {q : Nat × va_E} (hP : va_P D vwCl bs.flatten H) (hD : va_D A bs.flatten) (hC : isC.map (fun i => bs[i]?) = cs.map some) (hb : bs[i]? = some b) (hq : q ∈ b) (hi : i ∉ isC) : ¬ va_A cs.flatten H.size q.1 := by
  intro h
  have hlt := (vaP_mem.mp hP q (List.mem_flatten.mpr ⟨b, List.mem_of_getElem? hb, hq⟩)).lt
  rcases vaA_mem.mp h with ⟨e, h⟩ | h
  · obtain ⟨c, hc, hqc⟩ := List.mem_flatten.mp h
    obtain ⟨k2, hk2⟩ := List.getElem?_of_mem hc
    obtain ⟨j, f1, f2⟩ := pick_of hC hk2
    have hij : i ≠ j := fun e9 => hi (e9 ▸ List.mem_of_getElem? f1)
    obtain ⟨la, ea⟩ := List.getElem?_eq_some_iff.mp hb
    obtain ⟨lb, eb⟩ := List.getElem?_eq_some_iff.mp f2
    have h3 := List.pairwise_iff_getElem.mp (List.pairwise_flatten.mp (vaD_mem.mp hD).1).2
    rcases Nat.lt_or_ge i j with g | g
    · exact h3 i j la lb g q (ea ▸ hq) (q.1, e) (eb ▸ hqc) rfl
    · exact h3 j i lb la (by omega) (q.1, e) (eb ▸ hqc) q (ea ▸ hq) rfl
  · omega
theorem BX_no {A : Nat → Prop} {bs : List va_W} {ev : Nat → Int32} {LP : List Nat} {pv : Nat → Int32} {q : Nat} {v : Int32} {i j : Nat} (hD : va_D A bs.flatten) (hi : bs[i]? = some [(q, .inr (2, [.int v]))]) (hj : bs[j]? = some (BX ev LP pv)) (hij : i ≠ j) : q ∉ LP := fun hm => by
  obtain ⟨la, ea⟩ := List.getElem?_eq_some_iff.mp hi
  obtain ⟨lb, eb⟩ := List.getElem?_eq_some_iff.mp hj
  have h3 := List.pairwise_iff_getElem.mp (List.pairwise_flatten.mp (vaD_mem.mp hD).1).2
  have hy : (q, (.inr (2, [.int (pv q)]) : va_E)) ∈ BX ev LP pv := List.mem_map.mpr ⟨q, hm, rfl⟩
  have hz : (q, (.inr (2, [.int v]) : va_E)) ∈ ([(q, .inr (2, [.int v]))] : va_W) := List.mem_cons_self
  rcases Nat.lt_or_ge i j with g | g
  · exact h3 i j la lb g (q, .inr (2, [.int v])) (ea ▸ hz) (q, .inr (2, [.int (pv q)])) (eb ▸ hy) rfl
  · exact h3 j i lb la (by omega) (q, .inr (2, [.int (pv q)])) (eb ▸ hy) (q, .inr (2, [.int v])) (ea ▸ hz) rfl
/-- as mPre_mk, with what the world itself tells of the elements -/
theorem mPre_mk2 {D : va_G} {ty : List (ClassId × FieldType)} {wc : va_W} {s : State} {H : Heap} {C : String} {n : Nat} {g : Nat → Option Nat} {ov : Option Nat} {av : List Value} (hEl : ∀ i, i < n → ∀ y, g i = some y → elm C y s H ∧ ¬ va_A wc H.size y) (hOv : ∀ v, ov = some v → va_Any "java/lang/Object" s H v ∧ ¬ va_A wc H.size v) (hCa : va_Nw (.castable C "java/lang/Object") s) (hI : lwI D (va_A wc H.size) s H) (hP : va_P D vwCl wc H) (hK : va_K D vwCl ty s) {A : Nat → Prop} (hD : va_D A wc) (hN : (∀ w ∈ lwNest, va_Nw w s) ∧ lwTx s) (hZ : lwZ (va_A wc H.size) s H) : ∀ U : State, U.heap = H → s.WarmedH U.vm → va_Pc av (mPre D ty wc H.size C n g ov) av.toArray U :=
  fun U hU hW => by
    obtain ⟨h0, h1⟩ := rPre_mk (av := av) hI hP hK hD hN hZ U hU hW
    exact ⟨h0, h1, fun i hi y hy => ⟨by rw [hU]; exact (hEl i hi y hy).1.moved hW.alike, (hEl i hi y hy).2⟩, fun v hv => ⟨by rw [hU]; exact (hOv v hv).1.moved9 hW.alike, (hOv v hv).2⟩, va_Nw.warmC hW hCa⟩
