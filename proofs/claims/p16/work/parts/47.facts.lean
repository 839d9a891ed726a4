theorem in_Jx7c733 : ∀ w ∈ u_ws RJx7c733 TJx7c733 6, w ∈ lwAll := by
  intro w hw
  obtain ⟨k, hk, rfl⟩ := List.mem_map.mp hw
  have hk := List.mem_range.mp hk
  match k, hk with
  | 0, _ => exact wk_in wk_h15 (List.mem_of_getElem? (i := 9) rfl)
  | 1, _ => exact wk_in wk_h15 (List.mem_of_getElem? (i := 10) rfl)
  | 2, _ => exact wk_in wk_h15 (List.mem_of_getElem? (i := 11) rfl)
  | 3, _ => exact wk_in wk_h15 (List.mem_of_getElem? (i := 12) rfl)
  | 4, _ => exact wk_in wk_h15 (List.mem_of_getElem? (i := 13) rfl)
  | 5, _ => exact wk_in wk_h15 (List.mem_of_getElem? (i := 14) rfl)
  | k + 6, h => exact absurd h (by omega)
theorem in_Jx00060 : ∀ w ∈ u_ws RJx00060 TJx00060 6, w ∈ lwAll := by
  intro w hw
  obtain ⟨k, hk, rfl⟩ := List.mem_map.mp hw
  have hk := List.mem_range.mp hk
  match k, hk with
  | 0, _ => exact wk_in wk_h15 (List.mem_of_getElem? (i := 28) rfl)
  | 1, _ => exact wk_in wk_h15 (List.mem_of_getElem? (i := 29) rfl)
  | 2, _ => exact wk_in wk_h15 (List.mem_of_getElem? (i := 30) rfl)
  | 3, _ => exact wk_in wk_h15 (List.mem_of_getElem? (i := 31) rfl)
  | 4, _ => exact wk_in wk_h15 (List.mem_of_getElem? (i := 32) rfl)
  | 5, _ => exact wk_in wk_h16 (List.mem_of_getElem? (i := 8) rfl)
  | k + 6, h => exact absurd h (by omega)
set_option maxHeartbeats 4000000 in
theorem law_facts {b : Nat} {s : State} (hts0 : ∀ w ∈ lw_tbl, w.before #[Value.ref b] s = true) (hgv : (Jvm.Cond.and given_1 narrow_1).before #[Value.ref b] s = true) :
    ∃ D : va_G, va_K D vwCl (lwTY2 D) s ∧ ((∀ w ∈ lwNest, va_Nw w s) ∧ lwTx s) ∧ lwZ (va_A [] s.heap.size) s s.heap ∧ lwI D (va_A [] s.heap.size) s s.heap ∧ (va_Nc "java/lang/IllegalArgumentException" "java/lang/IndexOutOfBoundsException" s ∧ va_Nc "java/lang/IllegalStateException" "java/lang/IndexOutOfBoundsException" s ∧ va_Nc "java/lang/IllegalStateException" "java/lang/IllegalArgumentException" s) ∧ ∃ sa, vk_R "RowscanModel" 271 "" sa s := by
  have hts : ∀ w ∈ lwAll, w.before #[Value.ref b] s = true := fun w h => lw_tblX_hts hts0 w (List.mem_filter.mp h).1
  have hg := flat_of_before _ hgv
  obtain ⟨c0, i0, k0⟩ := u_known (C := RJ0) (T := TJ0) (N := 4) (n := 4) hts in_J0 (hts0 (.instantiable RJ0 4) (by decide +kernel))
  obtain ⟨c1, i1, k1⟩ := u_known (C := RJ4) (T := TJ4) (N := 4) (n := 4) hts in_J4 (hts0 (.instantiable RJ4 4) (by decide +kernel))
  obtain ⟨c2, i2, k2⟩ := u_known (C := RJ6) (T := TJ6) (N := 1) (n := 1) hts in_J6 (hts0 (.instantiable RJ6 1) (by decide +kernel))
  obtain ⟨c3, i3, k3⟩ := u_known (C := RJx00060) (T := TJx00060) (N := 6) (n := 6) hts in_Jx00060 (hts0 (.instantiable RJx00060 6) (by decide +kernel))
  obtain ⟨c4, i4, k4⟩ := u_known (C := RJx7c733) (T := TJx7c733) (N := 6) (n := 6) hts in_Jx7c733 (hts0 (.instantiable RJx7c733 6) (by decide +kernel))
  obtain ⟨c5, i5, k5⟩ := u_known (C := RJx35411) (T := TJx35411) (N := 4) (n := 4) hts in_Jx35411 (hts0 (.instantiable RJx35411 4) (by decide +kernel))
  obtain ⟨c6, i6, k6⟩ := u_known (C := RJx4a65c) (T := TJx4a65c) (N := 3) (n := 3) hts in_Jx4a65c (hts0 (.instantiable RJx4a65c 3) (by decide +kernel))
  obtain ⟨c7, i7, k7⟩ := u_known (C := RX0) (T := TX0) (N := 6) (n := 6) hts in_X0 (hts0 (.instantiable RX0 6) (by decide +kernel))
  obtain ⟨c8, i8, k8⟩ := u_known (C := RX1) (T := TX1) (N := 10) (n := 10) hts in_X1 (hts0 (.instantiable RX1 10) (by decide +kernel))
  obtain ⟨c9, i9, k9⟩ := u_known (C := RX2) (T := TX2) (N := 5) (n := 5) hts in_X2 (hts0 (.instantiable RX2 5) (by decide +kernel))
  obtain ⟨c10, i10, k10⟩ := u_known (C := RX3) (T := TX3) (N := 7) (n := 7) hts in_X3 (hts0 (.instantiable RX3 7) (by decide +kernel))
  obtain ⟨c11, i11, k11⟩ := u_known (C := RX4) (T := TX4) (N := 10) (n := 10) hts in_X4 (hts0 (.instantiable RX4 10) (by decide +kernel))
  obtain ⟨c12, i12, k12⟩ := u_known (C := RX5) (T := TX5) (N := 2) (n := 2) hts in_X5 (hts0 (.instantiable RX5 2) (by decide +kernel))
  obtain ⟨c13, i13, k13⟩ := u_known (C := RX6) (T := TX6) (N := 8) (n := 8) hts in_X6 (hts0 (.instantiable RX6 8) (by decide +kernel))
  obtain ⟨c14, i14, k14⟩ := u_known (C := RX7) (T := TX7) (N := 18) (n := 18) hts in_X7 (hts0 (.instantiable RX7 18) (by decide +kernel))
  obtain ⟨cb, kb, _, hb1, hb2, hb3⟩ := Cond.arrayClass_spec (hts0 (.arrayClass .byte) (by decide +kernel))
  obtain ⟨ci, ki, _, hi1, hi2, hi3⟩ := Cond.arrayClass_spec (hts0 (.arrayClass .int) (by decide +kernel))
  have hAO : (Cond.arrayOver (.object "java/lang/Object")).before #[Value.ref b] s = true := hts0 (.arrayOver (.object "java/lang/Object")) (by decide +kernel)
  obtain ⟨comp, co, ko, ho1, ho2, ho3, ho4, ho5⟩ := Cond.arrayOver_spec hAO
  have hZA : ∀ a : Nat, a < s.heap.size → ¬ va_A [] s.heap.size a := fun a h1 h2 => by
    rcases h2 with h3 | h3
    · simp at h3
    · exact Nat.not_le.mpr h1 h3
  have hEs : Cond.arrayOf (.static "java/util/ArrayList" "DEFAULTCAPACITY_EMPTY_ELEMENTDATA" "[Ljava/lang/Object;") (.object "java/lang/Object") ∈ flatC (Jvm.Cond.and given_1 narrow_1) := by decide +kernel
  obtain ⟨aE, hE1, hE2⟩ := va_Tof (tm := .static "java/util/ArrayList" "DEFAULTCAPACITY_EMPTY_ELEMENTDATA" "[Ljava/lang/Object;") (ty := .object "java/lang/Object") (N := 0) (f := fun _ => .null) (A := va_A [] s.heap.size) (by decide) (hg _ hEs) (va_eqt (hg (.eq (.length (.static "java/util/ArrayList" "DEFAULTCAPACITY_EMPTY_ELEMENTDATA" "[Ljava/lang/Object;")) (.int 0)) (by decide +kernel))) (fun j hj => absurd hj (Nat.not_lt_zero _)) hZA
  have hL := va_eqt (hg (.eq (.length (.static "java/lang/Integer$IntegerCache" "cache" "[Ljava/lang/Integer;")) (.int 256)) (by decide +kernel))
  obtain ⟨ad, hB1, hB2⟩ := vb_Cof (st := .static "java/lang/Integer$IntegerCache" "cache" "[Ljava/lang/Integer;") (A := va_A [] s.heap.size) rfl hL (hg _ (by decide +kernel)) hZA
  obtain ⟨aC, hC1, hC2⟩ := va_Tof (tm := .static "java/lang/Integer$IntegerCache" "cache" "[Ljava/lang/Integer;") (ty := .object "java/lang/Integer") (N := 256) (f := fun j => .ref (ad j)) (A := va_A [] s.heap.size) (by decide) (hg (.arrayOf (.static "java/lang/Integer$IntegerCache" "cache" "[Ljava/lang/Integer;") (.object "java/lang/Integer")) (by decide +kernel)) hL hB2 hZA
  obtain ⟨mi, hM⟩ := va_Mi.of (hg (.isRef (.mirror "[Ljava/lang/Object;")) (by decide +kernel))
  refine ⟨(fun k => match k with | 0 => c0 | 1 => c1 | 2 => c2 | 3 => c3 | 4 => c4 | 5 => c5 | 6 => c6 | 7 => c7 | 8 => c8 | 9 => c9 | 10 => c10 | 11 => c11 | 12 => c12 | 13 => c13 | 14 => c14 | 100 => cb | 101 => ci | _ => co, fun k => match k with | 0 => i0 | 1 => i1 | 2 => i2 | 3 => i3 | 4 => i4 | 5 => i5 | 6 => i6 | 7 => i7 | 8 => i8 | 9 => i9 | 10 => i10 | 11 => i11 | 12 => i12 | 13 => i13 | 14 => i14 | 200 => (fun j => match j with | 0 => aE | 1 => aC | _ => mi) | 201 => ad | _ => i0), ⟨fun k q hq => ?_, fun k q hq => ?_⟩, ⟨fun w hw => va_Nw.of (lwNest_on w hw) (hts0 w (lwNest_in w hw)), fun q hq => ?_⟩, ⟨?_, ?_, ?_, ?_⟩, ⟨⟨?_, hE2⟩, ⟨?_, ?_, hC2, hB1⟩, ⟨?_, ?_⟩, va_AO.of hAO, hM, va_Dc.of (hts0 (.declares ⟨"java/lang/Object", "getClass", "()Ljava/lang/Class;"⟩) (by decide +kernel))⟩, ⟨va_Nc.of (hg _ (by decide +kernel)), va_Nc.of (hg _ (by decide +kernel)), va_Nc.of (hg _ (by decide +kernel))⟩, ?_⟩
  · match k, hq with
    | 0, hq => cases hq; exact k0
    | 1, hq => cases hq; exact k1
    | 2, hq => cases hq; exact k2
    | 3, hq => cases hq; exact k3
    | 4, hq => cases hq; exact k4
    | 5, hq => cases hq; exact k5
    | 6, hq => cases hq; exact k6
    | 7, hq => cases hq; exact k7
    | 8, hq => cases hq; exact k8
    | 9, hq => cases hq; exact k9
    | 10, hq => cases hq; exact k10
    | 11, hq => cases hq; exact k11
    | 12, hq => cases hq; exact k12
    | 13, hq => cases hq; exact k13
    | 14, hq => cases hq; exact k14
    | k + 15, hq => simp [vwCl] at hq
  · match k, hq with
    | 0, hq => cases hq; exact ⟨fun n z => ⟨fun k h => (by cases h), kb, hb2, _, hb3⟩, hb1⟩
    | 1, hq => cases hq; exact ⟨fun n z => ⟨fun k h => (by cases h), ki, hi2, _, hi3⟩, hi1⟩
    | 2, hq => cases hq; exact ⟨fun N z => ⟨(fun k h => by cases h), ko, ho3, comp, ho4⟩, ko, comp, ho3, ho4, ho1, ho5⟩
    | k + 3, hq => simp [lwTY2] at hq
  · have h1 : (Cond.stringRef q.1 q.2.1 q.2.2).before #[Value.ref b] s = true ∧ (Cond.exactly (.string q.1 q.2.1) "java/lang/String").before #[Value.ref b] s = true := by
      have h2 : ∀ q ∈ lwStr, Cond.stringRef q.1 q.2.1 q.2.2 ∈ lw_tbl := by decide +kernel
      have h3 : ∀ q ∈ lwStr, Cond.exactly (.string q.1 q.2.1) "java/lang/String" ∈ flatC (Jvm.Cond.and given_1 narrow_1) := by decide +kernel
      exact ⟨hts0 _ (h2 q hq), hg _ (h3 q hq)⟩
    obtain ⟨a, -, -, -, q1, -⟩ := Cond.exactly_spec (args := #[Value.ref b]) (first := s) (o := none) (s := s) (idx := []) (t := .string q.1 q.2.1) (cls := "java/lang/String") h1.2
    exact ⟨a, vk_R.of h1.1 q1⟩
  · exact va_Zof (hts0 _ (by decide +kernel)) (hts0 _ (by decide +kernel)) (Cond.eq_int (n := 1) (hg (.eq (.static "java/lang/String" "COMPACT_STRINGS" "Z") (.int 1)) (by decide +kernel)) rfl) hZA
  · exact va_Zqof (hts0 _ (by decide +kernel)) (hts0 _ (by decide +kernel)) (hg (.isRef (.static "jdk/internal/util/Preconditions" "SIOOBE_FORMATTER" "Ljava/util/function/BiFunction;")) (by decide +kernel)) hZA
  · exact vx_Zqof (hts0 _ (by decide +kernel)) (hts0 _ (by decide +kernel)) (hg (.isRef (.static "java/lang/Throwable" "UNASSIGNED_STACK" "[Ljava/lang/StackTraceElement;")) (by decide +kernel)) hZA
  · exact vx_Zqof (hts0 _ (by decide +kernel)) (hts0 _ (by decide +kernel)) (hg (.isRef (.static "java/lang/Throwable" "SUPPRESSED_SENTINEL" "Ljava/util/List;")) (by decide +kernel)) hZA
  · exact va_Zof (hts0 _ (by decide +kernel)) (hts0 _ (by decide +kernel)) hE1 hZA
  · exact va_Zof (hts0 _ (by decide +kernel)) (hts0 _ (by decide +kernel)) (va_eqt (hg (.eq (.static "java/lang/Integer$IntegerCache" "high" "I") (.int 127)) (by decide +kernel))) hZA
  · exact va_Zof (hts0 _ (by decide +kernel)) (hts0 _ (by decide +kernel)) hC1 hZA
  · exact va_Fw.of (hts0 _ (by decide +kernel)) (hts0 _ (by decide +kernel)) (hts0 _ (by decide +kernel)) (hts0 _ (by decide +kernel)) (hts0 _ (by decide +kernel))
  · exact va_Fw.of (hts0 _ (by decide +kernel)) (hts0 _ (by decide +kernel)) (hts0 _ (by decide +kernel)) (hts0 _ (by decide +kernel)) (hts0 _ (by decide +kernel))
  · obtain ⟨a, -, -, -, q1, -⟩ := Cond.exactly_spec (args := #[Value.ref b]) (first := s) (o := none) (s := s) (idx := []) (t := .string "RowscanModel" 271) (cls := "java/lang/String") (hg _ (by decide +kernel))
    exact ⟨a, vk_R.of (hts0 (.stringRef "RowscanModel" 271 "") (by decide +kernel)) q1⟩
