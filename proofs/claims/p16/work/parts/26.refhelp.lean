theorem in_X5 : ∀ w ∈ u_ws RX5 TX5 2, w ∈ lwAll := by
  intro w hw
  obtain ⟨k, hk, rfl⟩ := List.mem_map.mp hw
  have hk := List.mem_range.mp hk
  match k, hk with
  | 0, _ => exact wk_in wk_h21 (List.mem_of_getElem? (i := 4) rfl)
  | 1, _ => exact wk_in wk_h21 (List.mem_of_getElem? (i := 6) rfl)
  | k + 2, h => exact absurd h (by omega)
theorem in_X6 : ∀ w ∈ u_ws RX6 TX6 8, w ∈ lwAll := by
  intro w hw
  obtain ⟨k, hk, rfl⟩ := List.mem_map.mp hw
  have hk := List.mem_range.mp hk
  match k, hk with
  | 0, _ => exact wk_in wk_h29 (List.mem_of_getElem? (i := 35) rfl)
  | 1, _ => exact wk_in wk_h29 (List.mem_of_getElem? (i := 37) rfl)
  | 2, _ => exact wk_in wk_h30 (List.mem_of_getElem? (i := 0) rfl)
  | 3, _ => exact wk_in wk_h30 (List.mem_of_getElem? (i := 2) rfl)
  | 4, _ => exact wk_in wk_h30 (List.mem_of_getElem? (i := 4) rfl)
  | 5, _ => exact wk_in wk_h30 (List.mem_of_getElem? (i := 6) rfl)
  | 6, _ => exact wk_in wk_h30 (List.mem_of_getElem? (i := 8) rfl)
  | 7, _ => exact wk_in wk_h30 (List.mem_of_getElem? (i := 10) rfl)
  | k + 8, h => exact absurd h (by omega)
theorem in_X7 : ∀ w ∈ u_ws RX7 TX7 18, w ∈ lwAll := by
  intro w hw
  obtain ⟨k, hk, rfl⟩ := List.mem_map.mp hw
  have hk := List.mem_range.mp hk
  match k, hk with
  | 0, _ => exact wk_in wk_h32 (List.mem_of_getElem? (i := 6) rfl)
  | 1, _ => exact wk_in wk_h32 (List.mem_of_getElem? (i := 8) rfl)
  | 2, _ => exact wk_in wk_h32 (List.mem_of_getElem? (i := 10) rfl)
  | 3, _ => exact wk_in wk_h32 (List.mem_of_getElem? (i := 12) rfl)
  | 4, _ => exact wk_in wk_h32 (List.mem_of_getElem? (i := 14) rfl)
  | 5, _ => exact wk_in wk_h32 (List.mem_of_getElem? (i := 16) rfl)
  | 6, _ => exact wk_in wk_h32 (List.mem_of_getElem? (i := 18) rfl)
  | 7, _ => exact wk_in wk_h32 (List.mem_of_getElem? (i := 20) rfl)
  | 8, _ => exact wk_in wk_h32 (List.mem_of_getElem? (i := 22) rfl)
  | 9, _ => exact wk_in wk_h32 (List.mem_of_getElem? (i := 24) rfl)
  | 10, _ => exact wk_in wk_h32 (List.mem_of_getElem? (i := 26) rfl)
  | 11, _ => exact wk_in wk_h32 (List.mem_of_getElem? (i := 28) rfl)
  | 12, _ => exact wk_in wk_h32 (List.mem_of_getElem? (i := 30) rfl)
  | 13, _ => exact wk_in wk_h32 (List.mem_of_getElem? (i := 32) rfl)
  | 14, _ => exact wk_in wk_h32 (List.mem_of_getElem? (i := 34) rfl)
  | 15, _ => exact wk_in wk_h32 (List.mem_of_getElem? (i := 36) rfl)
  | 16, _ => exact wk_in wk_h32 (List.mem_of_getElem? (i := 38) rfl)
  | 17, _ => exact wk_in wk_h33 (List.mem_of_getElem? (i := 0) rfl)
  | k + 18, h => exact absurd h (by omega)
theorem in_J6 : ∀ w ∈ u_ws RJ6 TJ6 1, w ∈ lwAll := by
  intro w hw
  obtain ⟨k, hk, rfl⟩ := List.mem_map.mp hw
  have hk := List.mem_range.mp hk
  match k, hk with
  | 0, _ => exact wk_in wk_h37 (List.mem_of_getElem? (i := 25) rfl)
  | k + 1, h => exact absurd h (by omega)
theorem in_Jx4a65c : ∀ w ∈ u_ws RJx4a65c TJx4a65c 3, w ∈ lwAll := by
  intro w hw
  obtain ⟨k, hk, rfl⟩ := List.mem_map.mp hw
  have hk := List.mem_range.mp hk
  match k, hk with
  | 0, _ => exact wk_in wk_h29 (List.mem_of_getElem? (i := 3) rfl)
  | 1, _ => exact wk_in wk_h28 (List.mem_of_getElem? (i := 37) rfl)
  | 2, _ => exact wk_in wk_h29 (List.mem_of_getElem? (i := 1) rfl)
  | k + 3, h => exact absurd h (by omega)
theorem in_Jx35411 : ∀ w ∈ u_ws RJx35411 TJx35411 4, w ∈ lwAll := by
  intro w hw
  obtain ⟨k, hk, rfl⟩ := List.mem_map.mp hw
  have hk := List.mem_range.mp hk
  match k, hk with
  | 0, _ => exact wk_in wk_h36 (List.mem_of_getElem? (i := 10) rfl)
  | 1, _ => exact wk_in wk_h36 (List.mem_of_getElem? (i := 12) rfl)
  | 2, _ => exact wk_in wk_h36 (List.mem_of_getElem? (i := 14) rfl)
  | 3, _ => exact wk_in wk_h36 (List.mem_of_getElem? (i := 16) rfl)
  | k + 4, h => exact absurd h (by omega)
