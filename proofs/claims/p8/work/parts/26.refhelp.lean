theorem in_X5 : ∀ w ∈ u_ws RX5 TX5 2, w ∈ lwAll := by
  have h : (u_ws RX5 TX5 2).all (fun w => decide (w ∈ lwAll)) = true := by decide +kernel
  exact fun w hw => of_decide_eq_true (List.all_eq_true.mp h w hw)
theorem in_X6 : ∀ w ∈ u_ws RX6 TX6 8, w ∈ lwAll := by
  have h : (u_ws RX6 TX6 8).all (fun w => decide (w ∈ lwAll)) = true := by decide +kernel
  exact fun w hw => of_decide_eq_true (List.all_eq_true.mp h w hw)
theorem in_X7 : ∀ w ∈ u_ws RX7 TX7 18, w ∈ lwAll := by
  have h : (u_ws RX7 TX7 18).all (fun w => decide (w ∈ lwAll)) = true := by decide +kernel
  exact fun w hw => of_decide_eq_true (List.all_eq_true.mp h w hw)
theorem in_J6 : ∀ w ∈ u_ws RJ6 TJ6 1, w ∈ lwAll := by
  have h : (u_ws RJ6 TJ6 1).all (fun w => decide (w ∈ lwAll)) = true := by decide +kernel
  exact fun w hw => of_decide_eq_true (List.all_eq_true.mp h w hw)
theorem in_Jx4a65c : ∀ w ∈ u_ws RJx4a65c TJx4a65c 3, w ∈ lwAll := by
  have h : (u_ws RJx4a65c TJx4a65c 3).all (fun w => decide (w ∈ lwAll)) = true := by decide +kernel
  exact fun w hw => of_decide_eq_true (List.all_eq_true.mp h w hw)
theorem in_Jx35411 : ∀ w ∈ u_ws RJx35411 TJx35411 4, w ∈ lwAll := by
  have h : (u_ws RJx35411 TJx35411 4).all (fun w => decide (w ∈ lwAll)) = true := by decide +kernel
  exact fun w hw => of_decide_eq_true (List.all_eq_true.mp h w hw)
