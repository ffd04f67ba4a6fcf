theorem iX0 : ∀ x ∈ u_ws RX0 TX0 (aNf 0), x ∈ lw_tbl := by decide +kernel
theorem jX0 : ∀ x ∈ u_ws RX0 TX0 (aNf 0), goodWord x = true := by decide +kernel
theorem iX1 : ∀ x ∈ u_ws RX1 TX1 (aNf 1), x ∈ lw_tbl := by decide +kernel
theorem jX1 : ∀ x ∈ u_ws RX1 TX1 (aNf 1), goodWord x = true := by decide +kernel
theorem iX2 : ∀ x ∈ u_ws RX2 TX2 (aNf 2), x ∈ lw_tbl := by decide +kernel
theorem jX2 : ∀ x ∈ u_ws RX2 TX2 (aNf 2), goodWord x = true := by decide +kernel
theorem iX3 : ∀ x ∈ u_ws RX3 TX3 (aNf 3), x ∈ lw_tbl := by decide +kernel
theorem jX3 : ∀ x ∈ u_ws RX3 TX3 (aNf 3), goodWord x = true := by decide +kernel
theorem iX4 : ∀ x ∈ u_ws RX4 TX4 (aNf 4), x ∈ lw_tbl := by decide +kernel
theorem jX4 : ∀ x ∈ u_ws RX4 TX4 (aNf 4), goodWord x = true := by decide +kernel
theorem iX5 : ∀ x ∈ u_ws RX5 TX5 (aNf 5), x ∈ lw_tbl := by decide +kernel
theorem jX5 : ∀ x ∈ u_ws RX5 TX5 (aNf 5), goodWord x = true := by decide +kernel
theorem iX6 : ∀ x ∈ u_ws RX6 TX6 (aNf 6), x ∈ lw_tbl := by decide +kernel
theorem jX6 : ∀ x ∈ u_ws RX6 TX6 (aNf 6), goodWord x = true := by decide +kernel
theorem iX7 : ∀ x ∈ u_ws RX7 TX7 (aNf 7), x ∈ lw_tbl := by decide +kernel
theorem jX7 : ∀ x ∈ u_ws RX7 TX7 (aNf 7), goodWord x = true := by decide +kernel
theorem iX8 : ∀ x ∈ u_ws RX8 TX8 (aNf 8), x ∈ lw_tbl := by decide +kernel
theorem jX8 : ∀ x ∈ u_ws RX8 TX8 (aNf 8), goodWord x = true := by decide +kernel
theorem iX9 : ∀ x ∈ u_ws RX9 TX9 (aNf 9), x ∈ lw_tbl := by decide +kernel
theorem jX9 : ∀ x ∈ u_ws RX9 TX9 (aNf 9), goodWord x = true := by decide +kernel
theorem iX10 : ∀ x ∈ u_ws RX10 TX10 (aNf 10), x ∈ lw_tbl := by decide +kernel
theorem jX10 : ∀ x ∈ u_ws RX10 TX10 (aNf 10), goodWord x = true := by decide +kernel
theorem aIn : ∀ c, c < 11 → ∀ x ∈ u_ws (aNm c) (aTT c) (aNf c), x ∈ aTb := a11 (fun x h => aTb_in (iX0 x h) (jX0 x h)) (fun x h => aTb_in (iX1 x h) (jX1 x h)) (fun x h => aTb_in (iX2 x h) (jX2 x h)) (fun x h => aTb_in (iX3 x h) (jX3 x h)) (fun x h => aTb_in (iX4 x h) (jX4 x h)) (fun x h => aTb_in (iX5 x h) (jX5 x h)) (fun x h => aTb_in (iX6 x h) (jX6 x h)) (fun x h => aTb_in (iX7 x h) (jX7 x h)) (fun x h => aTb_in (iX8 x h) (jX8 x h)) (fun x h => aTb_in (iX9 x h) (jX9 x h)) (fun x h => aTb_in (iX10 x h) (jX10 x h))
