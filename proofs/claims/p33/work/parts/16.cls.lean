theorem zcl0 : zCl 0 RX0 TX0 10 tyX0 := ⟨rfl, (by intro w hw; exact (show ∀ w ∈ u_ws RX0 TX0 10, w ∈ lw_tbl ∧ zst w = true by decide +kernel) w hw), tyX0_ok, nmX0⟩
theorem zcl1 : zCl 1 RX1 TX1 8 tyX1 := ⟨rfl, (by intro w hw; exact (show ∀ w ∈ u_ws RX1 TX1 8, w ∈ lw_tbl ∧ zst w = true by decide +kernel) w hw), tyX1_ok, nmX1⟩
theorem zcl2 : zCl 2 RX2 TX2 8 tyX2 := ⟨rfl, (by intro w hw; exact (show ∀ w ∈ u_ws RX2 TX2 8, w ∈ lw_tbl ∧ zst w = true by decide +kernel) w hw), tyX2_ok, nmX2⟩
theorem zcl3 : zCl 3 RX3 TX3 11 tyX3 := ⟨rfl, (by intro w hw; exact (show ∀ w ∈ u_ws RX3 TX3 11, w ∈ lw_tbl ∧ zst w = true by decide +kernel) w hw), tyX3_ok, nmX3⟩
