/-! the words of the classes -/
theorem ic_X0 : ∀ w ∈ u_ws RX0 TX0 3, w ∈ mj_T := by decide +kernel
theorem ic_X6 : ∀ w ∈ u_ws RX6 TX6 18, w ∈ mj_T := by decide +kernel
theorem ic_X1 : ∀ w ∈ u_ws RX1 TX1 5, w ∈ mj_T := by decide +kernel
theorem ic_X2 : ∀ w ∈ u_ws RX2 TX2 7, w ∈ mj_T := by decide +kernel
theorem ic_X8 : ∀ w ∈ u_ws RX8 TX8 5, w ∈ mj_T := by decide +kernel
theorem ic_X3 : ∀ w ∈ u_ws RX3 TX3 4, w ∈ mj_T := by decide +kernel
theorem ic_X4 : ∀ w ∈ u_ws RX4 TX4 7, w ∈ mj_T := by decide +kernel
theorem ic_X7 : ∀ w ∈ u_ws RX7 TX7 6, w ∈ mj_T := by decide +kernel
theorem ic_X9 : ∀ w ∈ u_ws RX9 TX9 3, w ∈ mj_T := by decide +kernel
theorem ic_X10 : ∀ w ∈ u_ws RX10 TX10 19, w ∈ mj_T := by decide +kernel
theorem ic_X11 : ∀ w ∈ u_ws RX11 TX11 47, w ∈ mj_T := by decide +kernel
