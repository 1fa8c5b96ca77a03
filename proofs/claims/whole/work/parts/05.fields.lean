/-! RULES OF THE HEAP: fields, arrays, new things -/
set_option maxRecDepth 100000 in
theorem inTB0 : ∀ w ∈ u_ws RX0 TX0 18, w ∈ TB := by decide +kernel
set_option maxRecDepth 100000 in
theorem inTB1 : ∀ w ∈ u_ws RX1 TX1 7, w ∈ TB := by decide +kernel
set_option maxRecDepth 100000 in
theorem inTB2 : ∀ w ∈ u_ws RX2 TX2 4, w ∈ TB := by decide +kernel
set_option maxRecDepth 100000 in
theorem inTB3 : ∀ w ∈ u_ws RX3 TX3 13, w ∈ TB := by decide +kernel
set_option maxRecDepth 100000 in
theorem inTB4 : ∀ w ∈ u_ws RX5 TX5 1, w ∈ TB := by decide +kernel
set_option maxRecDepth 100000 in
theorem inTB5 : ∀ w ∈ u_ws RX6 TX6 7, w ∈ TB := by decide +kernel
set_option maxRecDepth 100000 in
theorem inTB6 : ∀ w ∈ u_ws RX7 TX7 15, w ∈ TB := by decide +kernel
set_option maxRecDepth 100000 in
theorem inTB7 : ∀ w ∈ u_ws RX8 TX8 3, w ∈ TB := by decide +kernel
set_option maxRecDepth 100000 in
theorem inTB8 : ∀ w ∈ u_ws RX9 TX9 3, w ∈ TB := by decide +kernel
set_option maxRecDepth 100000 in
theorem inTB9 : ∀ w ∈ u_ws RX10 TX10 9, w ∈ TB := by decide +kernel
set_option maxRecDepth 100000 in
theorem inTB10 : ∀ w ∈ u_ws RX11 TX11 9, w ∈ TB := by decide +kernel
set_option maxRecDepth 100000 in
theorem inTB11 : ∀ w ∈ u_ws RX12 TX12 82, w ∈ TB := by decide +kernel
