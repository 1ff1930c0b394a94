set_option maxRecDepth 16384 in
theorem rx_runs : rx_run start1.p0.tables start1.e0 120 rx_s = true := by decide +kernel
