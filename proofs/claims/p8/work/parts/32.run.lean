set_option maxRecDepth 16384 in
theorem ry_runs : ry_fall start1.p0.tables start1.e0 200 ry_s = true := by decide +kernel
