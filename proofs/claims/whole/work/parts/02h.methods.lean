/-! the words of each method, five by five -/
set_option maxRecDepth 100000 in
theorem am_K_13 : ((List.range' 65 5).all fun k => k == kL_law || am_kchk k) = true := by decide +kernel
set_option maxRecDepth 100000 in
theorem am_K_14 : ((List.range' 70 5).all fun k => k == kL_law || am_kchk k) = true := by decide +kernel
set_option maxRecDepth 100000 in
theorem am_K_15 : ((List.range' 75 5).all fun k => k == kL_law || am_kchk k) = true := by decide +kernel
set_option maxRecDepth 100000 in
theorem am_K_16 : ((List.range' 80 5).all fun k => k == kL_law || am_kchk k) = true := by decide +kernel
set_option maxRecDepth 100000 in
theorem am_K_17 : ((List.range' 85 5).all fun k => k == kL_law || am_kchk k) = true := by decide +kernel
set_option maxRecDepth 100000 in
theorem am_K_18 : ((List.range' 90 5).all fun k => k == kL_law || am_kchk k) = true := by decide +kernel
set_option maxRecDepth 100000 in
theorem am_K_19 : ((List.range' 95 5).all fun k => k == kL_law || am_kchk k) = true := by decide +kernel
set_option maxRecDepth 100000 in
theorem am_K_20 : ((List.range' 100 5).all fun k => k == kL_law || am_kchk k) = true := by decide +kernel
set_option maxRecDepth 100000 in
theorem am_K_21 : ((List.range' 105 5).all fun k => k == kL_law || am_kchk k) = true := by decide +kernel
set_option maxRecDepth 100000 in
theorem am_K_22 : ((List.range' 110 5).all fun k => k == kL_law || am_kchk k) = true := by decide +kernel
set_option maxRecDepth 100000 in
theorem am_K_23 : ((List.range' 115 5).all fun k => k == kL_law || am_kchk k) = true := by decide +kernel
set_option maxRecDepth 100000 in
theorem am_K_24 : ((List.range' 120 5).all fun k => k == kL_law || am_kchk k) = true := by decide +kernel
set_option maxRecDepth 100000 in
theorem am_K_25 : ((List.range' 125 5).all fun k => k == kL_law || am_kchk k) = true := by decide +kernel
