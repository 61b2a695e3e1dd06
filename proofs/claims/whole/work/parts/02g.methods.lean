/-! the words of each method, five by five -/
set_option maxRecDepth 100000 in
theorem am_K_0 : ((List.range' 0 5).all fun k => k == kL_law || am_kchk k) = true := by decide +kernel
set_option maxRecDepth 100000 in
theorem am_K_1 : ((List.range' 5 5).all fun k => k == kL_law || am_kchk k) = true := by decide +kernel
set_option maxRecDepth 100000 in
theorem am_K_2 : ((List.range' 10 5).all fun k => k == kL_law || am_kchk k) = true := by decide +kernel
set_option maxRecDepth 100000 in
theorem am_K_3 : ((List.range' 15 5).all fun k => k == kL_law || am_kchk k) = true := by decide +kernel
set_option maxRecDepth 100000 in
theorem am_K_4 : ((List.range' 20 5).all fun k => k == kL_law || am_kchk k) = true := by decide +kernel
set_option maxRecDepth 100000 in
theorem am_K_5 : ((List.range' 25 5).all fun k => k == kL_law || am_kchk k) = true := by decide +kernel
set_option maxRecDepth 100000 in
theorem am_K_6 : ((List.range' 30 5).all fun k => k == kL_law || am_kchk k) = true := by decide +kernel
set_option maxRecDepth 100000 in
theorem am_K_7 : ((List.range' 35 5).all fun k => k == kL_law || am_kchk k) = true := by decide +kernel
set_option maxRecDepth 100000 in
theorem am_K_8 : ((List.range' 40 5).all fun k => k == kL_law || am_kchk k) = true := by decide +kernel
set_option maxRecDepth 100000 in
theorem am_K_9 : ((List.range' 45 5).all fun k => k == kL_law || am_kchk k) = true := by decide +kernel
set_option maxRecDepth 100000 in
theorem am_K_10 : ((List.range' 50 5).all fun k => k == kL_law || am_kchk k) = true := by decide +kernel
set_option maxRecDepth 100000 in
theorem am_K_11 : ((List.range' 55 5).all fun k => k == kL_law || am_kchk k) = true := by decide +kernel
set_option maxRecDepth 100000 in
theorem am_K_12 : ((List.range' 60 5).all fun k => k == kL_law || am_kchk k) = true := by decide +kernel
