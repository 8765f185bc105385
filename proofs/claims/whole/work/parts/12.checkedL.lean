set_option maxRecDepth 100000 in
theorem bm_okL0 : bm_chkS 211 0 60 = true := by decide +kernel
set_option maxRecDepth 100000 in
theorem bm_okL1 : bm_chkS 211 60 60 = true := by decide +kernel
set_option maxRecDepth 100000 in
theorem bm_okL2 : bm_chkS 211 120 60 = true := by decide +kernel
set_option maxRecDepth 100000 in
theorem bm_okL3 : bm_chkS 211 180 60 = true := by decide +kernel
set_option maxRecDepth 100000 in
theorem bm_okL4 : bm_chkS 211 240 60 = true := by decide +kernel
set_option maxRecDepth 100000 in
theorem bm_okL5 : bm_chkS 211 300 60 = true := by decide +kernel
set_option maxRecDepth 100000 in
theorem bm_okL6 : bm_chkS 211 360 60 = true := by decide +kernel
set_option maxRecDepth 100000 in
theorem bm_okL7 : bm_chkS 211 420 60 = true := by decide +kernel
set_option maxRecDepth 100000 in
theorem bm_okL8 : bm_chkS 211 480 60 = true := by decide +kernel
set_option maxRecDepth 100000 in
theorem bm_okL9 : bm_chkS 211 540 60 = true := by decide +kernel
set_option maxRecDepth 100000 in
theorem bm_okL10 : bm_chkS 211 600 60 = true := by decide +kernel
set_option maxRecDepth 100000 in
theorem bm_okL11 : bm_chkS 211 660 60 = true := by decide +kernel
set_option maxRecDepth 100000 in
theorem bm_okL12 : bm_chkS 211 720 60 = true := by decide +kernel
set_option maxRecDepth 100000 in
theorem bm_okL13 : bm_chkS 211 780 60 = true := by decide +kernel
set_option maxRecDepth 100000 in
theorem bm_okL14 : bm_chkS 211 840 60 = true := by decide +kernel
set_option maxRecDepth 100000 in
theorem bm_okL15 : bm_chkS 211 900 60 = true := by decide +kernel
set_option maxRecDepth 100000 in
theorem bm_okL16 : bm_chkS 211 960 60 = true := by decide +kernel
set_option maxRecDepth 100000 in
theorem bm_okL17 : bm_chkS 211 1020 60 = true := by decide +kernel
