set_option maxRecDepth 100000 in
theorem bm_ok0 : [0, 1, 2, 3, 4, 5, 6, 7, 8, 9].all bm_chkM = true := by decide +kernel
set_option maxRecDepth 100000 in
theorem bm_ok1 : [10, 11, 12, 13, 14, 15, 16, 17, 18, 19].all bm_chkM = true := by decide +kernel
set_option maxRecDepth 100000 in
theorem bm_ok2 : [20, 21, 22, 23, 24, 25, 26, 27, 28, 29].all bm_chkM = true := by decide +kernel
set_option maxRecDepth 100000 in
theorem bm_ok3 : [30, 31, 32, 33, 34, 35, 36, 37, 38, 39].all bm_chkM = true := by decide +kernel
set_option maxRecDepth 100000 in
theorem bm_ok4 : [40, 41, 42, 43, 44, 45, 46, 47, 48, 49].all bm_chkM = true := by decide +kernel
set_option maxRecDepth 100000 in
theorem bm_ok5 : [50, 51, 52, 53, 54, 55, 56, 57, 58, 59].all bm_chkM = true := by decide +kernel
set_option maxRecDepth 100000 in
theorem bm_ok6 : [60, 61, 62, 63, 64, 65, 66, 67, 68, 69].all bm_chkM = true := by decide +kernel
set_option maxRecDepth 100000 in
theorem bm_ok7 : [70, 71, 72, 73, 74, 75, 76, 77, 78, 79].all bm_chkM = true := by decide +kernel
set_option maxRecDepth 100000 in
theorem bm_ok8 : [80, 81, 82, 83, 84, 85, 86, 87, 88, 89].all bm_chkM = true := by decide +kernel
set_option maxRecDepth 100000 in
theorem bm_ok9 : [90, 91, 92, 93, 94, 95, 96, 97, 98, 99].all bm_chkM = true := by decide +kernel
set_option maxRecDepth 100000 in
theorem bm_ok10 : [100, 101, 102, 103, 104, 105, 106, 107, 108, 109].all bm_chkM = true := by decide +kernel
set_option maxRecDepth 100000 in
theorem bm_ok11 : [110, 111, 112, 113, 114, 115, 116, 117, 118, 119].all bm_chkM = true := by decide +kernel
set_option maxRecDepth 100000 in
theorem bm_ok12 : [120, 121, 122, 123, 124, 125, 126, 127, 128, 129].all bm_chkM = true := by decide +kernel
set_option maxRecDepth 100000 in
theorem bm_ok13 : [130, 131, 132, 133, 134, 135, 136, 137, 138, 139].all bm_chkM = true := by decide +kernel
set_option maxRecDepth 100000 in
theorem bm_ok14 : [140, 141, 142, 143, 144, 145, 146, 147, 148, 149].all bm_chkM = true := by decide +kernel
set_option maxRecDepth 100000 in
theorem bm_ok15 : [150, 151, 152, 153, 154, 155, 156, 157, 158, 159].all bm_chkM = true := by decide +kernel
set_option maxRecDepth 100000 in
theorem bm_ok16 : [160, 161, 162, 163, 164, 165, 166, 167, 168, 169].all bm_chkM = true := by decide +kernel
set_option maxRecDepth 100000 in
theorem bm_ok17 : [170, 171, 172, 173, 174, 175, 176, 177, 178, 179].all bm_chkM = true := by decide +kernel
set_option maxRecDepth 100000 in
theorem bm_ok18 : [180, 181, 182, 183, 184, 185, 186, 187, 188, 189].all bm_chkM = true := by decide +kernel
set_option maxRecDepth 100000 in
theorem bm_ok19 : [190, 191, 192, 193, 194, 195, 196, 197, 198, 199].all bm_chkM = true := by decide +kernel
set_option maxRecDepth 100000 in
theorem bm_ok20 : [200, 201, 202, 203, 204, 205, 206, 207, 208, 209].all bm_chkM = true := by decide +kernel
set_option maxRecDepth 100000 in
theorem bm_ok21 : [210].all bm_chkM = true := by decide +kernel
