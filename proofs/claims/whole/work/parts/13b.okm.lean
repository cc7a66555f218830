/-! 13b: every method's rows hold -/
set_option maxRecDepth 100000 in
theorem ok76 : okM 76 = true := by decide +kernel
set_option maxRecDepth 100000 in
theorem ok77 : okM 77 = true := by decide +kernel
set_option maxRecDepth 100000 in
theorem ok78 : okM 78 = true := by decide +kernel
set_option maxRecDepth 100000 in
theorem ok79 : okM 79 = true := by decide +kernel
set_option maxRecDepth 100000 in
theorem ok80 : okM 80 = true := by decide +kernel
set_option maxRecDepth 100000 in
theorem ok81 : okM 81 = true := by decide +kernel
set_option maxRecDepth 100000 in
theorem ok82 : okM 82 = true := by decide +kernel
set_option maxRecDepth 100000 in
theorem ok83 : okM 83 = true := by decide +kernel
set_option maxRecDepth 100000 in
theorem ok84 : okM 84 = true := by decide +kernel
set_option maxRecDepth 100000 in
theorem ok85 : okM 85 = true := by decide +kernel
set_option maxRecDepth 100000 in
theorem ok86 : okM 86 = true := by decide +kernel
set_option maxRecDepth 100000 in
theorem ok87 : okM 87 = true := by decide +kernel
set_option maxRecDepth 100000 in
theorem ok88 : okM 88 = true := by decide +kernel
set_option maxRecDepth 100000 in
theorem ok89 : okM 89 = true := by decide +kernel
set_option maxRecDepth 100000 in
theorem ok90 : okM 90 = true := by decide +kernel
set_option maxRecDepth 100000 in
theorem ok91 : okM 91 = true := by decide +kernel
set_option maxRecDepth 100000 in
theorem ok92 : okM 92 = true := by decide +kernel
set_option maxRecDepth 100000 in
theorem ok93 : okM 93 = true := by decide +kernel
set_option maxRecDepth 100000 in
theorem ok94 : okM 94 = true := by decide +kernel
set_option maxRecDepth 100000 in
theorem ok95 : okM 95 = true := by decide +kernel
set_option maxRecDepth 100000 in
theorem ok96 : okM 96 = true := by decide +kernel
set_option maxRecDepth 100000 in
theorem ok97 : okM 97 = true := by decide +kernel
set_option maxRecDepth 100000 in
theorem ok98 : okM 98 = true := by decide +kernel
set_option maxRecDepth 100000 in
theorem ok99 : okM 99 = true := by decide +kernel
set_option maxRecDepth 100000 in
theorem ok100 : okM 100 = true := by decide +kernel
set_option maxRecDepth 100000 in
theorem ok101 : okM 101 = true := by decide +kernel
set_option maxRecDepth 100000 in
theorem ok102 : okM 102 = true := by decide +kernel
set_option maxRecDepth 100000 in
theorem ok103 : okM 103 = true := by decide +kernel
set_option maxRecDepth 100000 in
theorem ok104 : okM 104 = true := by decide +kernel
set_option maxRecDepth 100000 in
theorem ok105 : okM 105 = true := by decide +kernel
set_option maxRecDepth 100000 in
theorem ok106 : okM 106 = true := by decide +kernel
set_option maxRecDepth 100000 in
theorem ok107 : okM 107 = true := by decide +kernel
set_option maxRecDepth 100000 in
theorem ok108 : okM 108 = true := by decide +kernel
set_option maxRecDepth 100000 in
theorem ok109 : okM 109 = true := by decide +kernel
set_option maxRecDepth 100000 in
theorem ok110 : okM 110 = true := by decide +kernel
set_option maxRecDepth 100000 in
theorem ok111 : okM 111 = true := by decide +kernel
set_option maxRecDepth 100000 in
theorem ok112 : okM 112 = true := by decide +kernel
set_option maxRecDepth 100000 in
theorem ok113 : okM 113 = true := by decide +kernel
set_option maxRecDepth 100000 in
theorem ok114 : okM 114 = true := by decide +kernel
set_option maxRecDepth 100000 in
theorem ok115 : okM 115 = true := by decide +kernel
set_option maxRecDepth 100000 in
theorem ok116 : okM 116 = true := by decide +kernel
set_option maxRecDepth 100000 in
theorem ok117 : okM 117 = true := by decide +kernel
set_option maxRecDepth 100000 in
theorem ok118 : okM 118 = true := by decide +kernel
set_option maxRecDepth 100000 in
theorem ok119 : okM 119 = true := by decide +kernel
set_option maxRecDepth 100000 in
theorem ok120 : okM 120 = true := by decide +kernel
set_option maxRecDepth 100000 in
theorem ok121 : okM 121 = true := by decide +kernel
set_option maxRecDepth 100000 in
theorem ok122 : okM 122 = true := by decide +kernel
set_option maxRecDepth 100000 in
theorem ok123 : okM 123 = true := by decide +kernel
set_option maxRecDepth 100000 in
theorem ok124 : okM 124 = true := by decide +kernel
set_option maxRecDepth 100000 in
theorem ok125 : okM 125 = true := by decide +kernel
set_option maxRecDepth 100000 in
theorem ok126 : okM 126 = true := by decide +kernel
