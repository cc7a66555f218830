/-! 13a: every method's rows hold -/
set_option maxRecDepth 100000 in
theorem ok1 : okM 1 = true := by decide +kernel
set_option maxRecDepth 100000 in
theorem ok2 : okM 2 = true := by decide +kernel
set_option maxRecDepth 100000 in
theorem ok3 : okM 3 = true := by decide +kernel
set_option maxRecDepth 100000 in
theorem ok4 : okM 4 = true := by decide +kernel
set_option maxRecDepth 100000 in
theorem ok6 : okM 6 = true := by decide +kernel
set_option maxRecDepth 100000 in
theorem ok7 : okM 7 = true := by decide +kernel
set_option maxRecDepth 100000 in
theorem ok8 : okM 8 = true := by decide +kernel
set_option maxRecDepth 100000 in
theorem ok9 : okM 9 = true := by decide +kernel
set_option maxRecDepth 100000 in
theorem ok10 : okM 10 = true := by decide +kernel
set_option maxRecDepth 100000 in
theorem ok11 : okM 11 = true := by decide +kernel
set_option maxRecDepth 100000 in
theorem ok12 : okM 12 = true := by decide +kernel
set_option maxRecDepth 100000 in
theorem ok13 : okM 13 = true := by decide +kernel
set_option maxRecDepth 100000 in
theorem ok14 : okM 14 = true := by decide +kernel
set_option maxRecDepth 100000 in
theorem ok15 : okM 15 = true := by decide +kernel
set_option maxRecDepth 100000 in
theorem ok16 : okM 16 = true := by decide +kernel
set_option maxRecDepth 100000 in
theorem ok17 : okM 17 = true := by decide +kernel
set_option maxRecDepth 100000 in
theorem ok19 : okM 19 = true := by decide +kernel
set_option maxRecDepth 100000 in
theorem ok20 : okM 20 = true := by decide +kernel
set_option maxRecDepth 100000 in
theorem ok21 : okM 21 = true := by decide +kernel
set_option maxRecDepth 100000 in
theorem ok22 : okM 22 = true := by decide +kernel
set_option maxRecDepth 100000 in
theorem ok23 : okM 23 = true := by decide +kernel
set_option maxRecDepth 100000 in
theorem ok24 : okM 24 = true := by decide +kernel
set_option maxRecDepth 100000 in
theorem ok25 : okM 25 = true := by decide +kernel
set_option maxRecDepth 100000 in
theorem ok26 : okM 26 = true := by decide +kernel
set_option maxRecDepth 100000 in
theorem ok27 : okM 27 = true := by decide +kernel
set_option maxRecDepth 100000 in
theorem ok28 : okM 28 = true := by decide +kernel
set_option maxRecDepth 100000 in
theorem ok29 : okM 29 = true := by decide +kernel
set_option maxRecDepth 100000 in
theorem ok30 : okM 30 = true := by decide +kernel
set_option maxRecDepth 100000 in
theorem ok31 : okM 31 = true := by decide +kernel
set_option maxRecDepth 100000 in
theorem ok32 : okM 32 = true := by decide +kernel
set_option maxRecDepth 100000 in
theorem ok34 : okM 34 = true := by decide +kernel
set_option maxRecDepth 100000 in
theorem ok35 : okM 35 = true := by decide +kernel
set_option maxRecDepth 100000 in
theorem ok36 : okM 36 = true := by decide +kernel
set_option maxRecDepth 100000 in
theorem ok37 : okM 37 = true := by decide +kernel
set_option maxRecDepth 100000 in
theorem ok38 : okM 38 = true := by decide +kernel
set_option maxRecDepth 100000 in
theorem ok39 : okM 39 = true := by decide +kernel
set_option maxRecDepth 100000 in
theorem ok40 : okM 40 = true := by decide +kernel
set_option maxRecDepth 100000 in
theorem ok41 : okM 41 = true := by decide +kernel
set_option maxRecDepth 100000 in
theorem ok43 : okM 43 = true := by decide +kernel
set_option maxRecDepth 100000 in
theorem ok44 : okM 44 = true := by decide +kernel
set_option maxRecDepth 100000 in
theorem ok45 : okM 45 = true := by decide +kernel
set_option maxRecDepth 100000 in
theorem ok46 : okM 46 = true := by decide +kernel
set_option maxRecDepth 100000 in
theorem ok47 : okM 47 = true := by decide +kernel
set_option maxRecDepth 100000 in
theorem ok48 : okM 48 = true := by decide +kernel
set_option maxRecDepth 100000 in
theorem ok49 : okM 49 = true := by decide +kernel
set_option maxRecDepth 100000 in
theorem ok50 : okM 50 = true := by decide +kernel
set_option maxRecDepth 100000 in
theorem ok51 : okM 51 = true := by decide +kernel
set_option maxRecDepth 100000 in
theorem ok52 : okM 52 = true := by decide +kernel
set_option maxRecDepth 100000 in
theorem ok53 : okM 53 = true := by decide +kernel
set_option maxRecDepth 100000 in
theorem ok54 : okM 54 = true := by decide +kernel
set_option maxRecDepth 100000 in
theorem ok55 : okM 55 = true := by decide +kernel
set_option maxRecDepth 100000 in
theorem ok56 : okM 56 = true := by decide +kernel
set_option maxRecDepth 100000 in
theorem ok57 : okM 57 = true := by decide +kernel
set_option maxRecDepth 100000 in
theorem ok58 : okM 58 = true := by decide +kernel
set_option maxRecDepth 100000 in
theorem ok59 : okM 59 = true := by decide +kernel
set_option maxRecDepth 100000 in
theorem ok60 : okM 60 = true := by decide +kernel
set_option maxRecDepth 100000 in
theorem ok61 : okM 61 = true := by decide +kernel
set_option maxRecDepth 100000 in
theorem ok62 : okM 62 = true := by decide +kernel
set_option maxRecDepth 100000 in
theorem ok64 : okM 64 = true := by decide +kernel
set_option maxRecDepth 100000 in
theorem ok65 : okM 65 = true := by decide +kernel
set_option maxRecDepth 100000 in
theorem ok66 : okM 66 = true := by decide +kernel
set_option maxRecDepth 100000 in
theorem ok68 : okM 68 = true := by decide +kernel
set_option maxRecDepth 100000 in
theorem ok69 : okM 69 = true := by decide +kernel
set_option maxRecDepth 100000 in
theorem ok70 : okM 70 = true := by decide +kernel
set_option maxRecDepth 100000 in
theorem ok71 : okM 71 = true := by decide +kernel
set_option maxRecDepth 100000 in
theorem ok72 : okM 72 = true := by decide +kernel
set_option maxRecDepth 100000 in
theorem ok73 : okM 73 = true := by decide +kernel
set_option maxRecDepth 100000 in
theorem ok74 : okM 74 = true := by decide +kernel
