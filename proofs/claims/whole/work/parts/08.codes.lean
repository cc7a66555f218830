/-! 08.codes: each method's code stands in the tables -/
set_option maxRecDepth 100000 in
theorem cd0 : lw_tbl[359]? = some (.code (yn 0) (bc 0) (nL 0) (rt 0)) := by rfl
set_option maxRecDepth 100000 in
theorem cd1 : lw_tbl[942]? = some (.code (yn 1) (bc 1) (nL 1) (rt 1)) := by rfl
set_option maxRecDepth 100000 in
theorem cd2 : lw_tbl[954]? = some (.code (yn 2) (bc 2) (nL 2) (rt 2)) := by rfl
set_option maxRecDepth 100000 in
theorem cd3 : lw_tbl[962]? = some (.code (yn 3) (bc 3) (nL 3) (rt 3)) := by rfl
set_option maxRecDepth 100000 in
theorem cd4 : lw_tbl[946]? = some (.code (yn 4) (bc 4) (nL 4) (rt 4)) := by rfl
set_option maxRecDepth 100000 in
theorem cd5 : lw_tbl[307]? = some (.code (yn 5) (bc 5) (nL 5) (rt 5)) := by rfl
set_option maxRecDepth 100000 in
theorem cd6 : lw_tbl[646]? = some (.code (yn 6) (bc 6) (nL 6) (rt 6)) := by rfl
set_option maxRecDepth 100000 in
theorem cd7 : lw_tbl[650]? = some (.code (yn 7) (bc 7) (nL 7) (rt 7)) := by rfl
set_option maxRecDepth 100000 in
theorem cd8 : lw_tbl[657]? = some (.code (yn 8) (bc 8) (nL 8) (rt 8)) := by rfl
set_option maxRecDepth 100000 in
theorem cd9 : lw_tbl[663]? = some (.code (yn 9) (bc 9) (nL 9) (rt 9)) := by rfl
set_option maxRecDepth 100000 in
theorem cd10 : lw_tbl[704]? = some (.code (yn 10) (bc 10) (nL 10) (rt 10)) := by rfl
set_option maxRecDepth 100000 in
theorem cd11 : lw_tbl[696]? = some (.code (yn 11) (bc 11) (nL 11) (rt 11)) := by rfl
set_option maxRecDepth 100000 in
theorem cd12 : lw_tbl[712]? = some (.code (yn 12) (bc 12) (nL 12) (rt 12)) := by rfl
set_option maxRecDepth 100000 in
theorem cd13 : lw_tbl[716]? = some (.code (yn 13) (bc 13) (nL 13) (rt 13)) := by rfl
set_option maxRecDepth 100000 in
theorem cd14 : lw_tbl[720]? = some (.code (yn 14) (bc 14) (nL 14) (rt 14)) := by rfl
set_option maxRecDepth 100000 in
theorem cd15 : lw_tbl[667]? = some (.code (yn 15) (bc 15) (nL 15) (rt 15)) := by rfl
set_option maxRecDepth 100000 in
theorem cd16 : lw_tbl[708]? = some (.code (yn 16) (bc 16) (nL 16) (rt 16)) := by rfl
set_option maxRecDepth 100000 in
theorem cd17 : lw_tbl[724]? = some (.code (yn 17) (bc 17) (nL 17) (rt 17)) := by rfl
set_option maxRecDepth 100000 in
theorem cd18 : lw_tbl[237]? = some (.code (yn 18) (bc 18) (nL 18) (rt 18)) := by rfl
set_option maxRecDepth 100000 in
theorem cd19 : lw_tbl[507]? = some (.code (yn 19) (bc 19) (nL 19) (rt 19)) := by rfl
set_option maxRecDepth 100000 in
theorem cd20 : lw_tbl[628]? = some (.code (yn 20) (bc 20) (nL 20) (rt 20)) := by rfl
set_option maxRecDepth 100000 in
theorem cd21 : lw_tbl[581]? = some (.code (yn 21) (bc 21) (nL 21) (rt 21)) := by rfl
set_option maxRecDepth 100000 in
theorem cd22 : lw_tbl[585]? = some (.code (yn 22) (bc 22) (nL 22) (rt 22)) := by rfl
set_option maxRecDepth 100000 in
theorem cd23 : lw_tbl[589]? = some (.code (yn 23) (bc 23) (nL 23) (rt 23)) := by rfl
set_option maxRecDepth 100000 in
theorem cd24 : lw_tbl[613]? = some (.code (yn 24) (bc 24) (nL 24) (rt 24)) := by rfl
set_option maxRecDepth 100000 in
theorem cd25 : lw_tbl[617]? = some (.code (yn 25) (bc 25) (nL 25) (rt 25)) := by rfl
set_option maxRecDepth 100000 in
theorem cd26 : lw_tbl[620]? = some (.code (yn 26) (bc 26) (nL 26) (rt 26)) := by rfl
set_option maxRecDepth 100000 in
theorem cd27 : lw_tbl[597]? = some (.code (yn 27) (bc 27) (nL 27) (rt 27)) := by rfl
set_option maxRecDepth 100000 in
theorem cd28 : lw_tbl[601]? = some (.code (yn 28) (bc 28) (nL 28) (rt 28)) := by rfl
set_option maxRecDepth 100000 in
theorem cd29 : lw_tbl[518]? = some (.code (yn 29) (bc 29) (nL 29) (rt 29)) := by rfl
set_option maxRecDepth 100000 in
theorem cd30 : lw_tbl[525]? = some (.code (yn 30) (bc 30) (nL 30) (rt 30)) := by rfl
set_option maxRecDepth 100000 in
theorem cd31 : lw_tbl[521]? = some (.code (yn 31) (bc 31) (nL 31) (rt 31)) := by rfl
set_option maxRecDepth 100000 in
theorem cd32 : lw_tbl[577]? = some (.code (yn 32) (bc 32) (nL 32) (rt 32)) := by rfl
set_option maxRecDepth 100000 in
theorem cd33 : lw_tbl[243]? = some (.code (yn 33) (bc 33) (nL 33) (rt 33)) := by rfl
set_option maxRecDepth 100000 in
theorem cd34 : lw_tbl[514]? = some (.code (yn 34) (bc 34) (nL 34) (rt 34)) := by rfl
set_option maxRecDepth 100000 in
theorem cd35 : lw_tbl[593]? = some (.code (yn 35) (bc 35) (nL 35) (rt 35)) := by rfl
set_option maxRecDepth 100000 in
theorem cd36 : lw_tbl[609]? = some (.code (yn 36) (bc 36) (nL 36) (rt 36)) := by rfl
set_option maxRecDepth 100000 in
theorem cd37 : lw_tbl[624]? = some (.code (yn 37) (bc 37) (nL 37) (rt 37)) := by rfl
set_option maxRecDepth 100000 in
theorem cd38 : lw_tbl[605]? = some (.code (yn 38) (bc 38) (nL 38) (rt 38)) := by rfl
set_option maxRecDepth 100000 in
theorem cd39 : lw_tbl[679]? = some (.code (yn 39) (bc 39) (nL 39) (rt 39)) := by rfl
set_option maxRecDepth 100000 in
theorem cd40 : lw_tbl[683]? = some (.code (yn 40) (bc 40) (nL 40) (rt 40)) := by rfl
set_option maxRecDepth 100000 in
theorem cd41 : lw_tbl[686]? = some (.code (yn 41) (bc 41) (nL 41) (rt 41)) := by rfl
set_option maxRecDepth 100000 in
theorem cd42 : lw_tbl[125]? = some (.code (yn 42) (bc 42) (nL 42) (rt 42)) := by rfl
set_option maxRecDepth 100000 in
theorem cd43 : lw_tbl[762]? = some (.code (yn 43) (bc 43) (nL 43) (rt 43)) := by rfl
set_option maxRecDepth 100000 in
theorem cd44 : lw_tbl[765]? = some (.code (yn 44) (bc 44) (nL 44) (rt 44)) := by rfl
set_option maxRecDepth 100000 in
theorem cd45 : lw_tbl[441]? = some (.code (yn 45) (bc 45) (nL 45) (rt 45)) := by rfl
set_option maxRecDepth 100000 in
theorem cd46 : lw_tbl[465]? = some (.code (yn 46) (bc 46) (nL 46) (rt 46)) := by rfl
set_option maxRecDepth 100000 in
theorem cd47 : lw_tbl[837]? = some (.code (yn 47) (bc 47) (nL 47) (rt 47)) := by rfl
set_option maxRecDepth 100000 in
theorem cd48 : lw_tbl[422]? = some (.code (yn 48) (bc 48) (nL 48) (rt 48)) := by rfl
set_option maxRecDepth 100000 in
theorem cd49 : lw_tbl[426]? = some (.code (yn 49) (bc 49) (nL 49) (rt 49)) := by rfl
set_option maxRecDepth 100000 in
theorem cd50 : lw_tbl[470]? = some (.code (yn 50) (bc 50) (nL 50) (rt 50)) := by rfl
set_option maxRecDepth 100000 in
theorem cd51 : lw_tbl[430]? = some (.code (yn 51) (bc 51) (nL 51) (rt 51)) := by rfl
set_option maxRecDepth 100000 in
theorem cd52 : lw_tbl[671]? = some (.code (yn 52) (bc 52) (nL 52) (rt 52)) := by rfl
set_option maxRecDepth 100000 in
theorem cd53 : lw_tbl[675]? = some (.code (yn 53) (bc 53) (nL 53) (rt 53)) := by rfl
set_option maxRecDepth 100000 in
theorem cd54 : lw_tbl[700]? = some (.code (yn 54) (bc 54) (nL 54) (rt 54)) := by rfl
set_option maxRecDepth 100000 in
theorem cd55 : lw_tbl[930]? = some (.code (yn 55) (bc 55) (nL 55) (rt 55)) := by rfl
set_option maxRecDepth 100000 in
theorem cd56 : lw_tbl[922]? = some (.code (yn 56) (bc 56) (nL 56) (rt 56)) := by rfl
set_option maxRecDepth 100000 in
theorem cd57 : lw_tbl[803]? = some (.code (yn 57) (bc 57) (nL 57) (rt 57)) := by rfl
set_option maxRecDepth 100000 in
theorem cd58 : lw_tbl[807]? = some (.code (yn 58) (bc 58) (nL 58) (rt 58)) := by rfl
set_option maxRecDepth 100000 in
theorem cd59 : lw_tbl[824]? = some (.code (yn 59) (bc 59) (nL 59) (rt 59)) := by rfl
set_option maxRecDepth 100000 in
theorem cd60 : lw_tbl[829]? = some (.code (yn 60) (bc 60) (nL 60) (rt 60)) := by rfl
set_option maxRecDepth 100000 in
theorem cd61 : lw_tbl[895]? = some (.code (yn 61) (bc 61) (nL 61) (rt 61)) := by rfl
set_option maxRecDepth 100000 in
theorem cd62 : lw_tbl[950]? = some (.code (yn 62) (bc 62) (nL 62) (rt 62)) := by rfl
set_option maxRecDepth 100000 in
theorem cd63 : lw_tbl[339]? = some (.code (yn 63) (bc 63) (nL 63) (rt 63)) := by rfl
set_option maxRecDepth 100000 in
theorem cd64 : lw_tbl[899]? = some (.code (yn 64) (bc 64) (nL 64) (rt 64)) := by rfl
set_option maxRecDepth 100000 in
theorem cd65 : lw_tbl[910]? = some (.code (yn 65) (bc 65) (nL 65) (rt 65)) := by rfl
set_option maxRecDepth 100000 in
theorem cd66 : lw_tbl[904]? = some (.code (yn 66) (bc 66) (nL 66) (rt 66)) := by rfl
set_option maxRecDepth 100000 in
theorem cd67 : lw_tbl[323]? = some (.code (yn 67) (bc 67) (nL 67) (rt 67)) := by rfl
set_option maxRecDepth 100000 in
theorem cd68 : lw_tbl[841]? = some (.code (yn 68) (bc 68) (nL 68) (rt 68)) := by rfl
set_option maxRecDepth 100000 in
theorem cd69 : lw_tbl[851]? = some (.code (yn 69) (bc 69) (nL 69) (rt 69)) := by rfl
set_option maxRecDepth 100000 in
theorem cd70 : lw_tbl[866]? = some (.code (yn 70) (bc 70) (nL 70) (rt 70)) := by rfl
set_option maxRecDepth 100000 in
theorem cd71 : lw_tbl[883]? = some (.code (yn 71) (bc 71) (nL 71) (rt 71)) := by rfl
set_option maxRecDepth 100000 in
theorem cd72 : lw_tbl[870]? = some (.code (yn 72) (bc 72) (nL 72) (rt 72)) := by rfl
set_option maxRecDepth 100000 in
theorem cd73 : lw_tbl[875]? = some (.code (yn 73) (bc 73) (nL 73) (rt 73)) := by rfl
set_option maxRecDepth 100000 in
theorem cd74 : lw_tbl[879]? = some (.code (yn 74) (bc 74) (nL 74) (rt 74)) := by rfl
set_option maxRecDepth 100000 in
theorem cd75 : lw_tbl[117]? = some (.code (yn 75) (bc 75) (nL 75) (rt 75)) := by rfl
set_option maxRecDepth 100000 in
theorem cd76 : lw_tbl[418]? = some (.code (yn 76) (bc 76) (nL 76) (rt 76)) := by rfl
set_option maxRecDepth 100000 in
theorem cd77 : lw_tbl[444]? = some (.code (yn 77) (bc 77) (nL 77) (rt 77)) := by rfl
set_option maxRecDepth 100000 in
theorem cd78 : lw_tbl[415]? = some (.code (yn 78) (bc 78) (nL 78) (rt 78)) := by rfl
set_option maxRecDepth 100000 in
theorem cd79 : lw_tbl[437]? = some (.code (yn 79) (bc 79) (nL 79) (rt 79)) := by rfl
set_option maxRecDepth 100000 in
theorem cd80 : lw_tbl[449]? = some (.code (yn 80) (bc 80) (nL 80) (rt 80)) := by rfl
set_option maxRecDepth 100000 in
theorem cd81 : lw_tbl[453]? = some (.code (yn 81) (bc 81) (nL 81) (rt 81)) := by rfl
set_option maxRecDepth 100000 in
theorem cd82 : lw_tbl[457]? = some (.code (yn 82) (bc 82) (nL 82) (rt 82)) := by rfl
set_option maxRecDepth 100000 in
theorem cd83 : lw_tbl[461]? = some (.code (yn 83) (bc 83) (nL 83) (rt 83)) := by rfl
set_option maxRecDepth 100000 in
theorem cd84 : lw_tbl[474]? = some (.code (yn 84) (bc 84) (nL 84) (rt 84)) := by rfl
set_option maxRecDepth 100000 in
theorem cd85 : lw_tbl[478]? = some (.code (yn 85) (bc 85) (nL 85) (rt 85)) := by rfl
set_option maxRecDepth 100000 in
theorem cd86 : lw_tbl[482]? = some (.code (yn 86) (bc 86) (nL 86) (rt 86)) := by rfl
set_option maxRecDepth 100000 in
theorem cd87 : lw_tbl[486]? = some (.code (yn 87) (bc 87) (nL 87) (rt 87)) := by rfl
set_option maxRecDepth 100000 in
theorem cd88 : lw_tbl[490]? = some (.code (yn 88) (bc 88) (nL 88) (rt 88)) := by rfl
set_option maxRecDepth 100000 in
theorem cd89 : lw_tbl[494]? = some (.code (yn 89) (bc 89) (nL 89) (rt 89)) := by rfl
set_option maxRecDepth 100000 in
theorem cd90 : lw_tbl[498]? = some (.code (yn 90) (bc 90) (nL 90) (rt 90)) := by rfl
set_option maxRecDepth 100000 in
theorem cd91 : lw_tbl[502]? = some (.code (yn 91) (bc 91) (nL 91) (rt 91)) := by rfl
set_option maxRecDepth 100000 in
theorem cd92 : lw_tbl[637]? = some (.code (yn 92) (bc 92) (nL 92) (rt 92)) := by rfl
set_option maxRecDepth 100000 in
theorem cd93 : lw_tbl[633]? = some (.code (yn 93) (bc 93) (nL 93) (rt 93)) := by rfl
set_option maxRecDepth 100000 in
theorem cd94 : lw_tbl[642]? = some (.code (yn 94) (bc 94) (nL 94) (rt 94)) := by rfl
set_option maxRecDepth 100000 in
theorem cd95 : lw_tbl[729]? = some (.code (yn 95) (bc 95) (nL 95) (rt 95)) := by rfl
set_option maxRecDepth 100000 in
theorem cd96 : lw_tbl[733]? = some (.code (yn 96) (bc 96) (nL 96) (rt 96)) := by rfl
set_option maxRecDepth 100000 in
theorem cd97 : lw_tbl[738]? = some (.code (yn 97) (bc 97) (nL 97) (rt 97)) := by rfl
set_option maxRecDepth 100000 in
theorem cd98 : lw_tbl[742]? = some (.code (yn 98) (bc 98) (nL 98) (rt 98)) := by rfl
set_option maxRecDepth 100000 in
theorem cd99 : lw_tbl[746]? = some (.code (yn 99) (bc 99) (nL 99) (rt 99)) := by rfl
set_option maxRecDepth 100000 in
theorem cd100 : lw_tbl[750]? = some (.code (yn 100) (bc 100) (nL 100) (rt 100)) := by rfl
set_option maxRecDepth 100000 in
theorem cd101 : lw_tbl[758]? = some (.code (yn 101) (bc 101) (nL 101) (rt 101)) := by rfl
set_option maxRecDepth 100000 in
theorem cd102 : lw_tbl[755]? = some (.code (yn 102) (bc 102) (nL 102) (rt 102)) := by rfl
set_option maxRecDepth 100000 in
theorem cd103 : lw_tbl[773]? = some (.code (yn 103) (bc 103) (nL 103) (rt 103)) := by rfl
set_option maxRecDepth 100000 in
theorem cd104 : lw_tbl[777]? = some (.code (yn 104) (bc 104) (nL 104) (rt 104)) := by rfl
set_option maxRecDepth 100000 in
theorem cd105 : lw_tbl[782]? = some (.code (yn 105) (bc 105) (nL 105) (rt 105)) := by rfl
set_option maxRecDepth 100000 in
theorem cd106 : lw_tbl[786]? = some (.code (yn 106) (bc 106) (nL 106) (rt 106)) := by rfl
set_option maxRecDepth 100000 in
theorem cd107 : lw_tbl[790]? = some (.code (yn 107) (bc 107) (nL 107) (rt 107)) := by rfl
set_option maxRecDepth 100000 in
theorem cd108 : lw_tbl[795]? = some (.code (yn 108) (bc 108) (nL 108) (rt 108)) := by rfl
set_option maxRecDepth 100000 in
theorem cd109 : lw_tbl[799]? = some (.code (yn 109) (bc 109) (nL 109) (rt 109)) := by rfl
set_option maxRecDepth 100000 in
theorem cd110 : lw_tbl[812]? = some (.code (yn 110) (bc 110) (nL 110) (rt 110)) := by rfl
set_option maxRecDepth 100000 in
theorem cd111 : lw_tbl[816]? = some (.code (yn 111) (bc 111) (nL 111) (rt 111)) := by rfl
set_option maxRecDepth 100000 in
theorem cd112 : lw_tbl[820]? = some (.code (yn 112) (bc 112) (nL 112) (rt 112)) := by rfl
set_option maxRecDepth 100000 in
theorem cd113 : lw_tbl[833]? = some (.code (yn 113) (bc 113) (nL 113) (rt 113)) := by rfl
set_option maxRecDepth 100000 in
theorem cd114 : lw_tbl[857]? = some (.code (yn 114) (bc 114) (nL 114) (rt 114)) := by rfl
set_option maxRecDepth 100000 in
theorem cd115 : lw_tbl[861]? = some (.code (yn 115) (bc 115) (nL 115) (rt 115)) := by rfl
set_option maxRecDepth 100000 in
theorem cd116 : lw_tbl[887]? = some (.code (yn 116) (bc 116) (nL 116) (rt 116)) := by rfl
set_option maxRecDepth 100000 in
theorem cd117 : lw_tbl[891]? = some (.code (yn 117) (bc 117) (nL 117) (rt 117)) := by rfl
set_option maxRecDepth 100000 in
theorem cd118 : lw_tbl[914]? = some (.code (yn 118) (bc 118) (nL 118) (rt 118)) := by rfl
set_option maxRecDepth 100000 in
theorem cd119 : lw_tbl[918]? = some (.code (yn 119) (bc 119) (nL 119) (rt 119)) := by rfl
set_option maxRecDepth 100000 in
theorem cd120 : lw_tbl[926]? = some (.code (yn 120) (bc 120) (nL 120) (rt 120)) := by rfl
set_option maxRecDepth 100000 in
theorem cd121 : lw_tbl[934]? = some (.code (yn 121) (bc 121) (nL 121) (rt 121)) := by rfl
set_option maxRecDepth 100000 in
theorem cd122 : lw_tbl[938]? = some (.code (yn 122) (bc 122) (nL 122) (rt 122)) := by rfl
set_option maxRecDepth 100000 in
theorem cd123 : lw_tbl[958]? = some (.code (yn 123) (bc 123) (nL 123) (rt 123)) := by rfl
set_option maxRecDepth 100000 in
theorem cd124 : lw_tbl[966]? = some (.code (yn 124) (bc 124) (nL 124) (rt 124)) := by rfl
set_option maxRecDepth 100000 in
theorem cd125 : lw_tbl[972]? = some (.code (yn 125) (bc 125) (nL 125) (rt 125)) := by rfl
set_option maxRecDepth 100000 in
theorem cd126 : lw_tbl[976]? = some (.code (yn 126) (bc 126) (nL 126) (rt 126)) := by rfl
set_option maxRecDepth 100000 in
theorem cd127 : lw_tbl[981]? = some (.code (yn 127) (bc 127) (nL 127) (rt 127)) := by rfl
set_option maxRecDepth 100000 in
theorem cd128 : lw_tbl[1225]? = some (.code (yn 128) (bc 128) (nL 128) (rt 128)) := by rfl
set_option maxRecDepth 100000 in
theorem cd129 : lw_tbl[1471]? = some (.code (yn 129) (bc 129) (nL 129) (rt 129)) := by rfl
set_option maxRecDepth 100000 in
theorem cd130 : lw_tbl[1234]? = some (.code (yn 130) (bc 130) (nL 130) (rt 130)) := by rfl
set_option maxRecDepth 100000 in
theorem cd131 : lw_tbl[1237]? = some (.code (yn 131) (bc 131) (nL 131) (rt 131)) := by rfl
set_option maxRecDepth 100000 in
theorem cd132 : lw_tbl[1502]? = some (.code (yn 132) (bc 132) (nL 132) (rt 132)) := by rfl
set_option maxRecDepth 100000 in
theorem cd133 : lw_tbl[1499]? = some (.code (yn 133) (bc 133) (nL 133) (rt 133)) := by rfl
set_option maxRecDepth 100000 in
theorem cd134 : lw_tbl[1265]? = some (.code (yn 134) (bc 134) (nL 134) (rt 134)) := by rfl
set_option maxRecDepth 100000 in
theorem cd135 : lw_tbl[1221]? = some (.code (yn 135) (bc 135) (nL 135) (rt 135)) := by rfl
set_option maxRecDepth 100000 in
theorem cd136 : lw_tbl[1230]? = some (.code (yn 136) (bc 136) (nL 136) (rt 136)) := by rfl
set_option maxRecDepth 100000 in
theorem cd137 : lw_tbl[1243]? = some (.code (yn 137) (bc 137) (nL 137) (rt 137)) := by rfl
set_option maxRecDepth 100000 in
theorem cd138 : lw_tbl[1249]? = some (.code (yn 138) (bc 138) (nL 138) (rt 138)) := by rfl
set_option maxRecDepth 100000 in
theorem cd139 : lw_tbl[1257]? = some (.code (yn 139) (bc 139) (nL 139) (rt 139)) := by rfl
set_option maxRecDepth 100000 in
theorem cd140 : lw_tbl[1253]? = some (.code (yn 140) (bc 140) (nL 140) (rt 140)) := by rfl
set_option maxRecDepth 100000 in
theorem cd141 : lw_tbl[1270]? = some (.code (yn 141) (bc 141) (nL 141) (rt 141)) := by rfl
set_option maxRecDepth 100000 in
theorem cd142 : lw_tbl[1261]? = some (.code (yn 142) (bc 142) (nL 142) (rt 142)) := by rfl
set_option maxRecDepth 100000 in
theorem cd143 : lw_tbl[1274]? = some (.code (yn 143) (bc 143) (nL 143) (rt 143)) := by rfl
set_option maxRecDepth 100000 in
theorem cd144 : lw_tbl[1278]? = some (.code (yn 144) (bc 144) (nL 144) (rt 144)) := by rfl
set_option maxRecDepth 100000 in
theorem cd145 : lw_tbl[1282]? = some (.code (yn 145) (bc 145) (nL 145) (rt 145)) := by rfl
set_option maxRecDepth 100000 in
theorem cd146 : lw_tbl[1286]? = some (.code (yn 146) (bc 146) (nL 146) (rt 146)) := by rfl
set_option maxRecDepth 100000 in
theorem cd147 : lw_tbl[1454]? = some (.code (yn 147) (bc 147) (nL 147) (rt 147)) := by rfl
set_option maxRecDepth 100000 in
theorem cd148 : lw_tbl[1291]? = some (.code (yn 148) (bc 148) (nL 148) (rt 148)) := by rfl
set_option maxRecDepth 100000 in
theorem cd149 : lw_tbl[1295]? = some (.code (yn 149) (bc 149) (nL 149) (rt 149)) := by rfl
set_option maxRecDepth 100000 in
theorem cd150 : lw_tbl[1299]? = some (.code (yn 150) (bc 150) (nL 150) (rt 150)) := by rfl
set_option maxRecDepth 100000 in
theorem cd151 : lw_tbl[1374]? = some (.code (yn 151) (bc 151) (nL 151) (rt 151)) := by rfl
set_option maxRecDepth 100000 in
theorem cd152 : lw_tbl[1318]? = some (.code (yn 152) (bc 152) (nL 152) (rt 152)) := by rfl
set_option maxRecDepth 100000 in
theorem cd153 : lw_tbl[1332]? = some (.code (yn 153) (bc 153) (nL 153) (rt 153)) := by rfl
set_option maxRecDepth 100000 in
theorem cd154 : lw_tbl[1315]? = some (.code (yn 154) (bc 154) (nL 154) (rt 154)) := by rfl
set_option maxRecDepth 100000 in
theorem cd155 : lw_tbl[1311]? = some (.code (yn 155) (bc 155) (nL 155) (rt 155)) := by rfl
set_option maxRecDepth 100000 in
theorem cd156 : lw_tbl[1348]? = some (.code (yn 156) (bc 156) (nL 156) (rt 156)) := by rfl
set_option maxRecDepth 100000 in
theorem cd157 : lw_tbl[1326]? = some (.code (yn 157) (bc 157) (nL 157) (rt 157)) := by rfl
set_option maxRecDepth 100000 in
theorem cd158 : lw_tbl[1394]? = some (.code (yn 158) (bc 158) (nL 158) (rt 158)) := by rfl
set_option maxRecDepth 100000 in
theorem cd159 : lw_tbl[1371]? = some (.code (yn 159) (bc 159) (nL 159) (rt 159)) := by rfl
set_option maxRecDepth 100000 in
theorem cd160 : lw_tbl[1367]? = some (.code (yn 160) (bc 160) (nL 160) (rt 160)) := by rfl
set_option maxRecDepth 100000 in
theorem cd161 : lw_tbl[1344]? = some (.code (yn 161) (bc 161) (nL 161) (rt 161)) := by rfl
set_option maxRecDepth 100000 in
theorem cd162 : lw_tbl[1362]? = some (.code (yn 162) (bc 162) (nL 162) (rt 162)) := by rfl
set_option maxRecDepth 100000 in
theorem cd163 : lw_tbl[1358]? = some (.code (yn 163) (bc 163) (nL 163) (rt 163)) := by rfl
set_option maxRecDepth 100000 in
theorem cd164 : lw_tbl[1354]? = some (.code (yn 164) (bc 164) (nL 164) (rt 164)) := by rfl
set_option maxRecDepth 100000 in
theorem cd165 : lw_tbl[1411]? = some (.code (yn 165) (bc 165) (nL 165) (rt 165)) := by rfl
set_option maxRecDepth 100000 in
theorem cd166 : lw_tbl[1419]? = some (.code (yn 166) (bc 166) (nL 166) (rt 166)) := by rfl
set_option maxRecDepth 100000 in
theorem cd167 : lw_tbl[1407]? = some (.code (yn 167) (bc 167) (nL 167) (rt 167)) := by rfl
set_option maxRecDepth 100000 in
theorem cd168 : lw_tbl[1415]? = some (.code (yn 168) (bc 168) (nL 168) (rt 168)) := by rfl
set_option maxRecDepth 100000 in
theorem cd169 : lw_tbl[1402]? = some (.code (yn 169) (bc 169) (nL 169) (rt 169)) := by rfl
set_option maxRecDepth 100000 in
theorem cd170 : lw_tbl[1398]? = some (.code (yn 170) (bc 170) (nL 170) (rt 170)) := by rfl
set_option maxRecDepth 100000 in
theorem cd171 : lw_tbl[1340]? = some (.code (yn 171) (bc 171) (nL 171) (rt 171)) := by rfl
set_option maxRecDepth 100000 in
theorem cd172 : lw_tbl[1336]? = some (.code (yn 172) (bc 172) (nL 172) (rt 172)) := by rfl
set_option maxRecDepth 100000 in
theorem cd173 : lw_tbl[1307]? = some (.code (yn 173) (bc 173) (nL 173) (rt 173)) := by rfl
set_option maxRecDepth 100000 in
theorem cd174 : lw_tbl[1303]? = some (.code (yn 174) (bc 174) (nL 174) (rt 174)) := by rfl
set_option maxRecDepth 100000 in
theorem cd175 : lw_tbl[1429]? = some (.code (yn 175) (bc 175) (nL 175) (rt 175)) := by rfl
set_option maxRecDepth 100000 in
theorem cd176 : lw_tbl[1468]? = some (.code (yn 176) (bc 176) (nL 176) (rt 176)) := by rfl
set_option maxRecDepth 100000 in
theorem cd177 : lw_tbl[1465]? = some (.code (yn 177) (bc 177) (nL 177) (rt 177)) := by rfl
set_option maxRecDepth 100000 in
theorem cd178 : lw_tbl[1462]? = some (.code (yn 178) (bc 178) (nL 178) (rt 178)) := by rfl
set_option maxRecDepth 100000 in
theorem cd179 : lw_tbl[1458]? = some (.code (yn 179) (bc 179) (nL 179) (rt 179)) := by rfl
set_option maxRecDepth 100000 in
theorem cd180 : lw_tbl[1514]? = some (.code (yn 180) (bc 180) (nL 180) (rt 180)) := by rfl
set_option maxRecDepth 100000 in
theorem cd181 : lw_tbl[1450]? = some (.code (yn 181) (bc 181) (nL 181) (rt 181)) := by rfl
set_option maxRecDepth 100000 in
theorem cd182 : lw_tbl[1487]? = some (.code (yn 182) (bc 182) (nL 182) (rt 182)) := by rfl
set_option maxRecDepth 100000 in
theorem cd183 : lw_tbl[1510]? = some (.code (yn 183) (bc 183) (nL 183) (rt 183)) := by rfl
set_option maxRecDepth 100000 in
theorem cd184 : lw_tbl[1479]? = some (.code (yn 184) (bc 184) (nL 184) (rt 184)) := by rfl
set_option maxRecDepth 100000 in
theorem cd185 : lw_tbl[1483]? = some (.code (yn 185) (bc 185) (nL 185) (rt 185)) := by rfl
set_option maxRecDepth 100000 in
theorem cd186 : lw_tbl[1446]? = some (.code (yn 186) (bc 186) (nL 186) (rt 186)) := by rfl
set_option maxRecDepth 100000 in
theorem cd187 : lw_tbl[1442]? = some (.code (yn 187) (bc 187) (nL 187) (rt 187)) := by rfl
set_option maxRecDepth 100000 in
theorem cd188 : lw_tbl[1475]? = some (.code (yn 188) (bc 188) (nL 188) (rt 188)) := by rfl
set_option maxRecDepth 100000 in
theorem cd189 : lw_tbl[1506]? = some (.code (yn 189) (bc 189) (nL 189) (rt 189)) := by rfl
set_option maxRecDepth 100000 in
theorem cd190 : lw_tbl[1495]? = some (.code (yn 190) (bc 190) (nL 190) (rt 190)) := by rfl
set_option maxRecDepth 100000 in
theorem cd191 : lw_tbl[1491]? = some (.code (yn 191) (bc 191) (nL 191) (rt 191)) := by rfl
set_option maxRecDepth 100000 in
theorem cd192 : lw_tbl[1438]? = some (.code (yn 192) (bc 192) (nL 192) (rt 192)) := by rfl
set_option maxRecDepth 100000 in
theorem cd193 : lw_tbl[1434]? = some (.code (yn 193) (bc 193) (nL 193) (rt 193)) := by rfl
set_option maxRecDepth 100000 in
theorem cd194 : lw_tbl[1425]? = some (.code (yn 194) (bc 194) (nL 194) (rt 194)) := by rfl
set_option maxRecDepth 100000 in
theorem cd195 : lw_tbl[1518]? = some (.code (yn 195) (bc 195) (nL 195) (rt 195)) := by rfl
set_option maxRecDepth 100000 in
theorem cd196 : lw_tbl[1522]? = some (.code (yn 196) (bc 196) (nL 196) (rt 196)) := by rfl
set_option maxRecDepth 100000 in
theorem cd197 : lw_tbl[1526]? = some (.code (yn 197) (bc 197) (nL 197) (rt 197)) := by rfl
set_option maxRecDepth 100000 in
theorem cd198 : lw_tbl[1530]? = some (.code (yn 198) (bc 198) (nL 198) (rt 198)) := by rfl
set_option maxRecDepth 100000 in
theorem cd199 : lw_tbl[1534]? = some (.code (yn 199) (bc 199) (nL 199) (rt 199)) := by rfl
set_option maxRecDepth 100000 in
theorem cd200 : lw_tbl[1538]? = some (.code (yn 200) (bc 200) (nL 200) (rt 200)) := by rfl
set_option maxRecDepth 100000 in
theorem cd201 : lw_tbl[1554]? = some (.code (yn 201) (bc 201) (nL 201) (rt 201)) := by rfl
set_option maxRecDepth 100000 in
theorem cd202 : lw_tbl[1557]? = some (.code (yn 202) (bc 202) (nL 202) (rt 202)) := by rfl
set_option maxRecDepth 100000 in
theorem cd203 : lw_tbl[1551]? = some (.code (yn 203) (bc 203) (nL 203) (rt 203)) := by rfl
set_option maxRecDepth 100000 in
theorem cd204 : lw_tbl[1565]? = some (.code (yn 204) (bc 204) (nL 204) (rt 204)) := by rfl
set_option maxRecDepth 100000 in
theorem cd205 : lw_tbl[1561]? = some (.code (yn 205) (bc 205) (nL 205) (rt 205)) := by rfl
set_option maxRecDepth 100000 in
theorem cd206 : lw_tbl[1547]? = some (.code (yn 206) (bc 206) (nL 206) (rt 206)) := by rfl
set_option maxRecDepth 100000 in
theorem cd207 : lw_tbl[1542]? = some (.code (yn 207) (bc 207) (nL 207) (rt 207)) := by rfl
set_option maxRecDepth 100000 in
theorem cd208 : lw_tbl[1569]? = some (.code (yn 208) (bc 208) (nL 208) (rt 208)) := by rfl
set_option maxRecDepth 100000 in
theorem cd209 : lw_tbl[1573]? = some (.code (yn 209) (bc 209) (nL 209) (rt 209)) := by rfl
set_option maxRecDepth 100000 in
theorem cd210 : lw_tbl[1578]? = some (.code (yn 210) (bc 210) (nL 210) (rt 210)) := by rfl
set_option maxRecDepth 100000 in
theorem cd211 : lw_tbl[1583]? = some (.code (yn 211) (bc 211) (nL 211) (rt 211)) := by rfl
set_option maxRecDepth 100000 in
theorem cd212 : lw_tbl[1587]? = some (.code (yn 212) (bc 212) (nL 212) (rt 212)) := by rfl
set_option maxRecDepth 100000 in
theorem cd213 : lw_tbl[1591]? = some (.code (yn 213) (bc 213) (nL 213) (rt 213)) := by rfl
set_option maxRecDepth 100000 in
theorem cd214 : lw_tbl[1599]? = some (.code (yn 214) (bc 214) (nL 214) (rt 214)) := by rfl
set_option maxRecDepth 100000 in
theorem cd215 : lw_tbl[1603]? = some (.code (yn 215) (bc 215) (nL 215) (rt 215)) := by rfl
set_option maxRecDepth 100000 in
theorem cd216 : lw_tbl[1595]? = some (.code (yn 216) (bc 216) (nL 216) (rt 216)) := by rfl
set_option maxRecDepth 100000 in
theorem cd217 : lw_tbl[1607]? = some (.code (yn 217) (bc 217) (nL 217) (rt 217)) := by rfl
set_option maxRecDepth 100000 in
theorem cd218 : lw_tbl[1615]? = some (.code (yn 218) (bc 218) (nL 218) (rt 218)) := by rfl
set_option maxRecDepth 100000 in
theorem cd219 : lw_tbl[1611]? = some (.code (yn 219) (bc 219) (nL 219) (rt 219)) := by rfl
set_option maxRecDepth 100000 in
theorem cd220 : lw_tbl[1619]? = some (.code (yn 220) (bc 220) (nL 220) (rt 220)) := by rfl
set_option maxRecDepth 100000 in
theorem cd221 : lw_tbl[1623]? = some (.code (yn 221) (bc 221) (nL 221) (rt 221)) := by rfl
set_option maxRecDepth 100000 in
theorem cd222 : lw_tbl[1627]? = some (.code (yn 222) (bc 222) (nL 222) (rt 222)) := by rfl
set_option maxRecDepth 100000 in
theorem cd223 : lw_tbl[1635]? = some (.code (yn 223) (bc 223) (nL 223) (rt 223)) := by rfl
set_option maxRecDepth 100000 in
theorem cd224 : lw_tbl[1643]? = some (.code (yn 224) (bc 224) (nL 224) (rt 224)) := by rfl
set_option maxRecDepth 100000 in
theorem cd225 : lw_tbl[1647]? = some (.code (yn 225) (bc 225) (nL 225) (rt 225)) := by rfl
set_option maxRecDepth 100000 in
theorem cd226 : lw_tbl[1639]? = some (.code (yn 226) (bc 226) (nL 226) (rt 226)) := by rfl
set_option maxRecDepth 100000 in
theorem cd227 : lw_tbl[1632]? = some (.code (yn 227) (bc 227) (nL 227) (rt 227)) := by rfl
set_option maxRecDepth 100000 in
theorem cd228 : lw_tbl[1651]? = some (.code (yn 228) (bc 228) (nL 228) (rt 228)) := by rfl
set_option maxRecDepth 100000 in
theorem cd229 : lw_tbl[1661]? = some (.code (yn 229) (bc 229) (nL 229) (rt 229)) := by rfl
set_option maxRecDepth 100000 in
theorem cd230 : lw_tbl[1656]? = some (.code (yn 230) (bc 230) (nL 230) (rt 230)) := by rfl
set_option maxRecDepth 100000 in
theorem cd231 : lw_tbl[1665]? = some (.code (yn 231) (bc 231) (nL 231) (rt 231)) := by rfl
set_option maxRecDepth 100000 in
theorem cd232 : lw_tbl[1669]? = some (.code (yn 232) (bc 232) (nL 232) (rt 232)) := by rfl
set_option maxRecDepth 100000 in
theorem cd233 : lw_tbl[1673]? = some (.code (yn 233) (bc 233) (nL 233) (rt 233)) := by rfl
set_option maxRecDepth 100000 in
theorem cd234 : lw_tbl[1681]? = some (.code (yn 234) (bc 234) (nL 234) (rt 234)) := by rfl
set_option maxRecDepth 100000 in
theorem cd235 : lw_tbl[1677]? = some (.code (yn 235) (bc 235) (nL 235) (rt 235)) := by rfl
set_option maxRecDepth 100000 in
theorem cd236 : lw_tbl[1685]? = some (.code (yn 236) (bc 236) (nL 236) (rt 236)) := by rfl
set_option maxRecDepth 100000 in
theorem cd237 : lw_tbl[1697]? = some (.code (yn 237) (bc 237) (nL 237) (rt 237)) := by rfl
set_option maxRecDepth 100000 in
theorem cd238 : lw_tbl[1693]? = some (.code (yn 238) (bc 238) (nL 238) (rt 238)) := by rfl
set_option maxRecDepth 100000 in
theorem cd239 : lw_tbl[1689]? = some (.code (yn 239) (bc 239) (nL 239) (rt 239)) := by rfl
set_option maxRecDepth 100000 in
theorem cd240 : lw_tbl[1705]? = some (.code (yn 240) (bc 240) (nL 240) (rt 240)) := by rfl
set_option maxRecDepth 100000 in
theorem cd241 : lw_tbl[1701]? = some (.code (yn 241) (bc 241) (nL 241) (rt 241)) := by rfl
set_option maxRecDepth 100000 in
theorem cd242 : lw_tbl[1709]? = some (.code (yn 242) (bc 242) (nL 242) (rt 242)) := by rfl
set_option maxRecDepth 100000 in
theorem cd243 : lw_tbl[1722]? = some (.code (yn 243) (bc 243) (nL 243) (rt 243)) := by rfl
set_option maxRecDepth 100000 in
theorem cd244 : lw_tbl[1726]? = some (.code (yn 244) (bc 244) (nL 244) (rt 244)) := by rfl
set_option maxRecDepth 100000 in
theorem cd245 : lw_tbl[1718]? = some (.code (yn 245) (bc 245) (nL 245) (rt 245)) := by rfl
set_option maxRecDepth 100000 in
theorem cd246 : lw_tbl[1713]? = some (.code (yn 246) (bc 246) (nL 246) (rt 246)) := by rfl
set_option maxRecDepth 100000 in
theorem cd247 : lw_tbl[1730]? = some (.code (yn 247) (bc 247) (nL 247) (rt 247)) := by rfl
set_option maxRecDepth 100000 in
theorem cd249 : lw_tbl[844]? = some (.code (yn 249) (bc 249) (nL 249) (rt 249)) := by rfl
theorem good_code (y : MethodName) (b : ByteArray) (n : Nat) (r : Option FieldType) : goodWord (.code y b n r) = true := rfl
def CDI : List Nat := [0, 1, 2, 3, 4, 5, 6, 7, 8, 9, 10, 11, 12, 13, 14, 15, 16, 17, 18, 19, 20, 21, 22, 23, 24, 25, 26, 27, 28, 29, 30, 31, 32, 33, 34, 35, 36, 37, 38, 39, 40, 41, 42, 43, 44, 45, 46, 47, 48, 49, 50, 51, 52, 53, 54, 55, 56, 57, 58, 59, 60, 61, 62, 63, 64, 65, 66, 67, 68, 69, 70, 71, 72, 73, 74, 75, 76, 77, 78, 79, 80, 81, 82, 83, 84, 85, 86, 87, 88, 89, 90, 91, 92, 93, 94, 95, 96, 97, 98, 99, 100, 101, 102, 103, 104, 105, 106, 107, 108, 109, 110, 111, 112, 113, 114, 115, 116, 117, 118, 119, 120, 121, 122, 123, 124, 125, 126, 127, 128, 129, 130, 131, 132, 133, 134, 135, 136, 137, 138, 139, 140, 141, 142, 143, 144, 145, 146, 147, 148, 149, 150, 151, 152, 153, 154, 155, 156, 157, 158, 159, 160, 161, 162, 163, 164, 165, 166, 167, 168, 169, 170, 171, 172, 173, 174, 175, 176, 177, 178, 179, 180, 181, 182, 183, 184, 185, 186, 187, 188, 189, 190, 191, 192, 193, 194, 195, 196, 197, 198, 199, 200, 201, 202, 203, 204, 205, 206, 207, 208, 209, 210, 211, 212, 213, 214, 215, 216, 217, 218, 219, 220, 221, 222, 223, 224, 225, 226, 227, 228, 229, 230, 231, 232, 233, 234, 235, 236, 237, 238, 239, 240, 241, 242, 243, 244, 245, 246, 247, 248, 249]
theorem inC {i y : Nat} (h : lw_tbl[i]? = some (.code (yn y) (bc y) (nL y) (rt y))) : Cond.code (yn y) (bc y) (nL y) (rt y) ∈ WT := WT_in (List.mem_of_getElem? h) (good_code _ _ _ _)
theorem codes_0 : ∀ y, 0 ≤ y → y < 50 → y ≠ 248 → Cond.code (yn y) (bc y) (nL y) (rt y) ∈ WT := by
  intro y h1 h2 h3
  match y, h1, h2, h3 with
  | 0, _, _, _ => exact inC cd0
  | 1, _, _, _ => exact inC cd1
  | 2, _, _, _ => exact inC cd2
  | 3, _, _, _ => exact inC cd3
  | 4, _, _, _ => exact inC cd4
  | 5, _, _, _ => exact inC cd5
  | 6, _, _, _ => exact inC cd6
  | 7, _, _, _ => exact inC cd7
  | 8, _, _, _ => exact inC cd8
  | 9, _, _, _ => exact inC cd9
  | 10, _, _, _ => exact inC cd10
  | 11, _, _, _ => exact inC cd11
  | 12, _, _, _ => exact inC cd12
  | 13, _, _, _ => exact inC cd13
  | 14, _, _, _ => exact inC cd14
  | 15, _, _, _ => exact inC cd15
  | 16, _, _, _ => exact inC cd16
  | 17, _, _, _ => exact inC cd17
  | 18, _, _, _ => exact inC cd18
  | 19, _, _, _ => exact inC cd19
  | 20, _, _, _ => exact inC cd20
  | 21, _, _, _ => exact inC cd21
  | 22, _, _, _ => exact inC cd22
  | 23, _, _, _ => exact inC cd23
  | 24, _, _, _ => exact inC cd24
  | 25, _, _, _ => exact inC cd25
  | 26, _, _, _ => exact inC cd26
  | 27, _, _, _ => exact inC cd27
  | 28, _, _, _ => exact inC cd28
  | 29, _, _, _ => exact inC cd29
  | 30, _, _, _ => exact inC cd30
  | 31, _, _, _ => exact inC cd31
  | 32, _, _, _ => exact inC cd32
  | 33, _, _, _ => exact inC cd33
  | 34, _, _, _ => exact inC cd34
  | 35, _, _, _ => exact inC cd35
  | 36, _, _, _ => exact inC cd36
  | 37, _, _, _ => exact inC cd37
  | 38, _, _, _ => exact inC cd38
  | 39, _, _, _ => exact inC cd39
  | 40, _, _, _ => exact inC cd40
  | 41, _, _, _ => exact inC cd41
  | 42, _, _, _ => exact inC cd42
  | 43, _, _, _ => exact inC cd43
  | 44, _, _, _ => exact inC cd44
  | 45, _, _, _ => exact inC cd45
  | 46, _, _, _ => exact inC cd46
  | 47, _, _, _ => exact inC cd47
  | 48, _, _, _ => exact inC cd48
  | 49, _, _, _ => exact inC cd49
  | n + 50, _, h, _ => exact absurd h (by omega)
theorem codes_50 : ∀ y, 50 ≤ y → y < 100 → y ≠ 248 → Cond.code (yn y) (bc y) (nL y) (rt y) ∈ WT := by
  intro y h1 h2 h3
  match y, h1, h2, h3 with
  | 50, _, _, _ => exact inC cd50
  | 51, _, _, _ => exact inC cd51
  | 52, _, _, _ => exact inC cd52
  | 53, _, _, _ => exact inC cd53
  | 54, _, _, _ => exact inC cd54
  | 55, _, _, _ => exact inC cd55
  | 56, _, _, _ => exact inC cd56
  | 57, _, _, _ => exact inC cd57
  | 58, _, _, _ => exact inC cd58
  | 59, _, _, _ => exact inC cd59
  | 60, _, _, _ => exact inC cd60
  | 61, _, _, _ => exact inC cd61
  | 62, _, _, _ => exact inC cd62
  | 63, _, _, _ => exact inC cd63
  | 64, _, _, _ => exact inC cd64
  | 65, _, _, _ => exact inC cd65
  | 66, _, _, _ => exact inC cd66
  | 67, _, _, _ => exact inC cd67
  | 68, _, _, _ => exact inC cd68
  | 69, _, _, _ => exact inC cd69
  | 70, _, _, _ => exact inC cd70
  | 71, _, _, _ => exact inC cd71
  | 72, _, _, _ => exact inC cd72
  | 73, _, _, _ => exact inC cd73
  | 74, _, _, _ => exact inC cd74
  | 75, _, _, _ => exact inC cd75
  | 76, _, _, _ => exact inC cd76
  | 77, _, _, _ => exact inC cd77
  | 78, _, _, _ => exact inC cd78
  | 79, _, _, _ => exact inC cd79
  | 80, _, _, _ => exact inC cd80
  | 81, _, _, _ => exact inC cd81
  | 82, _, _, _ => exact inC cd82
  | 83, _, _, _ => exact inC cd83
  | 84, _, _, _ => exact inC cd84
  | 85, _, _, _ => exact inC cd85
  | 86, _, _, _ => exact inC cd86
  | 87, _, _, _ => exact inC cd87
  | 88, _, _, _ => exact inC cd88
  | 89, _, _, _ => exact inC cd89
  | 90, _, _, _ => exact inC cd90
  | 91, _, _, _ => exact inC cd91
  | 92, _, _, _ => exact inC cd92
  | 93, _, _, _ => exact inC cd93
  | 94, _, _, _ => exact inC cd94
  | 95, _, _, _ => exact inC cd95
  | 96, _, _, _ => exact inC cd96
  | 97, _, _, _ => exact inC cd97
  | 98, _, _, _ => exact inC cd98
  | 99, _, _, _ => exact inC cd99
  | n + 100, _, h, _ => exact absurd h (by omega)
theorem codes_100 : ∀ y, 100 ≤ y → y < 150 → y ≠ 248 → Cond.code (yn y) (bc y) (nL y) (rt y) ∈ WT := by
  intro y h1 h2 h3
  match y, h1, h2, h3 with
  | 100, _, _, _ => exact inC cd100
  | 101, _, _, _ => exact inC cd101
  | 102, _, _, _ => exact inC cd102
  | 103, _, _, _ => exact inC cd103
  | 104, _, _, _ => exact inC cd104
  | 105, _, _, _ => exact inC cd105
  | 106, _, _, _ => exact inC cd106
  | 107, _, _, _ => exact inC cd107
  | 108, _, _, _ => exact inC cd108
  | 109, _, _, _ => exact inC cd109
  | 110, _, _, _ => exact inC cd110
  | 111, _, _, _ => exact inC cd111
  | 112, _, _, _ => exact inC cd112
  | 113, _, _, _ => exact inC cd113
  | 114, _, _, _ => exact inC cd114
  | 115, _, _, _ => exact inC cd115
  | 116, _, _, _ => exact inC cd116
  | 117, _, _, _ => exact inC cd117
  | 118, _, _, _ => exact inC cd118
  | 119, _, _, _ => exact inC cd119
  | 120, _, _, _ => exact inC cd120
  | 121, _, _, _ => exact inC cd121
  | 122, _, _, _ => exact inC cd122
  | 123, _, _, _ => exact inC cd123
  | 124, _, _, _ => exact inC cd124
  | 125, _, _, _ => exact inC cd125
  | 126, _, _, _ => exact inC cd126
  | 127, _, _, _ => exact inC cd127
  | 128, _, _, _ => exact inC cd128
  | 129, _, _, _ => exact inC cd129
  | 130, _, _, _ => exact inC cd130
  | 131, _, _, _ => exact inC cd131
  | 132, _, _, _ => exact inC cd132
  | 133, _, _, _ => exact inC cd133
  | 134, _, _, _ => exact inC cd134
  | 135, _, _, _ => exact inC cd135
  | 136, _, _, _ => exact inC cd136
  | 137, _, _, _ => exact inC cd137
  | 138, _, _, _ => exact inC cd138
  | 139, _, _, _ => exact inC cd139
  | 140, _, _, _ => exact inC cd140
  | 141, _, _, _ => exact inC cd141
  | 142, _, _, _ => exact inC cd142
  | 143, _, _, _ => exact inC cd143
  | 144, _, _, _ => exact inC cd144
  | 145, _, _, _ => exact inC cd145
  | 146, _, _, _ => exact inC cd146
  | 147, _, _, _ => exact inC cd147
  | 148, _, _, _ => exact inC cd148
  | 149, _, _, _ => exact inC cd149
  | n + 150, _, h, _ => exact absurd h (by omega)
theorem codes_150 : ∀ y, 150 ≤ y → y < 200 → y ≠ 248 → Cond.code (yn y) (bc y) (nL y) (rt y) ∈ WT := by
  intro y h1 h2 h3
  match y, h1, h2, h3 with
  | 150, _, _, _ => exact inC cd150
  | 151, _, _, _ => exact inC cd151
  | 152, _, _, _ => exact inC cd152
  | 153, _, _, _ => exact inC cd153
  | 154, _, _, _ => exact inC cd154
  | 155, _, _, _ => exact inC cd155
  | 156, _, _, _ => exact inC cd156
  | 157, _, _, _ => exact inC cd157
  | 158, _, _, _ => exact inC cd158
  | 159, _, _, _ => exact inC cd159
  | 160, _, _, _ => exact inC cd160
  | 161, _, _, _ => exact inC cd161
  | 162, _, _, _ => exact inC cd162
  | 163, _, _, _ => exact inC cd163
  | 164, _, _, _ => exact inC cd164
  | 165, _, _, _ => exact inC cd165
  | 166, _, _, _ => exact inC cd166
  | 167, _, _, _ => exact inC cd167
  | 168, _, _, _ => exact inC cd168
  | 169, _, _, _ => exact inC cd169
  | 170, _, _, _ => exact inC cd170
  | 171, _, _, _ => exact inC cd171
  | 172, _, _, _ => exact inC cd172
  | 173, _, _, _ => exact inC cd173
  | 174, _, _, _ => exact inC cd174
  | 175, _, _, _ => exact inC cd175
  | 176, _, _, _ => exact inC cd176
  | 177, _, _, _ => exact inC cd177
  | 178, _, _, _ => exact inC cd178
  | 179, _, _, _ => exact inC cd179
  | 180, _, _, _ => exact inC cd180
  | 181, _, _, _ => exact inC cd181
  | 182, _, _, _ => exact inC cd182
  | 183, _, _, _ => exact inC cd183
  | 184, _, _, _ => exact inC cd184
  | 185, _, _, _ => exact inC cd185
  | 186, _, _, _ => exact inC cd186
  | 187, _, _, _ => exact inC cd187
  | 188, _, _, _ => exact inC cd188
  | 189, _, _, _ => exact inC cd189
  | 190, _, _, _ => exact inC cd190
  | 191, _, _, _ => exact inC cd191
  | 192, _, _, _ => exact inC cd192
  | 193, _, _, _ => exact inC cd193
  | 194, _, _, _ => exact inC cd194
  | 195, _, _, _ => exact inC cd195
  | 196, _, _, _ => exact inC cd196
  | 197, _, _, _ => exact inC cd197
  | 198, _, _, _ => exact inC cd198
  | 199, _, _, _ => exact inC cd199
  | n + 200, _, h, _ => exact absurd h (by omega)
theorem codes_200 : ∀ y, 200 ≤ y → y < 250 → y ≠ 248 → Cond.code (yn y) (bc y) (nL y) (rt y) ∈ WT := by
  intro y h1 h2 h3
  match y, h1, h2, h3 with
  | 200, _, _, _ => exact inC cd200
  | 201, _, _, _ => exact inC cd201
  | 202, _, _, _ => exact inC cd202
  | 203, _, _, _ => exact inC cd203
  | 204, _, _, _ => exact inC cd204
  | 205, _, _, _ => exact inC cd205
  | 206, _, _, _ => exact inC cd206
  | 207, _, _, _ => exact inC cd207
  | 208, _, _, _ => exact inC cd208
  | 209, _, _, _ => exact inC cd209
  | 210, _, _, _ => exact inC cd210
  | 211, _, _, _ => exact inC cd211
  | 212, _, _, _ => exact inC cd212
  | 213, _, _, _ => exact inC cd213
  | 214, _, _, _ => exact inC cd214
  | 215, _, _, _ => exact inC cd215
  | 216, _, _, _ => exact inC cd216
  | 217, _, _, _ => exact inC cd217
  | 218, _, _, _ => exact inC cd218
  | 219, _, _, _ => exact inC cd219
  | 220, _, _, _ => exact inC cd220
  | 221, _, _, _ => exact inC cd221
  | 222, _, _, _ => exact inC cd222
  | 223, _, _, _ => exact inC cd223
  | 224, _, _, _ => exact inC cd224
  | 225, _, _, _ => exact inC cd225
  | 226, _, _, _ => exact inC cd226
  | 227, _, _, _ => exact inC cd227
  | 228, _, _, _ => exact inC cd228
  | 229, _, _, _ => exact inC cd229
  | 230, _, _, _ => exact inC cd230
  | 231, _, _, _ => exact inC cd231
  | 232, _, _, _ => exact inC cd232
  | 233, _, _, _ => exact inC cd233
  | 234, _, _, _ => exact inC cd234
  | 235, _, _, _ => exact inC cd235
  | 236, _, _, _ => exact inC cd236
  | 237, _, _, _ => exact inC cd237
  | 238, _, _, _ => exact inC cd238
  | 239, _, _, _ => exact inC cd239
  | 240, _, _, _ => exact inC cd240
  | 241, _, _, _ => exact inC cd241
  | 242, _, _, _ => exact inC cd242
  | 243, _, _, _ => exact inC cd243
  | 244, _, _, _ => exact inC cd244
  | 245, _, _, _ => exact inC cd245
  | 246, _, _, _ => exact inC cd246
  | 247, _, _, _ => exact inC cd247
  | 248, _, _, h => exact absurd rfl h
  | 249, _, _, _ => exact inC cd249
  | n + 250, _, h, _ => exact absurd h (by omega)
