/-! 13c: every method's rows hold -/
set_option maxRecDepth 100000 in
theorem ok128 : okM 128 = true := by decide +kernel
set_option maxRecDepth 100000 in
theorem ok129 : okM 129 = true := by decide +kernel
set_option maxRecDepth 100000 in
theorem ok130 : okM 130 = true := by decide +kernel
set_option maxRecDepth 100000 in
theorem ok131 : okM 131 = true := by decide +kernel
set_option maxRecDepth 100000 in
theorem ok132 : okM 132 = true := by decide +kernel
set_option maxRecDepth 100000 in
theorem ok133 : okM 133 = true := by decide +kernel
set_option maxRecDepth 100000 in
theorem ok134 : okM 134 = true := by decide +kernel
set_option maxRecDepth 100000 in
theorem ok135 : okM 135 = true := by decide +kernel
set_option maxRecDepth 100000 in
theorem ok136 : okM 136 = true := by decide +kernel
set_option maxRecDepth 100000 in
theorem ok137 : okM 137 = true := by decide +kernel
set_option maxRecDepth 100000 in
theorem ok138 : okM 138 = true := by decide +kernel
set_option maxRecDepth 100000 in
theorem ok139 : okM 139 = true := by decide +kernel
set_option maxRecDepth 100000 in
theorem ok140 : okM 140 = true := by decide +kernel
set_option maxRecDepth 100000 in
theorem ok141 : okM 141 = true := by decide +kernel
set_option maxRecDepth 100000 in
theorem ok142 : okM 142 = true := by decide +kernel
set_option maxRecDepth 100000 in
theorem ok143 : okM 143 = true := by decide +kernel
set_option maxRecDepth 100000 in
theorem ok144 : okM 144 = true := by decide +kernel
set_option maxRecDepth 100000 in
theorem ok145 : okM 145 = true := by decide +kernel
set_option maxRecDepth 100000 in
theorem ok146 : okM 146 = true := by decide +kernel
set_option maxRecDepth 100000 in
theorem ok147 : okM 147 = true := by decide +kernel
set_option maxRecDepth 100000 in
theorem ok148 : okM 148 = true := by decide +kernel
set_option maxRecDepth 100000 in
theorem ok149 : okM 149 = true := by decide +kernel
set_option maxRecDepth 100000 in
theorem ok150 : okM 150 = true := by decide +kernel
set_option maxRecDepth 100000 in
theorem ok151 : okM 151 = true := by decide +kernel
set_option maxRecDepth 100000 in
theorem ok152 : okM 152 = true := by decide +kernel
set_option maxRecDepth 100000 in
theorem ok153 : okM 153 = true := by decide +kernel
set_option maxRecDepth 100000 in
theorem ok154 : okM 154 = true := by decide +kernel
set_option maxRecDepth 100000 in
theorem ok155 : okM 155 = true := by decide +kernel
set_option maxRecDepth 100000 in
theorem ok156 : okM 156 = true := by decide +kernel
set_option maxRecDepth 100000 in
theorem ok157 : okM 157 = true := by decide +kernel
set_option maxRecDepth 100000 in
theorem ok158 : okM 158 = true := by decide +kernel
set_option maxRecDepth 100000 in
theorem ok159 : okM 159 = true := by decide +kernel
set_option maxRecDepth 100000 in
theorem ok160 : okM 160 = true := by decide +kernel
set_option maxRecDepth 100000 in
theorem ok161 : okM 161 = true := by decide +kernel
set_option maxRecDepth 100000 in
theorem ok162 : okM 162 = true := by decide +kernel
set_option maxRecDepth 100000 in
theorem ok163 : okM 163 = true := by decide +kernel
set_option maxRecDepth 100000 in
theorem ok164 : okM 164 = true := by decide +kernel
set_option maxRecDepth 100000 in
theorem ok165 : okM 165 = true := by decide +kernel
set_option maxRecDepth 100000 in
theorem ok166 : okM 166 = true := by decide +kernel
set_option maxRecDepth 100000 in
theorem ok167 : okM 167 = true := by decide +kernel
set_option maxRecDepth 100000 in
theorem ok168 : okM 168 = true := by decide +kernel
set_option maxRecDepth 100000 in
theorem ok169 : okM 169 = true := by decide +kernel
set_option maxRecDepth 100000 in
theorem ok170 : okM 170 = true := by decide +kernel
set_option maxRecDepth 100000 in
theorem ok171 : okM 171 = true := by decide +kernel
set_option maxRecDepth 100000 in
theorem ok172 : okM 172 = true := by decide +kernel
set_option maxRecDepth 100000 in
theorem ok173 : okM 173 = true := by decide +kernel
set_option maxRecDepth 100000 in
theorem ok174 : okM 174 = true := by decide +kernel
set_option maxRecDepth 100000 in
theorem ok175 : okM 175 = true := by decide +kernel
set_option maxRecDepth 100000 in
theorem ok176 : okM 176 = true := by decide +kernel
set_option maxRecDepth 100000 in
theorem ok177 : okM 177 = true := by decide +kernel
set_option maxRecDepth 100000 in
theorem ok178 : okM 178 = true := by decide +kernel
set_option maxRecDepth 100000 in
theorem ok179 : okM 179 = true := by decide +kernel
set_option maxRecDepth 100000 in
theorem ok180 : okM 180 = true := by decide +kernel
set_option maxRecDepth 100000 in
theorem ok181 : okM 181 = true := by decide +kernel
set_option maxRecDepth 100000 in
theorem ok182 : okM 182 = true := by decide +kernel
set_option maxRecDepth 100000 in
theorem ok183 : okM 183 = true := by decide +kernel
set_option maxRecDepth 100000 in
theorem ok184 : okM 184 = true := by decide +kernel
set_option maxRecDepth 100000 in
theorem ok185 : okM 185 = true := by decide +kernel
set_option maxRecDepth 100000 in
theorem ok186 : okM 186 = true := by decide +kernel
set_option maxRecDepth 100000 in
theorem ok187 : okM 187 = true := by decide +kernel
set_option maxRecDepth 100000 in
theorem ok188 : okM 188 = true := by decide +kernel
