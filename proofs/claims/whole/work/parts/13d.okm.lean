/-! 13d: every method's rows hold -/
set_option maxRecDepth 100000 in
theorem ok189 : okM 189 = true := by decide +kernel
set_option maxRecDepth 100000 in
theorem ok190 : okM 190 = true := by decide +kernel
set_option maxRecDepth 100000 in
theorem ok191 : okM 191 = true := by decide +kernel
set_option maxRecDepth 100000 in
theorem ok192 : okM 192 = true := by decide +kernel
set_option maxRecDepth 100000 in
theorem ok193 : okM 193 = true := by decide +kernel
set_option maxRecDepth 100000 in
theorem ok194 : okM 194 = true := by decide +kernel
set_option maxRecDepth 100000 in
theorem ok195 : okM 195 = true := by decide +kernel
set_option maxRecDepth 100000 in
theorem ok196 : okM 196 = true := by decide +kernel
set_option maxRecDepth 100000 in
theorem ok197 : okM 197 = true := by decide +kernel
set_option maxRecDepth 100000 in
theorem ok198 : okM 198 = true := by decide +kernel
set_option maxRecDepth 100000 in
theorem ok199 : okM 199 = true := by decide +kernel
set_option maxRecDepth 100000 in
theorem ok200 : okM 200 = true := by decide +kernel
set_option maxRecDepth 100000 in
theorem ok201 : okM 201 = true := by decide +kernel
set_option maxRecDepth 100000 in
theorem ok202 : okM 202 = true := by decide +kernel
set_option maxRecDepth 100000 in
theorem ok203 : okM 203 = true := by decide +kernel
set_option maxRecDepth 100000 in
theorem ok204 : okM 204 = true := by decide +kernel
set_option maxRecDepth 100000 in
theorem ok205 : okM 205 = true := by decide +kernel
set_option maxRecDepth 100000 in
theorem ok206 : okM 206 = true := by decide +kernel
set_option maxRecDepth 100000 in
theorem ok207 : okM 207 = true := by decide +kernel
set_option maxRecDepth 100000 in
theorem ok208 : okM 208 = true := by decide +kernel
set_option maxRecDepth 100000 in
theorem ok209 : okM 209 = true := by decide +kernel
set_option maxRecDepth 100000 in
theorem ok210 : okM 210 = true := by decide +kernel
set_option maxRecDepth 100000 in
theorem ok211 : okM 211 = true := by decide +kernel
set_option maxRecDepth 100000 in
theorem ok212 : okM 212 = true := by decide +kernel
set_option maxRecDepth 100000 in
theorem ok213 : okM 213 = true := by decide +kernel
set_option maxRecDepth 100000 in
theorem ok214 : okM 214 = true := by decide +kernel
set_option maxRecDepth 100000 in
theorem ok215 : okM 215 = true := by decide +kernel
set_option maxRecDepth 100000 in
theorem ok216 : okM 216 = true := by decide +kernel
set_option maxRecDepth 100000 in
theorem ok217 : okM 217 = true := by decide +kernel
set_option maxRecDepth 100000 in
theorem ok218 : okM 218 = true := by decide +kernel
set_option maxRecDepth 100000 in
theorem ok219 : okM 219 = true := by decide +kernel
set_option maxRecDepth 100000 in
theorem ok220 : okM 220 = true := by decide +kernel
set_option maxRecDepth 100000 in
theorem ok221 : okM 221 = true := by decide +kernel
set_option maxRecDepth 100000 in
theorem ok222 : okM 222 = true := by decide +kernel
set_option maxRecDepth 100000 in
theorem ok223 : okM 223 = true := by decide +kernel
set_option maxRecDepth 100000 in
theorem ok224 : okM 224 = true := by decide +kernel
set_option maxRecDepth 100000 in
theorem ok225 : okM 225 = true := by decide +kernel
set_option maxRecDepth 100000 in
theorem ok226 : okM 226 = true := by decide +kernel
set_option maxRecDepth 100000 in
theorem ok227 : okM 227 = true := by decide +kernel
set_option maxRecDepth 100000 in
theorem ok228 : okM 228 = true := by decide +kernel
set_option maxRecDepth 100000 in
theorem ok229 : okM 229 = true := by decide +kernel
set_option maxRecDepth 100000 in
theorem ok230 : okM 230 = true := by decide +kernel
set_option maxRecDepth 100000 in
theorem ok231 : okM 231 = true := by decide +kernel
set_option maxRecDepth 100000 in
theorem ok232 : okM 232 = true := by decide +kernel
set_option maxRecDepth 100000 in
theorem ok233 : okM 233 = true := by decide +kernel
set_option maxRecDepth 100000 in
theorem ok234 : okM 234 = true := by decide +kernel
set_option maxRecDepth 100000 in
theorem ok235 : okM 235 = true := by decide +kernel
set_option maxRecDepth 100000 in
theorem ok236 : okM 236 = true := by decide +kernel
set_option maxRecDepth 100000 in
theorem ok237 : okM 237 = true := by decide +kernel
set_option maxRecDepth 100000 in
theorem ok238 : okM 238 = true := by decide +kernel
set_option maxRecDepth 100000 in
theorem ok239 : okM 239 = true := by decide +kernel
set_option maxRecDepth 100000 in
theorem ok240 : okM 240 = true := by decide +kernel
set_option maxRecDepth 100000 in
theorem ok241 : okM 241 = true := by decide +kernel
set_option maxRecDepth 100000 in
theorem ok242 : okM 242 = true := by decide +kernel
set_option maxRecDepth 100000 in
theorem ok243 : okM 243 = true := by decide +kernel
set_option maxRecDepth 100000 in
theorem ok244 : okM 244 = true := by decide +kernel
set_option maxRecDepth 100000 in
theorem ok245 : okM 245 = true := by decide +kernel
set_option maxRecDepth 100000 in
theorem ok246 : okM 246 = true := by decide +kernel
set_option maxRecDepth 100000 in
theorem ok247 : okM 247 = true := by decide +kernel
set_option maxRecDepth 100000 in
theorem ok249 : okM 249 = true := by decide +kernel
