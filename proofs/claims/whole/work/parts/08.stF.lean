theorem eL_3 : xD mL 3 (.dup) 1 4 := ⟨by decide +kernel, rfl⟩
set_option maxRecDepth 20000 in
theorem eL_4 : xCI mL 4 mX9_init 0 7 := ⟨9, by decide +kernel, rfl, ⟨cm_L_9.1, cm_L_9.2.1, cm_L_9.2.2.1, cm_L_9.2.2.2.1, cm_L_9.2.2.2.2⟩, xT_1 23 rfl rfl, rfl⟩
theorem eL_7 : x_astore mL 7 1 8 := Or.inl ⟨1, by decide +kernel, rfl, rfl⟩
theorem eL_11 : xD mL 11 (.dup) 1 12 := ⟨by decide +kernel, rfl⟩
set_option maxRecDepth 20000 in
theorem eL_12 : xCI mL 12 mX10_init 0 15 := ⟨12, by decide +kernel, rfl, ⟨cm_L_12.1, cm_L_12.2.1, cm_L_12.2.2.1, cm_L_12.2.2.2.1, cm_L_12.2.2.2.2⟩, xT_4 52 rfl rfl, rfl⟩
theorem eL_15 : x_astore mL 15 2 16 := Or.inl ⟨2, by decide +kernel, rfl, rfl⟩
theorem eL_16 : xK mL 16 (nI 0) 17 := Or.inl (⟨0, by decide +kernel, by decide, rfl⟩)
theorem eL_17 : x_istore mL 17 3 18 := Or.inl ⟨3, by decide +kernel, rfl, rfl⟩
theorem eL_18 : x_iload mL 18 3 19 := Or.inl ⟨3, by decide +kernel, rfl, rfl⟩
theorem eL_19 : x_aload mL 19 0 20 := Or.inl ⟨0, by decide +kernel, rfl, rfl⟩
theorem eL_20 : xD mL 20 (.arraylength) 1 21 := ⟨by decide +kernel, rfl⟩
theorem eL_21 : xK mL 21 (nI 4) 22 := Or.inl (⟨4, by decide +kernel, by decide, rfl⟩)
theorem eL_22 : xD mL 22 (.isub) 1 23 := ⟨by decide +kernel, rfl⟩
theorem eL_23 : xJ mL 23 (.if_icmp .gt) 759 26 := ⟨(736), by decide +kernel, by decide, rfl⟩
theorem eL_26 : x_aload mL 26 0 27 := Or.inl ⟨0, by decide +kernel, rfl, rfl⟩
theorem eL_27 : x_iload mL 27 3 28 := Or.inl ⟨3, by decide +kernel, rfl, rfl⟩
theorem eL_28 : xD mL 28 (.iaload) 1 29 := ⟨by decide +kernel, rfl⟩
theorem eL_29 : xK mL 29 (nI 31) 31 := Or.inr (Or.inl (⟨31, by decide +kernel, by decide, rfl⟩))
theorem eL_31 : xD mL 31 (.iand) 1 32 := ⟨by decide +kernel, rfl⟩
def tL_32 : Int → Nat := fun v => match v with | 0 => 148 | 1 => 171 | 2 => 184 | 3 => 197 | 4 => 210 | 5 => 243 | 6 => 276 | 7 => 309 | 8 => 342 | 9 => 365 | 10 => 388 | 11 => 401 | 12 => 424 | 13 => 447 | 14 => 470 | 15 => 503 | 16 => 536 | 17 => 549 | 18 => 572 | 19 => 585 | 20 => 618 | 21 => 661 | 22 => 704 | 23 => 717 | 24 => 730 | _ => 0
theorem eL_32 : xTS mL 32 0 24 tL_32 753 := ⟨721, #[116, 139, 152, 165, 178, 211, 244, 277, 310, 333, 356, 369, 392, 415, 438, 471, 504, 517, 540, 553, 586, 629, 672, 685, 698], 116, by decide +kernel, by decide, by decide +kernel⟩
theorem eL_148 : x_aload mL 148 1 149 := Or.inl ⟨1, by decide +kernel, rfl, rfl⟩
theorem eL_149 : x_aload mL 149 0 150 := Or.inl ⟨0, by decide +kernel, rfl, rfl⟩
theorem eL_150 : x_iload mL 150 3 151 := Or.inl ⟨3, by decide +kernel, rfl, rfl⟩
theorem eL_151 : xK mL 151 (nI 1) 152 := Or.inl (⟨1, by decide +kernel, by decide, rfl⟩)
theorem eL_152 : xD mL 152 (.iadd) 1 153 := ⟨by decide +kernel, rfl⟩
theorem eL_153 : xD mL 153 (.iaload) 1 154 := ⟨by decide +kernel, rfl⟩
set_option maxRecDepth 20000 in
theorem eL_154 : xCV mL 154 mX9_write 1 9 157 := ⟨13, by decide +kernel, rfl, ⟨cm_L_13.1, cm_L_13.2.1, cm_L_13.2.2.1, cm_L_13.2.2.2.1, cm_L_13.2.2.2.2⟩, xT_2 209 rfl rfl, xT_2 210 rfl rfl, _, rfl, rfl⟩
theorem eL_157 : x_aload mL 157 2 158 := Or.inl ⟨2, by decide +kernel, rfl, rfl⟩
theorem eL_158 : x_aload mL 158 0 159 := Or.inl ⟨0, by decide +kernel, rfl, rfl⟩
theorem eL_159 : x_iload mL 159 3 160 := Or.inl ⟨3, by decide +kernel, rfl, rfl⟩
theorem eL_160 : xK mL 160 (nI 1) 161 := Or.inl (⟨1, by decide +kernel, by decide, rfl⟩)
theorem eL_161 : xD mL 161 (.iadd) 1 162 := ⟨by decide +kernel, rfl⟩
theorem eL_162 : xD mL 162 (.iaload) 1 163 := ⟨by decide +kernel, rfl⟩
set_option maxRecDepth 20000 in
theorem eL_163 : xCV mL 163 mX10_write 1 10 166 := ⟨17, by decide +kernel, rfl, ⟨cm_L_17.1, cm_L_17.2.1, cm_L_17.2.2.1, cm_L_17.2.2.2.1, cm_L_17.2.2.2.2⟩, xT_4 154 rfl rfl, xT_4 155 rfl rfl, _, rfl, rfl⟩
theorem eL_166 : xJ mL 166 (.if_icmp .eq) 753 169 := ⟨(587), by decide +kernel, by decide, rfl⟩
theorem eL_169 : xK mL 169 (nI 0) 170 := Or.inl (⟨0, by decide +kernel, by decide, rfl⟩)
theorem eL_170 : xD mL 170 (.ireturn) 1 171 := ⟨by decide +kernel, rfl⟩
theorem eL_171 : x_aload mL 171 1 172 := Or.inl ⟨1, by decide +kernel, rfl, rfl⟩
set_option maxRecDepth 20000 in
theorem eL_172 : xCV mL 172 mX9_wipe 0 9 175 := ⟨18, by decide +kernel, rfl, ⟨cm_L_18.1, cm_L_18.2.1, cm_L_18.2.2.1, cm_L_18.2.2.2.1, cm_L_18.2.2.2.2⟩, xT_2 215 rfl rfl, xT_2 216 rfl rfl, _, rfl, rfl⟩
theorem eL_175 : x_aload mL 175 2 176 := Or.inl ⟨2, by decide +kernel, rfl, rfl⟩
set_option maxRecDepth 20000 in
theorem eL_176 : xCV mL 176 mX10_wipe 0 10 179 := ⟨22, by decide +kernel, rfl, ⟨cm_L_22.1, cm_L_22.2.1, cm_L_22.2.2.1, cm_L_22.2.2.2.1, cm_L_22.2.2.2.2⟩, xT_4 163 rfl rfl, xT_4 164 rfl rfl, _, rfl, rfl⟩
theorem eL_179 : xJ mL 179 (.if_icmp .eq) 753 182 := ⟨(574), by decide +kernel, by decide, rfl⟩
theorem eL_182 : xK mL 182 (nI 0) 183 := Or.inl (⟨0, by decide +kernel, by decide, rfl⟩)
theorem eL_183 : xD mL 183 (.ireturn) 1 184 := ⟨by decide +kernel, rfl⟩
theorem eL_184 : x_aload mL 184 1 185 := Or.inl ⟨1, by decide +kernel, rfl, rfl⟩
set_option maxRecDepth 20000 in
theorem eL_185 : xCV mL 185 mX9_fault 0 9 188 := ⟨23, by decide +kernel, rfl, ⟨cm_L_23.1, cm_L_23.2.1, cm_L_23.2.2.1, cm_L_23.2.2.2.1, cm_L_23.2.2.2.2⟩, xT_2 219 rfl rfl, xT_2 220 rfl rfl, _, rfl, rfl⟩
theorem eL_188 : x_aload mL 188 2 189 := Or.inl ⟨2, by decide +kernel, rfl, rfl⟩
set_option maxRecDepth 20000 in
theorem eL_189 : xCV mL 189 mX10_fault 0 10 192 := ⟨26, by decide +kernel, rfl, ⟨cm_L_26.1, cm_L_26.2.1, cm_L_26.2.2.1, cm_L_26.2.2.2.1, cm_L_26.2.2.2.2⟩, xT_4 167 rfl rfl, xT_4 168 rfl rfl, _, rfl, rfl⟩
theorem eL_192 : xJ mL 192 (.if_icmp .eq) 753 195 := ⟨(561), by decide +kernel, by decide, rfl⟩
theorem eL_195 : xK mL 195 (nI 0) 196 := Or.inl (⟨0, by decide +kernel, by decide, rfl⟩)
theorem eL_196 : xD mL 196 (.ireturn) 1 197 := ⟨by decide +kernel, rfl⟩
theorem eL_197 : x_aload mL 197 1 198 := Or.inl ⟨1, by decide +kernel, rfl, rfl⟩
set_option maxRecDepth 20000 in
theorem eL_198 : xCV mL 198 mX9_lay 0 9 201 := ⟨27, by decide +kernel, rfl, ⟨cm_L_27.1, cm_L_27.2.1, cm_L_27.2.2.1, cm_L_27.2.2.2.1, cm_L_27.2.2.2.2⟩, xT_2 223 rfl rfl, xT_2 224 rfl rfl, _, rfl, rfl⟩
theorem eL_201 : x_aload mL 201 2 202 := Or.inl ⟨2, by decide +kernel, rfl, rfl⟩
set_option maxRecDepth 20000 in
theorem eL_202 : xCV mL 202 mX10_lay 0 10 205 := ⟨30, by decide +kernel, rfl, ⟨cm_L_30.1, cm_L_30.2.1, cm_L_30.2.2.1, cm_L_30.2.2.2.1, cm_L_30.2.2.2.2⟩, xT_4 193 rfl rfl, xT_4 194 rfl rfl, _, rfl, rfl⟩
theorem eL_205 : xJ mL 205 (.if_icmp .eq) 753 208 := ⟨(548), by decide +kernel, by decide, rfl⟩
theorem eL_208 : xK mL 208 (nI 0) 209 := Or.inl (⟨0, by decide +kernel, by decide, rfl⟩)
theorem eL_209 : xD mL 209 (.ireturn) 1 210 := ⟨by decide +kernel, rfl⟩
theorem eL_210 : x_aload mL 210 1 211 := Or.inl ⟨1, by decide +kernel, rfl, rfl⟩
theorem eL_211 : x_aload mL 211 0 212 := Or.inl ⟨0, by decide +kernel, rfl, rfl⟩
theorem eL_212 : x_iload mL 212 3 213 := Or.inl ⟨3, by decide +kernel, rfl, rfl⟩
theorem eL_213 : xK mL 213 (nI 1) 214 := Or.inl (⟨1, by decide +kernel, by decide, rfl⟩)
theorem eL_214 : xD mL 214 (.iadd) 1 215 := ⟨by decide +kernel, rfl⟩
theorem eL_215 : xD mL 215 (.iaload) 1 216 := ⟨by decide +kernel, rfl⟩
theorem eL_216 : x_aload mL 216 0 217 := Or.inl ⟨0, by decide +kernel, rfl, rfl⟩
theorem eL_217 : x_iload mL 217 3 218 := Or.inl ⟨3, by decide +kernel, rfl, rfl⟩
theorem eL_218 : xK mL 218 (nI 2) 219 := Or.inl (⟨2, by decide +kernel, by decide, rfl⟩)
theorem eL_219 : xD mL 219 (.iadd) 1 220 := ⟨by decide +kernel, rfl⟩
theorem eL_220 : xD mL 220 (.iaload) 1 221 := ⟨by decide +kernel, rfl⟩
set_option maxRecDepth 20000 in
theorem eL_221 : xCV mL 221 mX9_village 2 9 224 := ⟨31, by decide +kernel, rfl, ⟨cm_L_31.1, cm_L_31.2.1, cm_L_31.2.2.1, cm_L_31.2.2.2.1, cm_L_31.2.2.2.2⟩, xT_2 227 rfl rfl, xT_2 228 rfl rfl, _, rfl, rfl⟩
theorem eL_224 : x_aload mL 224 2 225 := Or.inl ⟨2, by decide +kernel, rfl, rfl⟩
theorem eL_225 : x_aload mL 225 0 226 := Or.inl ⟨0, by decide +kernel, rfl, rfl⟩
theorem eL_226 : x_iload mL 226 3 227 := Or.inl ⟨3, by decide +kernel, rfl, rfl⟩
theorem eL_227 : xK mL 227 (nI 1) 228 := Or.inl (⟨1, by decide +kernel, by decide, rfl⟩)
theorem eL_228 : xD mL 228 (.iadd) 1 229 := ⟨by decide +kernel, rfl⟩
theorem eL_229 : xD mL 229 (.iaload) 1 230 := ⟨by decide +kernel, rfl⟩
theorem eL_230 : x_aload mL 230 0 231 := Or.inl ⟨0, by decide +kernel, rfl, rfl⟩
theorem eL_231 : x_iload mL 231 3 232 := Or.inl ⟨3, by decide +kernel, rfl, rfl⟩
theorem eL_232 : xK mL 232 (nI 2) 233 := Or.inl (⟨2, by decide +kernel, by decide, rfl⟩)
theorem eL_233 : xD mL 233 (.iadd) 1 234 := ⟨by decide +kernel, rfl⟩
theorem eL_234 : xD mL 234 (.iaload) 1 235 := ⟨by decide +kernel, rfl⟩
set_option maxRecDepth 20000 in
theorem eL_235 : xCV mL 235 mX10_village 2 10 238 := ⟨35, by decide +kernel, rfl, ⟨cm_L_35.1, cm_L_35.2.1, cm_L_35.2.2.1, cm_L_35.2.2.2.1, cm_L_35.2.2.2.2⟩, xT_4 201 rfl rfl, xT_4 202 rfl rfl, _, rfl, rfl⟩
theorem eL_238 : xJ mL 238 (.if_icmp .eq) 753 241 := ⟨(515), by decide +kernel, by decide, rfl⟩
theorem eL_241 : xK mL 241 (nI 0) 242 := Or.inl (⟨0, by decide +kernel, by decide, rfl⟩)
theorem eL_242 : xD mL 242 (.ireturn) 1 243 := ⟨by decide +kernel, rfl⟩
theorem eL_243 : x_aload mL 243 1 244 := Or.inl ⟨1, by decide +kernel, rfl, rfl⟩
theorem eL_244 : x_aload mL 244 0 245 := Or.inl ⟨0, by decide +kernel, rfl, rfl⟩
theorem eL_245 : x_iload mL 245 3 246 := Or.inl ⟨3, by decide +kernel, rfl, rfl⟩
theorem eL_246 : xK mL 246 (nI 1) 247 := Or.inl (⟨1, by decide +kernel, by decide, rfl⟩)
theorem eL_247 : xD mL 247 (.iadd) 1 248 := ⟨by decide +kernel, rfl⟩
theorem eL_248 : xD mL 248 (.iaload) 1 249 := ⟨by decide +kernel, rfl⟩
theorem eL_249 : x_aload mL 249 0 250 := Or.inl ⟨0, by decide +kernel, rfl, rfl⟩
theorem eL_250 : x_iload mL 250 3 251 := Or.inl ⟨3, by decide +kernel, rfl, rfl⟩
theorem eL_251 : xK mL 251 (nI 2) 252 := Or.inl (⟨2, by decide +kernel, by decide, rfl⟩)
theorem eL_252 : xD mL 252 (.iadd) 1 253 := ⟨by decide +kernel, rfl⟩
theorem eL_253 : xD mL 253 (.iaload) 1 254 := ⟨by decide +kernel, rfl⟩
set_option maxRecDepth 20000 in
theorem eL_254 : xCV mL 254 mX9_party 2 9 257 := ⟨36, by decide +kernel, rfl, ⟨cm_L_36.1, cm_L_36.2.1, cm_L_36.2.2.1, cm_L_36.2.2.2.1, cm_L_36.2.2.2.2⟩, xT_3 14 rfl rfl, xT_3 15 rfl rfl, _, rfl, rfl⟩
theorem eL_257 : x_aload mL 257 2 258 := Or.inl ⟨2, by decide +kernel, rfl, rfl⟩
theorem eL_258 : x_aload mL 258 0 259 := Or.inl ⟨0, by decide +kernel, rfl, rfl⟩
theorem eL_259 : x_iload mL 259 3 260 := Or.inl ⟨3, by decide +kernel, rfl, rfl⟩
theorem eL_260 : xK mL 260 (nI 1) 261 := Or.inl (⟨1, by decide +kernel, by decide, rfl⟩)
theorem eL_261 : xD mL 261 (.iadd) 1 262 := ⟨by decide +kernel, rfl⟩
theorem eL_262 : xD mL 262 (.iaload) 1 263 := ⟨by decide +kernel, rfl⟩
theorem eL_263 : x_aload mL 263 0 264 := Or.inl ⟨0, by decide +kernel, rfl, rfl⟩
theorem eL_264 : x_iload mL 264 3 265 := Or.inl ⟨3, by decide +kernel, rfl, rfl⟩
theorem eL_265 : xK mL 265 (nI 2) 266 := Or.inl (⟨2, by decide +kernel, by decide, rfl⟩)
theorem eL_266 : xD mL 266 (.iadd) 1 267 := ⟨by decide +kernel, rfl⟩
theorem eL_267 : xD mL 267 (.iaload) 1 268 := ⟨by decide +kernel, rfl⟩
set_option maxRecDepth 20000 in
theorem eL_268 : xCV mL 268 mX10_party 2 10 271 := ⟨39, by decide +kernel, rfl, ⟨cm_L_39.1, cm_L_39.2.1, cm_L_39.2.2.1, cm_L_39.2.2.2.1, cm_L_39.2.2.2.2⟩, xT_4 237 rfl rfl, xT_4 238 rfl rfl, _, rfl, rfl⟩
theorem eL_271 : xJ mL 271 (.if_icmp .eq) 753 274 := ⟨(482), by decide +kernel, by decide, rfl⟩
theorem eL_274 : xK mL 274 (nI 0) 275 := Or.inl (⟨0, by decide +kernel, by decide, rfl⟩)
theorem eL_275 : xD mL 275 (.ireturn) 1 276 := ⟨by decide +kernel, rfl⟩
theorem eL_276 : x_aload mL 276 1 277 := Or.inl ⟨1, by decide +kernel, rfl, rfl⟩
theorem eL_277 : x_aload mL 277 0 278 := Or.inl ⟨0, by decide +kernel, rfl, rfl⟩
theorem eL_278 : x_iload mL 278 3 279 := Or.inl ⟨3, by decide +kernel, rfl, rfl⟩
theorem eL_279 : xK mL 279 (nI 1) 280 := Or.inl (⟨1, by decide +kernel, by decide, rfl⟩)
theorem eL_280 : xD mL 280 (.iadd) 1 281 := ⟨by decide +kernel, rfl⟩
theorem eL_281 : xD mL 281 (.iaload) 1 282 := ⟨by decide +kernel, rfl⟩
theorem eL_282 : x_aload mL 282 0 283 := Or.inl ⟨0, by decide +kernel, rfl, rfl⟩
theorem eL_283 : x_iload mL 283 3 284 := Or.inl ⟨3, by decide +kernel, rfl, rfl⟩
theorem eL_284 : xK mL 284 (nI 2) 285 := Or.inl (⟨2, by decide +kernel, by decide, rfl⟩)
theorem eL_285 : xD mL 285 (.iadd) 1 286 := ⟨by decide +kernel, rfl⟩
theorem eL_286 : xD mL 286 (.iaload) 1 287 := ⟨by decide +kernel, rfl⟩
set_option maxRecDepth 20000 in
theorem eL_287 : xCV mL 287 mX9_far 2 9 290 := ⟨40, by decide +kernel, rfl, ⟨cm_L_40.1, cm_L_40.2.1, cm_L_40.2.2.1, cm_L_40.2.2.2.1, cm_L_40.2.2.2.2⟩, xT_3 22 rfl rfl, xT_3 23 rfl rfl, _, rfl, rfl⟩
theorem eL_290 : x_aload mL 290 2 291 := Or.inl ⟨2, by decide +kernel, rfl, rfl⟩
theorem eL_291 : x_aload mL 291 0 292 := Or.inl ⟨0, by decide +kernel, rfl, rfl⟩
theorem eL_292 : x_iload mL 292 3 293 := Or.inl ⟨3, by decide +kernel, rfl, rfl⟩
theorem eL_293 : xK mL 293 (nI 1) 294 := Or.inl (⟨1, by decide +kernel, by decide, rfl⟩)
theorem eL_294 : xD mL 294 (.iadd) 1 295 := ⟨by decide +kernel, rfl⟩
theorem eL_295 : xD mL 295 (.iaload) 1 296 := ⟨by decide +kernel, rfl⟩
theorem eL_296 : x_aload mL 296 0 297 := Or.inl ⟨0, by decide +kernel, rfl, rfl⟩
theorem eL_297 : x_iload mL 297 3 298 := Or.inl ⟨3, by decide +kernel, rfl, rfl⟩
theorem eL_298 : xK mL 298 (nI 2) 299 := Or.inl (⟨2, by decide +kernel, by decide, rfl⟩)
theorem eL_299 : xD mL 299 (.iadd) 1 300 := ⟨by decide +kernel, rfl⟩
theorem eL_300 : xD mL 300 (.iaload) 1 301 := ⟨by decide +kernel, rfl⟩
set_option maxRecDepth 20000 in
theorem eL_301 : xCV mL 301 mX10_far 2 10 304 := ⟨43, by decide +kernel, rfl, ⟨cm_L_43.1, cm_L_43.2.1, cm_L_43.2.2.1, cm_L_43.2.2.2.1, cm_L_43.2.2.2.2⟩, xT_5 1 rfl rfl, xT_5 2 rfl rfl, _, rfl, rfl⟩
theorem eL_304 : xJ mL 304 (.if_icmp .eq) 753 307 := ⟨(449), by decide +kernel, by decide, rfl⟩
theorem eL_307 : xK mL 307 (nI 0) 308 := Or.inl (⟨0, by decide +kernel, by decide, rfl⟩)
theorem eL_308 : xD mL 308 (.ireturn) 1 309 := ⟨by decide +kernel, rfl⟩
theorem eL_309 : x_aload mL 309 1 310 := Or.inl ⟨1, by decide +kernel, rfl, rfl⟩
theorem eL_310 : x_aload mL 310 0 311 := Or.inl ⟨0, by decide +kernel, rfl, rfl⟩
theorem eL_311 : x_iload mL 311 3 312 := Or.inl ⟨3, by decide +kernel, rfl, rfl⟩
theorem eL_312 : xK mL 312 (nI 1) 313 := Or.inl (⟨1, by decide +kernel, by decide, rfl⟩)
theorem eL_313 : xD mL 313 (.iadd) 1 314 := ⟨by decide +kernel, rfl⟩
theorem eL_314 : xD mL 314 (.iaload) 1 315 := ⟨by decide +kernel, rfl⟩
theorem eL_315 : x_aload mL 315 0 316 := Or.inl ⟨0, by decide +kernel, rfl, rfl⟩
theorem eL_316 : x_iload mL 316 3 317 := Or.inl ⟨3, by decide +kernel, rfl, rfl⟩
theorem eL_317 : xK mL 317 (nI 2) 318 := Or.inl (⟨2, by decide +kernel, by decide, rfl⟩)
theorem eL_318 : xD mL 318 (.iadd) 1 319 := ⟨by decide +kernel, rfl⟩
theorem eL_319 : xD mL 319 (.iaload) 1 320 := ⟨by decide +kernel, rfl⟩
set_option maxRecDepth 20000 in
theorem eL_320 : xCV mL 320 mX9_ask 2 9 323 := ⟨44, by decide +kernel, rfl, ⟨cm_L_44.1, cm_L_44.2.1, cm_L_44.2.2.1, cm_L_44.2.2.2.1, cm_L_44.2.2.2.2⟩, xT_3 27 rfl rfl, xT_3 28 rfl rfl, _, rfl, rfl⟩
theorem eL_323 : x_aload mL 323 2 324 := Or.inl ⟨2, by decide +kernel, rfl, rfl⟩
theorem eL_324 : x_aload mL 324 0 325 := Or.inl ⟨0, by decide +kernel, rfl, rfl⟩
theorem eL_325 : x_iload mL 325 3 326 := Or.inl ⟨3, by decide +kernel, rfl, rfl⟩
theorem eL_326 : xK mL 326 (nI 1) 327 := Or.inl (⟨1, by decide +kernel, by decide, rfl⟩)
theorem eL_327 : xD mL 327 (.iadd) 1 328 := ⟨by decide +kernel, rfl⟩
theorem eL_328 : xD mL 328 (.iaload) 1 329 := ⟨by decide +kernel, rfl⟩
theorem eL_329 : x_aload mL 329 0 330 := Or.inl ⟨0, by decide +kernel, rfl, rfl⟩
theorem eL_330 : x_iload mL 330 3 331 := Or.inl ⟨3, by decide +kernel, rfl, rfl⟩
theorem eL_331 : xK mL 331 (nI 2) 332 := Or.inl (⟨2, by decide +kernel, by decide, rfl⟩)
theorem eL_332 : xD mL 332 (.iadd) 1 333 := ⟨by decide +kernel, rfl⟩
theorem eL_333 : xD mL 333 (.iaload) 1 334 := ⟨by decide +kernel, rfl⟩
set_option maxRecDepth 20000 in
theorem eL_334 : xCV mL 334 mX10_ask 2 10 337 := ⟨47, by decide +kernel, rfl, ⟨cm_L_47.1, cm_L_47.2.1, cm_L_47.2.2.1, cm_L_47.2.2.2.1, cm_L_47.2.2.2.2⟩, xT_5 5 rfl rfl, xT_5 6 rfl rfl, _, rfl, rfl⟩
theorem eL_337 : xJ mL 337 (.if_icmp .eq) 753 340 := ⟨(416), by decide +kernel, by decide, rfl⟩
theorem eL_340 : xK mL 340 (nI 0) 341 := Or.inl (⟨0, by decide +kernel, by decide, rfl⟩)
theorem eL_341 : xD mL 341 (.ireturn) 1 342 := ⟨by decide +kernel, rfl⟩
theorem eL_342 : x_aload mL 342 1 343 := Or.inl ⟨1, by decide +kernel, rfl, rfl⟩
theorem eL_343 : x_aload mL 343 0 344 := Or.inl ⟨0, by decide +kernel, rfl, rfl⟩
theorem eL_344 : x_iload mL 344 3 345 := Or.inl ⟨3, by decide +kernel, rfl, rfl⟩
theorem eL_345 : xK mL 345 (nI 1) 346 := Or.inl (⟨1, by decide +kernel, by decide, rfl⟩)
theorem eL_346 : xD mL 346 (.iadd) 1 347 := ⟨by decide +kernel, rfl⟩
theorem eL_347 : xD mL 347 (.iaload) 1 348 := ⟨by decide +kernel, rfl⟩
set_option maxRecDepth 20000 in
theorem eL_348 : xCV mL 348 mX9_check 1 9 351 := ⟨48, by decide +kernel, rfl, ⟨cm_L_48.1, cm_L_48.2.1, cm_L_48.2.2.1, cm_L_48.2.2.2.1, cm_L_48.2.2.2.2⟩, xT_3 66 rfl rfl, xT_3 67 rfl rfl, _, rfl, rfl⟩
theorem eL_351 : x_aload mL 351 2 352 := Or.inl ⟨2, by decide +kernel, rfl, rfl⟩
theorem eL_352 : x_aload mL 352 0 353 := Or.inl ⟨0, by decide +kernel, rfl, rfl⟩
theorem eL_353 : x_iload mL 353 3 354 := Or.inl ⟨3, by decide +kernel, rfl, rfl⟩
theorem eL_354 : xK mL 354 (nI 1) 355 := Or.inl (⟨1, by decide +kernel, by decide, rfl⟩)
theorem eL_355 : xD mL 355 (.iadd) 1 356 := ⟨by decide +kernel, rfl⟩
theorem eL_356 : xD mL 356 (.iaload) 1 357 := ⟨by decide +kernel, rfl⟩
set_option maxRecDepth 20000 in
theorem eL_357 : xCV mL 357 mX10_check 1 10 360 := ⟨51, by decide +kernel, rfl, ⟨cm_L_51.1, cm_L_51.2.1, cm_L_51.2.2.1, cm_L_51.2.2.2.1, cm_L_51.2.2.2.2⟩, xT_5 25 rfl rfl, xT_5 26 rfl rfl, _, rfl, rfl⟩
theorem eL_360 : xJ mL 360 (.if_icmp .eq) 753 363 := ⟨(393), by decide +kernel, by decide, rfl⟩
theorem eL_363 : xK mL 363 (nI 0) 364 := Or.inl (⟨0, by decide +kernel, by decide, rfl⟩)
theorem eL_364 : xD mL 364 (.ireturn) 1 365 := ⟨by decide +kernel, rfl⟩
theorem eL_365 : x_aload mL 365 1 366 := Or.inl ⟨1, by decide +kernel, rfl, rfl⟩
theorem eL_366 : x_aload mL 366 0 367 := Or.inl ⟨0, by decide +kernel, rfl, rfl⟩
theorem eL_367 : x_iload mL 367 3 368 := Or.inl ⟨3, by decide +kernel, rfl, rfl⟩
theorem eL_368 : xK mL 368 (nI 1) 369 := Or.inl (⟨1, by decide +kernel, by decide, rfl⟩)
theorem eL_369 : xD mL 369 (.iadd) 1 370 := ⟨by decide +kernel, rfl⟩
theorem eL_370 : xD mL 370 (.iaload) 1 371 := ⟨by decide +kernel, rfl⟩
set_option maxRecDepth 20000 in
theorem eL_371 : xCV mL 371 mX9_strike 1 9 374 := ⟨52, by decide +kernel, rfl, ⟨cm_L_52.1, cm_L_52.2.1, cm_L_52.2.2.1, cm_L_52.2.2.2.1, cm_L_52.2.2.2.2⟩, xT_3 79 rfl rfl, xT_3 80 rfl rfl, _, rfl, rfl⟩
theorem eL_374 : x_aload mL 374 2 375 := Or.inl ⟨2, by decide +kernel, rfl, rfl⟩
theorem eL_375 : x_aload mL 375 0 376 := Or.inl ⟨0, by decide +kernel, rfl, rfl⟩
theorem eL_376 : x_iload mL 376 3 377 := Or.inl ⟨3, by decide +kernel, rfl, rfl⟩
theorem eL_377 : xK mL 377 (nI 1) 378 := Or.inl (⟨1, by decide +kernel, by decide, rfl⟩)
theorem eL_378 : xD mL 378 (.iadd) 1 379 := ⟨by decide +kernel, rfl⟩
theorem eL_379 : xD mL 379 (.iaload) 1 380 := ⟨by decide +kernel, rfl⟩
set_option maxRecDepth 20000 in
theorem eL_380 : xCV mL 380 mX10_strike 1 10 383 := ⟨55, by decide +kernel, rfl, ⟨cm_L_55.1, cm_L_55.2.1, cm_L_55.2.2.1, cm_L_55.2.2.2.1, cm_L_55.2.2.2.2⟩, xT_5 37 rfl rfl, xT_5 38 rfl rfl, _, rfl, rfl⟩
theorem eL_383 : xJ mL 383 (.if_icmp .eq) 753 386 := ⟨(370), by decide +kernel, by decide, rfl⟩
theorem eL_386 : xK mL 386 (nI 0) 387 := Or.inl (⟨0, by decide +kernel, by decide, rfl⟩)
theorem eL_387 : xD mL 387 (.ireturn) 1 388 := ⟨by decide +kernel, rfl⟩
theorem eL_388 : x_aload mL 388 1 389 := Or.inl ⟨1, by decide +kernel, rfl, rfl⟩
set_option maxRecDepth 20000 in
theorem eL_389 : xCV mL 389 mX9_undo 0 9 392 := ⟨56, by decide +kernel, rfl, ⟨cm_L_56.1, cm_L_56.2.1, cm_L_56.2.2.1, cm_L_56.2.2.2.1, cm_L_56.2.2.2.2⟩, xT_3 87 rfl rfl, xT_3 88 rfl rfl, _, rfl, rfl⟩
theorem eL_392 : x_aload mL 392 2 393 := Or.inl ⟨2, by decide +kernel, rfl, rfl⟩
set_option maxRecDepth 20000 in
theorem eL_393 : xCV mL 393 mX10_undo 0 10 396 := ⟨59, by decide +kernel, rfl, ⟨cm_L_59.1, cm_L_59.2.1, cm_L_59.2.2.1, cm_L_59.2.2.2.1, cm_L_59.2.2.2.2⟩, xT_5 45 rfl rfl, xT_5 46 rfl rfl, _, rfl, rfl⟩
theorem eL_396 : xJ mL 396 (.if_icmp .eq) 753 399 := ⟨(357), by decide +kernel, by decide, rfl⟩
theorem eL_399 : xK mL 399 (nI 0) 400 := Or.inl (⟨0, by decide +kernel, by decide, rfl⟩)
theorem eL_400 : xD mL 400 (.ireturn) 1 401 := ⟨by decide +kernel, rfl⟩
theorem eL_401 : x_aload mL 401 1 402 := Or.inl ⟨1, by decide +kernel, rfl, rfl⟩
theorem eL_402 : x_aload mL 402 0 403 := Or.inl ⟨0, by decide +kernel, rfl, rfl⟩
theorem eL_403 : x_iload mL 403 3 404 := Or.inl ⟨3, by decide +kernel, rfl, rfl⟩
theorem eL_404 : xK mL 404 (nI 1) 405 := Or.inl (⟨1, by decide +kernel, by decide, rfl⟩)
theorem eL_405 : xD mL 405 (.iadd) 1 406 := ⟨by decide +kernel, rfl⟩
theorem eL_406 : xD mL 406 (.iaload) 1 407 := ⟨by decide +kernel, rfl⟩
set_option maxRecDepth 20000 in
theorem eL_407 : xCV mL 407 mX9_soonest 1 9 410 := ⟨60, by decide +kernel, rfl, ⟨cm_L_60.1, cm_L_60.2.1, cm_L_60.2.2.1, cm_L_60.2.2.2.1, cm_L_60.2.2.2.2⟩, xT_3 95 rfl rfl, xT_3 96 rfl rfl, _, rfl, rfl⟩
theorem eL_410 : x_aload mL 410 2 411 := Or.inl ⟨2, by decide +kernel, rfl, rfl⟩
theorem eL_411 : x_aload mL 411 0 412 := Or.inl ⟨0, by decide +kernel, rfl, rfl⟩
theorem eL_412 : x_iload mL 412 3 413 := Or.inl ⟨3, by decide +kernel, rfl, rfl⟩
theorem eL_413 : xK mL 413 (nI 1) 414 := Or.inl (⟨1, by decide +kernel, by decide, rfl⟩)
theorem eL_414 : xD mL 414 (.iadd) 1 415 := ⟨by decide +kernel, rfl⟩
theorem eL_415 : xD mL 415 (.iaload) 1 416 := ⟨by decide +kernel, rfl⟩
set_option maxRecDepth 20000 in
theorem eL_416 : xCV mL 416 mX10_soonest 1 10 419 := ⟨63, by decide +kernel, rfl, ⟨cm_L_63.1, cm_L_63.2.1, cm_L_63.2.2.1, cm_L_63.2.2.2.1, cm_L_63.2.2.2.2⟩, xT_5 49 rfl rfl, xT_5 50 rfl rfl, _, rfl, rfl⟩
theorem eL_419 : xJ mL 419 (.if_icmp .eq) 753 422 := ⟨(334), by decide +kernel, by decide, rfl⟩
theorem eL_422 : xK mL 422 (nI 0) 423 := Or.inl (⟨0, by decide +kernel, by decide, rfl⟩)
theorem eL_423 : xD mL 423 (.ireturn) 1 424 := ⟨by decide +kernel, rfl⟩
theorem eL_424 : x_aload mL 424 1 425 := Or.inl ⟨1, by decide +kernel, rfl, rfl⟩
theorem eL_425 : x_aload mL 425 0 426 := Or.inl ⟨0, by decide +kernel, rfl, rfl⟩
theorem eL_426 : x_iload mL 426 3 427 := Or.inl ⟨3, by decide +kernel, rfl, rfl⟩
theorem eL_427 : xK mL 427 (nI 1) 428 := Or.inl (⟨1, by decide +kernel, by decide, rfl⟩)
theorem eL_428 : xD mL 428 (.iadd) 1 429 := ⟨by decide +kernel, rfl⟩
theorem eL_429 : xD mL 429 (.iaload) 1 430 := ⟨by decide +kernel, rfl⟩
set_option maxRecDepth 20000 in
theorem eL_430 : xCV mL 430 mX9_most 1 9 433 := ⟨64, by decide +kernel, rfl, ⟨cm_L_64.1, cm_L_64.2.1, cm_L_64.2.2.1, cm_L_64.2.2.2.1, cm_L_64.2.2.2.2⟩, xT_3 143 rfl rfl, xT_3 144 rfl rfl, _, rfl, rfl⟩
theorem eL_433 : x_aload mL 433 2 434 := Or.inl ⟨2, by decide +kernel, rfl, rfl⟩
theorem eL_434 : x_aload mL 434 0 435 := Or.inl ⟨0, by decide +kernel, rfl, rfl⟩
theorem eL_435 : x_iload mL 435 3 436 := Or.inl ⟨3, by decide +kernel, rfl, rfl⟩
theorem eL_436 : xK mL 436 (nI 1) 437 := Or.inl (⟨1, by decide +kernel, by decide, rfl⟩)
theorem eL_437 : xD mL 437 (.iadd) 1 438 := ⟨by decide +kernel, rfl⟩
theorem eL_438 : xD mL 438 (.iaload) 1 439 := ⟨by decide +kernel, rfl⟩
set_option maxRecDepth 20000 in
theorem eL_439 : xCV mL 439 mX10_most 1 10 442 := ⟨67, by decide +kernel, rfl, ⟨cm_L_67.1, cm_L_67.2.1, cm_L_67.2.2.1, cm_L_67.2.2.2.1, cm_L_67.2.2.2.2⟩, xT_5 74 rfl rfl, xT_5 75 rfl rfl, _, rfl, rfl⟩
theorem eL_442 : xJ mL 442 (.if_icmp .eq) 753 445 := ⟨(311), by decide +kernel, by decide, rfl⟩
theorem eL_445 : xK mL 445 (nI 0) 446 := Or.inl (⟨0, by decide +kernel, by decide, rfl⟩)
theorem eL_446 : xD mL 446 (.ireturn) 1 447 := ⟨by decide +kernel, rfl⟩
theorem eL_447 : x_aload mL 447 1 448 := Or.inl ⟨1, by decide +kernel, rfl, rfl⟩
theorem eL_448 : x_aload mL 448 0 449 := Or.inl ⟨0, by decide +kernel, rfl, rfl⟩
theorem eL_449 : x_iload mL 449 3 450 := Or.inl ⟨3, by decide +kernel, rfl, rfl⟩
theorem eL_450 : xK mL 450 (nI 1) 451 := Or.inl (⟨1, by decide +kernel, by decide, rfl⟩)
theorem eL_451 : xD mL 451 (.iadd) 1 452 := ⟨by decide +kernel, rfl⟩
theorem eL_452 : xD mL 452 (.iaload) 1 453 := ⟨by decide +kernel, rfl⟩
set_option maxRecDepth 20000 in
theorem eL_453 : xCV mL 453 mX9_least 1 9 456 := ⟨68, by decide +kernel, rfl, ⟨cm_L_68.1, cm_L_68.2.1, cm_L_68.2.2.1, cm_L_68.2.2.2.1, cm_L_68.2.2.2.2⟩, xT_3 173 rfl rfl, xT_3 174 rfl rfl, _, rfl, rfl⟩
theorem eL_456 : x_aload mL 456 2 457 := Or.inl ⟨2, by decide +kernel, rfl, rfl⟩
theorem eL_457 : x_aload mL 457 0 458 := Or.inl ⟨0, by decide +kernel, rfl, rfl⟩
theorem eL_458 : x_iload mL 458 3 459 := Or.inl ⟨3, by decide +kernel, rfl, rfl⟩
theorem eL_459 : xK mL 459 (nI 1) 460 := Or.inl (⟨1, by decide +kernel, by decide, rfl⟩)
theorem eL_460 : xD mL 460 (.iadd) 1 461 := ⟨by decide +kernel, rfl⟩
theorem eL_461 : xD mL 461 (.iaload) 1 462 := ⟨by decide +kernel, rfl⟩
set_option maxRecDepth 20000 in
theorem eL_462 : xCV mL 462 mX10_least 1 10 465 := ⟨71, by decide +kernel, rfl, ⟨cm_L_71.1, cm_L_71.2.1, cm_L_71.2.2.1, cm_L_71.2.2.2.1, cm_L_71.2.2.2.2⟩, xT_5 103 rfl rfl, xT_5 104 rfl rfl, _, rfl, rfl⟩
theorem eL_465 : xJ mL 465 (.if_icmp .eq) 753 468 := ⟨(288), by decide +kernel, by decide, rfl⟩
theorem eL_468 : xK mL 468 (nI 0) 469 := Or.inl (⟨0, by decide +kernel, by decide, rfl⟩)
theorem eL_469 : xD mL 469 (.ireturn) 1 470 := ⟨by decide +kernel, rfl⟩
theorem eL_470 : x_aload mL 470 1 471 := Or.inl ⟨1, by decide +kernel, rfl, rfl⟩
theorem eL_471 : x_aload mL 471 0 472 := Or.inl ⟨0, by decide +kernel, rfl, rfl⟩
theorem eL_472 : x_iload mL 472 3 473 := Or.inl ⟨3, by decide +kernel, rfl, rfl⟩
theorem eL_473 : xK mL 473 (nI 1) 474 := Or.inl (⟨1, by decide +kernel, by decide, rfl⟩)
theorem eL_474 : xD mL 474 (.iadd) 1 475 := ⟨by decide +kernel, rfl⟩
theorem eL_475 : xD mL 475 (.iaload) 1 476 := ⟨by decide +kernel, rfl⟩
theorem eL_476 : x_aload mL 476 0 477 := Or.inl ⟨0, by decide +kernel, rfl, rfl⟩
theorem eL_477 : x_iload mL 477 3 478 := Or.inl ⟨3, by decide +kernel, rfl, rfl⟩
theorem eL_478 : xK mL 478 (nI 2) 479 := Or.inl (⟨2, by decide +kernel, by decide, rfl⟩)
theorem eL_479 : xD mL 479 (.iadd) 1 480 := ⟨by decide +kernel, rfl⟩
theorem eL_480 : xD mL 480 (.iaload) 1 481 := ⟨by decide +kernel, rfl⟩
set_option maxRecDepth 20000 in
theorem eL_481 : xCV mL 481 mX9_checks 2 9 484 := ⟨72, by decide +kernel, rfl, ⟨cm_L_72.1, cm_L_72.2.1, cm_L_72.2.2.1, cm_L_72.2.2.2.1, cm_L_72.2.2.2.2⟩, xT_3 177 rfl rfl, xT_3 178 rfl rfl, _, rfl, rfl⟩
theorem eL_484 : x_aload mL 484 2 485 := Or.inl ⟨2, by decide +kernel, rfl, rfl⟩
theorem eL_485 : x_aload mL 485 0 486 := Or.inl ⟨0, by decide +kernel, rfl, rfl⟩
theorem eL_486 : x_iload mL 486 3 487 := Or.inl ⟨3, by decide +kernel, rfl, rfl⟩
theorem eL_487 : xK mL 487 (nI 1) 488 := Or.inl (⟨1, by decide +kernel, by decide, rfl⟩)
theorem eL_488 : xD mL 488 (.iadd) 1 489 := ⟨by decide +kernel, rfl⟩
theorem eL_489 : xD mL 489 (.iaload) 1 490 := ⟨by decide +kernel, rfl⟩
theorem eL_490 : x_aload mL 490 0 491 := Or.inl ⟨0, by decide +kernel, rfl, rfl⟩
theorem eL_491 : x_iload mL 491 3 492 := Or.inl ⟨3, by decide +kernel, rfl, rfl⟩
theorem eL_492 : xK mL 492 (nI 2) 493 := Or.inl (⟨2, by decide +kernel, by decide, rfl⟩)
theorem eL_493 : xD mL 493 (.iadd) 1 494 := ⟨by decide +kernel, rfl⟩
theorem eL_494 : xD mL 494 (.iaload) 1 495 := ⟨by decide +kernel, rfl⟩
set_option maxRecDepth 20000 in
theorem eL_495 : xCV mL 495 mX10_checks 2 10 498 := ⟨75, by decide +kernel, rfl, ⟨cm_L_75.1, cm_L_75.2.1, cm_L_75.2.2.1, cm_L_75.2.2.2.1, cm_L_75.2.2.2.2⟩, xT_5 107 rfl rfl, xT_5 108 rfl rfl, _, rfl, rfl⟩
theorem eL_498 : xJ mL 498 (.if_icmp .eq) 753 501 := ⟨(255), by decide +kernel, by decide, rfl⟩
theorem eL_501 : xK mL 501 (nI 0) 502 := Or.inl (⟨0, by decide +kernel, by decide, rfl⟩)
theorem eL_502 : xD mL 502 (.ireturn) 1 503 := ⟨by decide +kernel, rfl⟩
theorem eL_503 : x_aload mL 503 1 504 := Or.inl ⟨1, by decide +kernel, rfl, rfl⟩
theorem eL_504 : x_aload mL 504 0 505 := Or.inl ⟨0, by decide +kernel, rfl, rfl⟩
theorem eL_505 : x_iload mL 505 3 506 := Or.inl ⟨3, by decide +kernel, rfl, rfl⟩
theorem eL_506 : xK mL 506 (nI 1) 507 := Or.inl (⟨1, by decide +kernel, by decide, rfl⟩)
theorem eL_507 : xD mL 507 (.iadd) 1 508 := ⟨by decide +kernel, rfl⟩
theorem eL_508 : xD mL 508 (.iaload) 1 509 := ⟨by decide +kernel, rfl⟩
theorem eL_509 : x_aload mL 509 0 510 := Or.inl ⟨0, by decide +kernel, rfl, rfl⟩
theorem eL_510 : x_iload mL 510 3 511 := Or.inl ⟨3, by decide +kernel, rfl, rfl⟩
theorem eL_511 : xK mL 511 (nI 2) 512 := Or.inl (⟨2, by decide +kernel, by decide, rfl⟩)
theorem eL_512 : xD mL 512 (.iadd) 1 513 := ⟨by decide +kernel, rfl⟩
theorem eL_513 : xD mL 513 (.iaload) 1 514 := ⟨by decide +kernel, rfl⟩
set_option maxRecDepth 20000 in
theorem eL_514 : xCV mL 514 mX9_see 2 9 517 := ⟨76, by decide +kernel, rfl, ⟨cm_L_76.1, cm_L_76.2.1, cm_L_76.2.2.1, cm_L_76.2.2.2.1, cm_L_76.2.2.2.2⟩, xT_3 191 rfl rfl, xT_3 192 rfl rfl, _, rfl, rfl⟩
theorem eL_517 : x_aload mL 517 2 518 := Or.inl ⟨2, by decide +kernel, rfl, rfl⟩
theorem eL_518 : x_aload mL 518 0 519 := Or.inl ⟨0, by decide +kernel, rfl, rfl⟩
theorem eL_519 : x_iload mL 519 3 520 := Or.inl ⟨3, by decide +kernel, rfl, rfl⟩
theorem eL_520 : xK mL 520 (nI 1) 521 := Or.inl (⟨1, by decide +kernel, by decide, rfl⟩)
theorem eL_521 : xD mL 521 (.iadd) 1 522 := ⟨by decide +kernel, rfl⟩
theorem eL_522 : xD mL 522 (.iaload) 1 523 := ⟨by decide +kernel, rfl⟩
theorem eL_523 : x_aload mL 523 0 524 := Or.inl ⟨0, by decide +kernel, rfl, rfl⟩
theorem eL_524 : x_iload mL 524 3 525 := Or.inl ⟨3, by decide +kernel, rfl, rfl⟩
theorem eL_525 : xK mL 525 (nI 2) 526 := Or.inl (⟨2, by decide +kernel, by decide, rfl⟩)
theorem eL_526 : xD mL 526 (.iadd) 1 527 := ⟨by decide +kernel, rfl⟩
theorem eL_527 : xD mL 527 (.iaload) 1 528 := ⟨by decide +kernel, rfl⟩
set_option maxRecDepth 20000 in
theorem eL_528 : xCV mL 528 mX10_see 2 10 531 := ⟨79, by decide +kernel, rfl, ⟨cm_L_79.1, cm_L_79.2.1, cm_L_79.2.2.1, cm_L_79.2.2.2.1, cm_L_79.2.2.2.2⟩, xT_5 115 rfl rfl, xT_5 116 rfl rfl, _, rfl, rfl⟩
theorem eL_531 : xJ mL 531 (.if_icmp .eq) 753 534 := ⟨(222), by decide +kernel, by decide, rfl⟩
theorem eL_534 : xK mL 534 (nI 0) 535 := Or.inl (⟨0, by decide +kernel, by decide, rfl⟩)
theorem eL_535 : xD mL 535 (.ireturn) 1 536 := ⟨by decide +kernel, rfl⟩
theorem eL_536 : x_aload mL 536 1 537 := Or.inl ⟨1, by decide +kernel, rfl, rfl⟩
set_option maxRecDepth 20000 in
theorem eL_537 : xCV mL 537 mX9_forget 0 9 540 := ⟨80, by decide +kernel, rfl, ⟨cm_L_80.1, cm_L_80.2.1, cm_L_80.2.2.1, cm_L_80.2.2.2.1, cm_L_80.2.2.2.2⟩, xT_3 204 rfl rfl, xT_3 205 rfl rfl, _, rfl, rfl⟩
theorem eL_540 : x_aload mL 540 2 541 := Or.inl ⟨2, by decide +kernel, rfl, rfl⟩
set_option maxRecDepth 20000 in
theorem eL_541 : xCV mL 541 mX10_forget 0 10 544 := ⟨83, by decide +kernel, rfl, ⟨cm_L_83.1, cm_L_83.2.1, cm_L_83.2.2.1, cm_L_83.2.2.2.1, cm_L_83.2.2.2.2⟩, xT_5 120 rfl rfl, xT_5 121 rfl rfl, _, rfl, rfl⟩
theorem eL_544 : xJ mL 544 (.if_icmp .eq) 753 547 := ⟨(209), by decide +kernel, by decide, rfl⟩
theorem eL_547 : xK mL 547 (nI 0) 548 := Or.inl (⟨0, by decide +kernel, by decide, rfl⟩)
theorem eL_548 : xD mL 548 (.ireturn) 1 549 := ⟨by decide +kernel, rfl⟩
theorem eL_549 : x_aload mL 549 1 550 := Or.inl ⟨1, by decide +kernel, rfl, rfl⟩
theorem eL_550 : x_aload mL 550 0 551 := Or.inl ⟨0, by decide +kernel, rfl, rfl⟩
theorem eL_551 : x_iload mL 551 3 552 := Or.inl ⟨3, by decide +kernel, rfl, rfl⟩
theorem eL_552 : xK mL 552 (nI 1) 553 := Or.inl (⟨1, by decide +kernel, by decide, rfl⟩)
theorem eL_553 : xD mL 553 (.iadd) 1 554 := ⟨by decide +kernel, rfl⟩
theorem eL_554 : xD mL 554 (.iaload) 1 555 := ⟨by decide +kernel, rfl⟩
set_option maxRecDepth 20000 in
theorem eL_555 : xCV mL 555 mX9_kinds 1 9 558 := ⟨84, by decide +kernel, rfl, ⟨cm_L_84.1, cm_L_84.2.1, cm_L_84.2.2.1, cm_L_84.2.2.2.1, cm_L_84.2.2.2.2⟩, xT_3 208 rfl rfl, xT_3 209 rfl rfl, _, rfl, rfl⟩
theorem eL_558 : x_aload mL 558 2 559 := Or.inl ⟨2, by decide +kernel, rfl, rfl⟩
theorem eL_559 : x_aload mL 559 0 560 := Or.inl ⟨0, by decide +kernel, rfl, rfl⟩
theorem eL_560 : x_iload mL 560 3 561 := Or.inl ⟨3, by decide +kernel, rfl, rfl⟩
theorem eL_561 : xK mL 561 (nI 1) 562 := Or.inl (⟨1, by decide +kernel, by decide, rfl⟩)
theorem eL_562 : xD mL 562 (.iadd) 1 563 := ⟨by decide +kernel, rfl⟩
theorem eL_563 : xD mL 563 (.iaload) 1 564 := ⟨by decide +kernel, rfl⟩
set_option maxRecDepth 20000 in
theorem eL_564 : xCV mL 564 mX10_kinds 1 10 567 := ⟨87, by decide +kernel, rfl, ⟨cm_L_87.1, cm_L_87.2.1, cm_L_87.2.2.1, cm_L_87.2.2.2.1, cm_L_87.2.2.2.2⟩, xT_5 124 rfl rfl, xT_5 125 rfl rfl, _, rfl, rfl⟩
theorem eL_567 : xJ mL 567 (.if_icmp .eq) 753 570 := ⟨(186), by decide +kernel, by decide, rfl⟩
theorem eL_570 : xK mL 570 (nI 0) 571 := Or.inl (⟨0, by decide +kernel, by decide, rfl⟩)
theorem eL_571 : xD mL 571 (.ireturn) 1 572 := ⟨by decide +kernel, rfl⟩
theorem eL_572 : x_aload mL 572 1 573 := Or.inl ⟨1, by decide +kernel, rfl, rfl⟩
set_option maxRecDepth 20000 in
theorem eL_573 : xCV mL 573 mX9_copies 0 9 576 := ⟨88, by decide +kernel, rfl, ⟨cm_L_88.1, cm_L_88.2.1, cm_L_88.2.2.1, cm_L_88.2.2.2.1, cm_L_88.2.2.2.2⟩, xT_3 216 rfl rfl, xT_3 217 rfl rfl, _, rfl, rfl⟩
theorem eL_576 : x_aload mL 576 2 577 := Or.inl ⟨2, by decide +kernel, rfl, rfl⟩
set_option maxRecDepth 20000 in
theorem eL_577 : xCV mL 577 mX10_copies 0 10 580 := ⟨91, by decide +kernel, rfl, ⟨cm_L_91.1, cm_L_91.2.1, cm_L_91.2.2.1, cm_L_91.2.2.2.1, cm_L_91.2.2.2.2⟩, xT_5 128 rfl rfl, xT_5 129 rfl rfl, _, rfl, rfl⟩
theorem eL_580 : xJ mL 580 (.if_icmp .eq) 753 583 := ⟨(173), by decide +kernel, by decide, rfl⟩
theorem eL_583 : xK mL 583 (nI 0) 584 := Or.inl (⟨0, by decide +kernel, by decide, rfl⟩)
theorem eL_584 : xD mL 584 (.ireturn) 1 585 := ⟨by decide +kernel, rfl⟩
theorem eL_585 : x_aload mL 585 1 586 := Or.inl ⟨1, by decide +kernel, rfl, rfl⟩
theorem eL_586 : x_aload mL 586 0 587 := Or.inl ⟨0, by decide +kernel, rfl, rfl⟩
theorem eL_587 : x_iload mL 587 3 588 := Or.inl ⟨3, by decide +kernel, rfl, rfl⟩
theorem eL_588 : xK mL 588 (nI 1) 589 := Or.inl (⟨1, by decide +kernel, by decide, rfl⟩)
theorem eL_589 : xD mL 589 (.iadd) 1 590 := ⟨by decide +kernel, rfl⟩
theorem eL_590 : xD mL 590 (.iaload) 1 591 := ⟨by decide +kernel, rfl⟩
theorem eL_591 : x_aload mL 591 0 592 := Or.inl ⟨0, by decide +kernel, rfl, rfl⟩
theorem eL_592 : x_iload mL 592 3 593 := Or.inl ⟨3, by decide +kernel, rfl, rfl⟩
theorem eL_593 : xK mL 593 (nI 2) 594 := Or.inl (⟨2, by decide +kernel, by decide, rfl⟩)
theorem eL_594 : xD mL 594 (.iadd) 1 595 := ⟨by decide +kernel, rfl⟩
theorem eL_595 : xD mL 595 (.iaload) 1 596 := ⟨by decide +kernel, rfl⟩
set_option maxRecDepth 20000 in
theorem eL_596 : xCV mL 596 mX9_agree 2 9 599 := ⟨92, by decide +kernel, rfl, ⟨cm_L_92.1, cm_L_92.2.1, cm_L_92.2.2.1, cm_L_92.2.2.2.1, cm_L_92.2.2.2.2⟩, xT_3 224 rfl rfl, xT_3 225 rfl rfl, _, rfl, rfl⟩
theorem eL_599 : x_aload mL 599 2 600 := Or.inl ⟨2, by decide +kernel, rfl, rfl⟩
theorem eL_600 : x_aload mL 600 0 601 := Or.inl ⟨0, by decide +kernel, rfl, rfl⟩
theorem eL_601 : x_iload mL 601 3 602 := Or.inl ⟨3, by decide +kernel, rfl, rfl⟩
theorem eL_602 : xK mL 602 (nI 1) 603 := Or.inl (⟨1, by decide +kernel, by decide, rfl⟩)
theorem eL_603 : xD mL 603 (.iadd) 1 604 := ⟨by decide +kernel, rfl⟩
theorem eL_604 : xD mL 604 (.iaload) 1 605 := ⟨by decide +kernel, rfl⟩
theorem eL_605 : x_aload mL 605 0 606 := Or.inl ⟨0, by decide +kernel, rfl, rfl⟩
theorem eL_606 : x_iload mL 606 3 607 := Or.inl ⟨3, by decide +kernel, rfl, rfl⟩
theorem eL_607 : xK mL 607 (nI 2) 608 := Or.inl (⟨2, by decide +kernel, by decide, rfl⟩)
theorem eL_608 : xD mL 608 (.iadd) 1 609 := ⟨by decide +kernel, rfl⟩
theorem eL_609 : xD mL 609 (.iaload) 1 610 := ⟨by decide +kernel, rfl⟩
set_option maxRecDepth 20000 in
theorem eL_610 : xCV mL 610 mX10_agree 2 10 613 := ⟨95, by decide +kernel, rfl, ⟨cm_L_95.1, cm_L_95.2.1, cm_L_95.2.2.1, cm_L_95.2.2.2.1, cm_L_95.2.2.2.2⟩, xT_5 132 rfl rfl, xT_5 133 rfl rfl, _, rfl, rfl⟩
theorem eL_613 : xJ mL 613 (.if_icmp .eq) 753 616 := ⟨(140), by decide +kernel, by decide, rfl⟩
theorem eL_616 : xK mL 616 (nI 0) 617 := Or.inl (⟨0, by decide +kernel, by decide, rfl⟩)
theorem eL_617 : xD mL 617 (.ireturn) 1 618 := ⟨by decide +kernel, rfl⟩
theorem eL_618 : x_aload mL 618 1 619 := Or.inl ⟨1, by decide +kernel, rfl, rfl⟩
theorem eL_619 : x_aload mL 619 0 620 := Or.inl ⟨0, by decide +kernel, rfl, rfl⟩
theorem eL_620 : x_iload mL 620 3 621 := Or.inl ⟨3, by decide +kernel, rfl, rfl⟩
theorem eL_621 : xK mL 621 (nI 1) 622 := Or.inl (⟨1, by decide +kernel, by decide, rfl⟩)
theorem eL_622 : xD mL 622 (.iadd) 1 623 := ⟨by decide +kernel, rfl⟩
theorem eL_623 : xD mL 623 (.iaload) 1 624 := ⟨by decide +kernel, rfl⟩
theorem eL_624 : x_aload mL 624 0 625 := Or.inl ⟨0, by decide +kernel, rfl, rfl⟩
theorem eL_625 : x_iload mL 625 3 626 := Or.inl ⟨3, by decide +kernel, rfl, rfl⟩
theorem eL_626 : xK mL 626 (nI 2) 627 := Or.inl (⟨2, by decide +kernel, by decide, rfl⟩)
theorem eL_627 : xD mL 627 (.iadd) 1 628 := ⟨by decide +kernel, rfl⟩
theorem eL_628 : xD mL 628 (.iaload) 1 629 := ⟨by decide +kernel, rfl⟩
theorem eL_629 : x_aload mL 629 0 630 := Or.inl ⟨0, by decide +kernel, rfl, rfl⟩
theorem eL_630 : x_iload mL 630 3 631 := Or.inl ⟨3, by decide +kernel, rfl, rfl⟩
theorem eL_631 : xK mL 631 (nI 3) 632 := Or.inl (⟨3, by decide +kernel, by decide, rfl⟩)
theorem eL_632 : xD mL 632 (.iadd) 1 633 := ⟨by decide +kernel, rfl⟩
theorem eL_633 : xD mL 633 (.iaload) 1 634 := ⟨by decide +kernel, rfl⟩
set_option maxRecDepth 20000 in
theorem eL_634 : xCV mL 634 mX9_honest 3 9 637 := ⟨96, by decide +kernel, rfl, ⟨cm_L_96.1, cm_L_96.2.1, cm_L_96.2.2.1, cm_L_96.2.2.2.1, cm_L_96.2.2.2.2⟩, xT_3 228 rfl rfl, xT_3 229 rfl rfl, _, rfl, rfl⟩
theorem eL_637 : x_aload mL 637 2 638 := Or.inl ⟨2, by decide +kernel, rfl, rfl⟩
theorem eL_638 : x_aload mL 638 0 639 := Or.inl ⟨0, by decide +kernel, rfl, rfl⟩
theorem eL_639 : x_iload mL 639 3 640 := Or.inl ⟨3, by decide +kernel, rfl, rfl⟩
theorem eL_640 : xK mL 640 (nI 1) 641 := Or.inl (⟨1, by decide +kernel, by decide, rfl⟩)
theorem eL_641 : xD mL 641 (.iadd) 1 642 := ⟨by decide +kernel, rfl⟩
theorem eL_642 : xD mL 642 (.iaload) 1 643 := ⟨by decide +kernel, rfl⟩
theorem eL_643 : x_aload mL 643 0 644 := Or.inl ⟨0, by decide +kernel, rfl, rfl⟩
theorem eL_644 : x_iload mL 644 3 645 := Or.inl ⟨3, by decide +kernel, rfl, rfl⟩
theorem eL_645 : xK mL 645 (nI 2) 646 := Or.inl (⟨2, by decide +kernel, by decide, rfl⟩)
theorem eL_646 : xD mL 646 (.iadd) 1 647 := ⟨by decide +kernel, rfl⟩
theorem eL_647 : xD mL 647 (.iaload) 1 648 := ⟨by decide +kernel, rfl⟩
theorem eL_648 : x_aload mL 648 0 649 := Or.inl ⟨0, by decide +kernel, rfl, rfl⟩
theorem eL_649 : x_iload mL 649 3 650 := Or.inl ⟨3, by decide +kernel, rfl, rfl⟩
theorem eL_650 : xK mL 650 (nI 3) 651 := Or.inl (⟨3, by decide +kernel, by decide, rfl⟩)
theorem eL_651 : xD mL 651 (.iadd) 1 652 := ⟨by decide +kernel, rfl⟩
theorem eL_652 : xD mL 652 (.iaload) 1 653 := ⟨by decide +kernel, rfl⟩
set_option maxRecDepth 20000 in
theorem eL_653 : xCV mL 653 mX10_honest 3 10 656 := ⟨100, by decide +kernel, rfl, ⟨cm_L_100.1, cm_L_100.2.1, cm_L_100.2.2.1, cm_L_100.2.2.2.1, cm_L_100.2.2.2.2⟩, xT_5 136 rfl rfl, xT_5 137 rfl rfl, _, rfl, rfl⟩
theorem eL_656 : xJ mL 656 (.if_icmp .eq) 753 659 := ⟨(97), by decide +kernel, by decide, rfl⟩
theorem eL_659 : xK mL 659 (nI 0) 660 := Or.inl (⟨0, by decide +kernel, by decide, rfl⟩)
theorem eL_660 : xD mL 660 (.ireturn) 1 661 := ⟨by decide +kernel, rfl⟩
theorem eL_661 : x_aload mL 661 1 662 := Or.inl ⟨1, by decide +kernel, rfl, rfl⟩
theorem eL_662 : x_aload mL 662 0 663 := Or.inl ⟨0, by decide +kernel, rfl, rfl⟩
theorem eL_663 : x_iload mL 663 3 664 := Or.inl ⟨3, by decide +kernel, rfl, rfl⟩
theorem eL_664 : xK mL 664 (nI 1) 665 := Or.inl (⟨1, by decide +kernel, by decide, rfl⟩)
theorem eL_665 : xD mL 665 (.iadd) 1 666 := ⟨by decide +kernel, rfl⟩
theorem eL_666 : xD mL 666 (.iaload) 1 667 := ⟨by decide +kernel, rfl⟩
theorem eL_667 : x_aload mL 667 0 668 := Or.inl ⟨0, by decide +kernel, rfl, rfl⟩
theorem eL_668 : x_iload mL 668 3 669 := Or.inl ⟨3, by decide +kernel, rfl, rfl⟩
theorem eL_669 : xK mL 669 (nI 2) 670 := Or.inl (⟨2, by decide +kernel, by decide, rfl⟩)
theorem eL_670 : xD mL 670 (.iadd) 1 671 := ⟨by decide +kernel, rfl⟩
theorem eL_671 : xD mL 671 (.iaload) 1 672 := ⟨by decide +kernel, rfl⟩
theorem eL_672 : x_aload mL 672 0 673 := Or.inl ⟨0, by decide +kernel, rfl, rfl⟩
theorem eL_673 : x_iload mL 673 3 674 := Or.inl ⟨3, by decide +kernel, rfl, rfl⟩
theorem eL_674 : xK mL 674 (nI 3) 675 := Or.inl (⟨3, by decide +kernel, by decide, rfl⟩)
theorem eL_675 : xD mL 675 (.iadd) 1 676 := ⟨by decide +kernel, rfl⟩
theorem eL_676 : xD mL 676 (.iaload) 1 677 := ⟨by decide +kernel, rfl⟩
set_option maxRecDepth 20000 in
theorem eL_677 : xCV mL 677 mX9_shire 3 9 680 := ⟨101, by decide +kernel, rfl, ⟨cm_L_101.1, cm_L_101.2.1, cm_L_101.2.2.1, cm_L_101.2.2.2.1, cm_L_101.2.2.2.2⟩, xT_4 11 rfl rfl, xT_4 12 rfl rfl, _, rfl, rfl⟩
theorem eL_680 : x_aload mL 680 2 681 := Or.inl ⟨2, by decide +kernel, rfl, rfl⟩
theorem eL_681 : x_aload mL 681 0 682 := Or.inl ⟨0, by decide +kernel, rfl, rfl⟩
theorem eL_682 : x_iload mL 682 3 683 := Or.inl ⟨3, by decide +kernel, rfl, rfl⟩
theorem eL_683 : xK mL 683 (nI 1) 684 := Or.inl (⟨1, by decide +kernel, by decide, rfl⟩)
theorem eL_684 : xD mL 684 (.iadd) 1 685 := ⟨by decide +kernel, rfl⟩
theorem eL_685 : xD mL 685 (.iaload) 1 686 := ⟨by decide +kernel, rfl⟩
theorem eL_686 : x_aload mL 686 0 687 := Or.inl ⟨0, by decide +kernel, rfl, rfl⟩
theorem eL_687 : x_iload mL 687 3 688 := Or.inl ⟨3, by decide +kernel, rfl, rfl⟩
theorem eL_688 : xK mL 688 (nI 2) 689 := Or.inl (⟨2, by decide +kernel, by decide, rfl⟩)
theorem eL_689 : xD mL 689 (.iadd) 1 690 := ⟨by decide +kernel, rfl⟩
theorem eL_690 : xD mL 690 (.iaload) 1 691 := ⟨by decide +kernel, rfl⟩
theorem eL_691 : x_aload mL 691 0 692 := Or.inl ⟨0, by decide +kernel, rfl, rfl⟩
theorem eL_692 : x_iload mL 692 3 693 := Or.inl ⟨3, by decide +kernel, rfl, rfl⟩
theorem eL_693 : xK mL 693 (nI 3) 694 := Or.inl (⟨3, by decide +kernel, by decide, rfl⟩)
theorem eL_694 : xD mL 694 (.iadd) 1 695 := ⟨by decide +kernel, rfl⟩
theorem eL_695 : xD mL 695 (.iaload) 1 696 := ⟨by decide +kernel, rfl⟩
set_option maxRecDepth 20000 in
theorem eL_696 : xCV mL 696 mX10_shire 3 10 699 := ⟨104, by decide +kernel, rfl, ⟨cm_L_104.1, cm_L_104.2.1, cm_L_104.2.2.1, cm_L_104.2.2.2.1, cm_L_104.2.2.2.2⟩, xT_5 142 rfl rfl, xT_5 143 rfl rfl, _, rfl, rfl⟩
theorem eL_699 : xJ mL 699 (.if_icmp .eq) 753 702 := ⟨(54), by decide +kernel, by decide, rfl⟩
theorem eL_702 : xK mL 702 (nI 0) 703 := Or.inl (⟨0, by decide +kernel, by decide, rfl⟩)
theorem eL_703 : xD mL 703 (.ireturn) 1 704 := ⟨by decide +kernel, rfl⟩
theorem eL_704 : x_aload mL 704 1 705 := Or.inl ⟨1, by decide +kernel, rfl, rfl⟩
set_option maxRecDepth 20000 in
theorem eL_705 : xCV mL 705 mX9_keep 0 9 708 := ⟨105, by decide +kernel, rfl, ⟨cm_L_105.1, cm_L_105.2.1, cm_L_105.2.2.1, cm_L_105.2.2.2.1, cm_L_105.2.2.2.2⟩, xT_4 33 rfl rfl, xT_4 34 rfl rfl, _, rfl, rfl⟩
theorem eL_708 : x_aload mL 708 2 709 := Or.inl ⟨2, by decide +kernel, rfl, rfl⟩
set_option maxRecDepth 20000 in
theorem eL_709 : xCV mL 709 mX10_keep 0 10 712 := ⟨108, by decide +kernel, rfl, ⟨cm_L_108.1, cm_L_108.2.1, cm_L_108.2.2.1, cm_L_108.2.2.2.1, cm_L_108.2.2.2.2⟩, xT_5 156 rfl rfl, xT_5 157 rfl rfl, _, rfl, rfl⟩
theorem eL_712 : xJ mL 712 (.if_icmp .eq) 753 715 := ⟨(41), by decide +kernel, by decide, rfl⟩
theorem eL_715 : xK mL 715 (nI 0) 716 := Or.inl (⟨0, by decide +kernel, by decide, rfl⟩)
theorem eL_716 : xD mL 716 (.ireturn) 1 717 := ⟨by decide +kernel, rfl⟩
theorem eL_717 : x_aload mL 717 1 718 := Or.inl ⟨1, by decide +kernel, rfl, rfl⟩
set_option maxRecDepth 20000 in
theorem eL_718 : xCV mL 718 mX9_back 0 9 721 := ⟨109, by decide +kernel, rfl, ⟨cm_L_109.1, cm_L_109.2.1, cm_L_109.2.2.1, cm_L_109.2.2.2.1, cm_L_109.2.2.2.2⟩, xT_4 38 rfl rfl, xT_4 39 rfl rfl, _, rfl, rfl⟩
theorem eL_721 : x_aload mL 721 2 722 := Or.inl ⟨2, by decide +kernel, rfl, rfl⟩
set_option maxRecDepth 20000 in
theorem eL_722 : xCV mL 722 mX10_back 0 10 725 := ⟨112, by decide +kernel, rfl, ⟨cm_L_112.1, cm_L_112.2.1, cm_L_112.2.2.1, cm_L_112.2.2.2.1, cm_L_112.2.2.2.2⟩, xT_5 160 rfl rfl, xT_5 161 rfl rfl, _, rfl, rfl⟩
theorem eL_725 : xJ mL 725 (.if_icmp .eq) 753 728 := ⟨(28), by decide +kernel, by decide, rfl⟩
theorem eL_728 : xK mL 728 (nI 0) 729 := Or.inl (⟨0, by decide +kernel, by decide, rfl⟩)
theorem eL_729 : xD mL 729 (.ireturn) 1 730 := ⟨by decide +kernel, rfl⟩
theorem eL_730 : x_aload mL 730 1 731 := Or.inl ⟨1, by decide +kernel, rfl, rfl⟩
theorem eL_731 : x_aload mL 731 0 732 := Or.inl ⟨0, by decide +kernel, rfl, rfl⟩
theorem eL_732 : x_iload mL 732 3 733 := Or.inl ⟨3, by decide +kernel, rfl, rfl⟩
theorem eL_733 : xK mL 733 (nI 1) 734 := Or.inl (⟨1, by decide +kernel, by decide, rfl⟩)
theorem eL_734 : xD mL 734 (.iadd) 1 735 := ⟨by decide +kernel, rfl⟩
theorem eL_735 : xD mL 735 (.iaload) 1 736 := ⟨by decide +kernel, rfl⟩
set_option maxRecDepth 20000 in
theorem eL_736 : xCV mL 736 mX9_count 1 9 739 := ⟨113, by decide +kernel, rfl, ⟨cm_L_113.1, cm_L_113.2.1, cm_L_113.2.2.1, cm_L_113.2.2.2.1, cm_L_113.2.2.2.2⟩, xT_4 42 rfl rfl, xT_4 43 rfl rfl, _, rfl, rfl⟩
theorem eL_739 : x_aload mL 739 2 740 := Or.inl ⟨2, by decide +kernel, rfl, rfl⟩
theorem eL_740 : x_aload mL 740 0 741 := Or.inl ⟨0, by decide +kernel, rfl, rfl⟩
theorem eL_741 : x_iload mL 741 3 742 := Or.inl ⟨3, by decide +kernel, rfl, rfl⟩
theorem eL_742 : xK mL 742 (nI 1) 743 := Or.inl (⟨1, by decide +kernel, by decide, rfl⟩)
theorem eL_743 : xD mL 743 (.iadd) 1 744 := ⟨by decide +kernel, rfl⟩
theorem eL_744 : xD mL 744 (.iaload) 1 745 := ⟨by decide +kernel, rfl⟩
set_option maxRecDepth 20000 in
theorem eL_745 : xCV mL 745 mX10_count 1 10 748 := ⟨116, by decide +kernel, rfl, ⟨cm_L_116.1, cm_L_116.2.1, cm_L_116.2.2.1, cm_L_116.2.2.2.1, cm_L_116.2.2.2.2⟩, xT_5 164 rfl rfl, xT_5 165 rfl rfl, _, rfl, rfl⟩
theorem eL_748 : xJ mL 748 (.if_icmp .eq) 753 751 := ⟨(5), by decide +kernel, by decide, rfl⟩
theorem eL_751 : xK mL 751 (nI 0) 752 := Or.inl (⟨0, by decide +kernel, by decide, rfl⟩)
theorem eL_752 : xD mL 752 (.ireturn) 1 753 := ⟨by decide +kernel, rfl⟩
theorem eL_753 : xD mL 753 (.iinc 3 4) 3 756 := ⟨by decide +kernel, rfl⟩
theorem eL_756 : xJ mL 756 (.goto) 18 759 := ⟨(-738), by decide +kernel, by decide, rfl⟩
theorem eL_759 : xK mL 759 (nI 1) 760 := Or.inl (⟨1, by decide +kernel, by decide, rfl⟩)
theorem eL_760 : xD mL 760 (.ireturn) 1 761 := ⟨by decide +kernel, rfl⟩
