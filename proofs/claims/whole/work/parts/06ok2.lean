set_option maxRecDepth 20000 in
theorem ok_192 : qgood 192 := ⟨by decide +kernel, rfl, by decide +kernel⟩
set_option maxRecDepth 20000 in
theorem ok_193 : qgood 193 := ⟨by decide +kernel, rfl, by decide +kernel⟩
set_option maxRecDepth 20000 in
theorem ok_194 : qgood 194 := ⟨by decide +kernel, rfl, by decide +kernel⟩
set_option maxRecDepth 20000 in
theorem ok_195 : qgood 195 := ⟨by decide +kernel, rfl, by decide +kernel⟩
set_option maxRecDepth 20000 in
theorem ok_196 : qgood 196 := ⟨by decide +kernel, rfl, by decide +kernel⟩
set_option maxRecDepth 20000 in
theorem ok_197 : qgood 197 := ⟨by decide +kernel, rfl, by decide +kernel⟩
set_option maxRecDepth 20000 in
theorem ok_198 : qgood 198 := ⟨by decide +kernel, rfl, by decide +kernel⟩
set_option maxRecDepth 20000 in
theorem ok_199 : qgood 199 := ⟨by decide +kernel, rfl, by decide +kernel⟩
set_option maxRecDepth 20000 in
theorem ok_200 : qgood 200 := ⟨by decide +kernel, rfl, by decide +kernel⟩
set_option maxRecDepth 20000 in
theorem ok_201 : qgood 201 := ⟨by decide +kernel, rfl, by decide +kernel⟩
set_option maxRecDepth 20000 in
theorem ok_202 : qgood 202 := ⟨by decide +kernel, rfl, by decide +kernel⟩
set_option maxRecDepth 20000 in
theorem ok_203 : qgood 203 := ⟨by decide +kernel, rfl, by decide +kernel⟩
set_option maxRecDepth 20000 in
theorem ok_204 : qgood 204 := ⟨by decide +kernel, rfl, by decide +kernel⟩
set_option maxRecDepth 20000 in
theorem ok_205 : qgood 205 := ⟨by decide +kernel, rfl, by decide +kernel⟩
set_option maxRecDepth 20000 in
theorem ok_206 : qgood 206 := ⟨by decide +kernel, rfl, by decide +kernel⟩
set_option maxRecDepth 20000 in
theorem ok_207 : qgood 207 := ⟨by decide +kernel, rfl, by decide +kernel⟩
set_option maxRecDepth 20000 in
theorem ok_209 : qgood 209 := ⟨by decide +kernel, rfl, by decide +kernel⟩
set_option maxRecDepth 20000 in
theorem ok_210 : qgood 210 := ⟨by decide +kernel, rfl, by decide +kernel⟩
set_option maxRecDepth 20000 in
theorem ok_211 : qgood 211 := ⟨by decide +kernel, rfl, by decide +kernel⟩
set_option maxRecDepth 20000 in
theorem ok_212 : qgood 212 := ⟨by decide +kernel, rfl, by decide +kernel⟩
set_option maxRecDepth 20000 in
theorem ok_213 : qgood 213 := ⟨by decide +kernel, rfl, by decide +kernel⟩
set_option maxRecDepth 20000 in
theorem ok_214 : qgood 214 := ⟨by decide +kernel, rfl, by decide +kernel⟩
set_option maxRecDepth 20000 in
theorem ok_215 : qgood 215 := ⟨by decide +kernel, rfl, by decide +kernel⟩
set_option maxRecDepth 20000 in
theorem ok_216 : qgood 216 := ⟨by decide +kernel, rfl, by decide +kernel⟩
set_option maxRecDepth 20000 in
theorem ok_217 : qgood 217 := ⟨by decide +kernel, rfl, by decide +kernel⟩
set_option maxRecDepth 20000 in
theorem ok_218 : qgood 218 := ⟨by decide +kernel, rfl, by decide +kernel⟩
set_option maxRecDepth 20000 in
theorem ok_219 : qgood 219 := ⟨by decide +kernel, rfl, by decide +kernel⟩
set_option maxRecDepth 20000 in
theorem ok_220 : qgood 220 := ⟨by decide +kernel, rfl, by decide +kernel⟩
set_option maxRecDepth 20000 in
theorem ok_221 : qgood 221 := ⟨by decide +kernel, rfl, by decide +kernel⟩
set_option maxRecDepth 20000 in
theorem ok_222 : qgood 222 := ⟨by decide +kernel, rfl, by decide +kernel⟩
set_option maxRecDepth 20000 in
theorem ok_223 : qgood 223 := ⟨by decide +kernel, rfl, by decide +kernel⟩
set_option maxRecDepth 20000 in
theorem ok_224 : qgood 224 := ⟨by decide +kernel, rfl, by decide +kernel⟩
set_option maxRecDepth 20000 in
theorem ok_225 : qgood 225 := ⟨by decide +kernel, rfl, by decide +kernel⟩
set_option maxRecDepth 20000 in
theorem ok_226 : qgood 226 := ⟨by decide +kernel, rfl, by decide +kernel⟩
set_option maxRecDepth 20000 in
theorem ok_227 : qgood 227 := ⟨by decide +kernel, rfl, by decide +kernel⟩
set_option maxRecDepth 20000 in
theorem ok_228 : qgood 228 := ⟨by decide +kernel, rfl, by decide +kernel⟩
set_option maxRecDepth 20000 in
theorem ok_229 : qgood 229 := ⟨by decide +kernel, rfl, by decide +kernel⟩
set_option maxRecDepth 20000 in
theorem ok_230 : qgood 230 := ⟨by decide +kernel, rfl, by decide +kernel⟩
set_option maxRecDepth 20000 in
theorem ok_231 : qgood 231 := ⟨by decide +kernel, rfl, by decide +kernel⟩
set_option maxRecDepth 20000 in
theorem ok_232 : qgood 232 := ⟨by decide +kernel, rfl, by decide +kernel⟩
set_option maxRecDepth 20000 in
theorem ok_233 : qgood 233 := ⟨by decide +kernel, rfl, by decide +kernel⟩
set_option maxRecDepth 20000 in
theorem ok_234 : qgood 234 := ⟨by decide +kernel, rfl, by decide +kernel⟩
set_option maxRecDepth 20000 in
theorem ok_235 : qgood 235 := ⟨by decide +kernel, rfl, by decide +kernel⟩
set_option maxRecDepth 20000 in
theorem ok_236 : qgood 236 := ⟨by decide +kernel, rfl, by decide +kernel⟩
set_option maxRecDepth 20000 in
theorem ok_237 : qgood 237 := ⟨by decide +kernel, rfl, by decide +kernel⟩
set_option maxRecDepth 20000 in
theorem ok_238 : qgood 238 := ⟨by decide +kernel, rfl, by decide +kernel⟩
set_option maxRecDepth 20000 in
theorem ok_239 : qgood 239 := ⟨by decide +kernel, rfl, by decide +kernel⟩
set_option maxRecDepth 20000 in
theorem ok_240 : qgood 240 := ⟨by decide +kernel, rfl, by decide +kernel⟩
set_option maxRecDepth 20000 in
theorem ok_241 : qgood 241 := ⟨by decide +kernel, rfl, by decide +kernel⟩
set_option maxRecDepth 20000 in
theorem ok_242 : qgood 242 := ⟨by decide +kernel, rfl, by decide +kernel⟩
set_option maxRecDepth 20000 in
theorem ok_243 : qgood 243 := ⟨by decide +kernel, rfl, by decide +kernel⟩
set_option maxRecDepth 20000 in
theorem ok_244 : qgood 244 := ⟨by decide +kernel, rfl, by decide +kernel⟩
set_option maxRecDepth 20000 in
theorem ok_245 : qgood 245 := ⟨by decide +kernel, rfl, by decide +kernel⟩
set_option maxRecDepth 20000 in
theorem ok_246 : qgood 246 := ⟨by decide +kernel, rfl, by decide +kernel⟩
set_option maxRecDepth 20000 in
theorem ok_247 : qgood 247 := ⟨by decide +kernel, rfl, by decide +kernel⟩
set_option maxRecDepth 20000 in
theorem ok_248 : qgood 248 := ⟨by decide +kernel, rfl, by decide +kernel⟩
set_option maxRecDepth 20000 in
theorem ok_249 : qgood 249 := ⟨by decide +kernel, rfl, by decide +kernel⟩
set_option maxRecDepth 20000 in
theorem ok_250 : qgood 250 := ⟨by decide +kernel, rfl, by decide +kernel⟩
set_option maxRecDepth 20000 in
theorem ok_251 : qgood 251 := ⟨by decide +kernel, rfl, by decide +kernel⟩
set_option maxRecDepth 20000 in
theorem ok_252 : qgood 252 := ⟨by decide +kernel, rfl, by decide +kernel⟩
set_option maxRecDepth 20000 in
theorem ok_253 : qgood 253 := ⟨by decide +kernel, rfl, by decide +kernel⟩
set_option maxRecDepth 20000 in
theorem ok_254 : qgood 254 := ⟨by decide +kernel, rfl, by decide +kernel⟩
set_option maxRecDepth 20000 in
theorem ok_255 : qgood 255 := ⟨by decide +kernel, rfl, by decide +kernel⟩
set_option maxRecDepth 20000 in
theorem ok_256 : qgood 256 := ⟨by decide +kernel, rfl, by decide +kernel⟩
set_option maxRecDepth 20000 in
theorem ok_257 : qgood 257 := ⟨by decide +kernel, rfl, by decide +kernel⟩
set_option maxRecDepth 20000 in
theorem ok_258 : qgood 258 := ⟨by decide +kernel, rfl, by decide +kernel⟩
set_option maxRecDepth 20000 in
theorem ok_259 : qgood 259 := ⟨by decide +kernel, rfl, by decide +kernel⟩
set_option maxRecDepth 20000 in
theorem ok_260 : qgood 260 := ⟨by decide +kernel, rfl, by decide +kernel⟩
set_option maxRecDepth 20000 in
theorem ok_261 : qgood 261 := ⟨by decide +kernel, rfl, by decide +kernel⟩
set_option maxRecDepth 20000 in
theorem ok_262 : qgood 262 := ⟨by decide +kernel, rfl, by decide +kernel⟩
set_option maxRecDepth 20000 in
theorem ok_263 : qgood 263 := ⟨by decide +kernel, rfl, by decide +kernel⟩
set_option maxRecDepth 20000 in
theorem ok_264 : qgood 264 := ⟨by decide +kernel, rfl, by decide +kernel⟩
set_option maxRecDepth 20000 in
theorem ok_265 : qgood 265 := ⟨by decide +kernel, rfl, by decide +kernel⟩
set_option maxRecDepth 20000 in
theorem ok_266 : qgood 266 := ⟨by decide +kernel, rfl, by decide +kernel⟩
set_option maxRecDepth 20000 in
theorem ok_267 : qgood 267 := ⟨by decide +kernel, rfl, by decide +kernel⟩
set_option maxRecDepth 20000 in
theorem ok_268 : qgood 268 := ⟨by decide +kernel, rfl, by decide +kernel⟩
set_option maxRecDepth 20000 in
theorem ok_269 : qgood 269 := ⟨by decide +kernel, rfl, by decide +kernel⟩
set_option maxRecDepth 20000 in
theorem ok_270 : qgood 270 := ⟨by decide +kernel, rfl, by decide +kernel⟩
set_option maxRecDepth 20000 in
theorem ok_271 : qgood 271 := ⟨by decide +kernel, rfl, by decide +kernel⟩
set_option maxRecDepth 20000 in
theorem ok_272 : qgood 272 := ⟨by decide +kernel, rfl, by decide +kernel⟩
set_option maxRecDepth 20000 in
theorem ok_273 : qgood 273 := ⟨by decide +kernel, rfl, by decide +kernel⟩
set_option maxRecDepth 20000 in
theorem ok_274 : qgood 274 := ⟨by decide +kernel, rfl, by decide +kernel⟩
set_option maxRecDepth 20000 in
theorem ok_275 : qgood 275 := ⟨by decide +kernel, rfl, by decide +kernel⟩
set_option maxRecDepth 20000 in
theorem ok_276 : qgood 276 := ⟨by decide +kernel, rfl, by decide +kernel⟩
set_option maxRecDepth 20000 in
theorem ok_277 : qgood 277 := ⟨by decide +kernel, rfl, by decide +kernel⟩
set_option maxRecDepth 20000 in
theorem ok_278 : qgood 278 := ⟨by decide +kernel, rfl, by decide +kernel⟩
set_option maxRecDepth 20000 in
theorem ok_279 : qgood 279 := ⟨by decide +kernel, rfl, by decide +kernel⟩
set_option maxRecDepth 20000 in
theorem ok_280 : qgood 280 := ⟨by decide +kernel, rfl, by decide +kernel⟩
set_option maxRecDepth 20000 in
theorem ok_281 : qgood 281 := ⟨by decide +kernel, rfl, by decide +kernel⟩
set_option maxRecDepth 20000 in
theorem ok_282 : qgood 282 := ⟨by decide +kernel, rfl, by decide +kernel⟩
