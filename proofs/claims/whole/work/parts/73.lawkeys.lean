set_option maxRecDepth 20000 in
theorem lenL0 (L : Nat) (xs : Nat → Int32) : (tL0 L xs).length = 100 := rfl
set_option maxRecDepth 20000 in
theorem lenL1 (L : Nat) (xs : Nat → Int32) : (tL1 L xs).length = 100 := rfl
set_option maxRecDepth 20000 in
theorem lenL2 (L : Nat) (xs : Nat → Int32) : (tL2 L xs).length = 100 := rfl
set_option maxRecDepth 20000 in
theorem lenL3 (L : Nat) (xs : Nat → Int32) : (tL3 L xs).length = 100 := rfl
set_option maxRecDepth 20000 in
theorem lenL4 (L : Nat) (xs : Nat → Int32) : (tL4 L xs).length = 100 := rfl
set_option maxRecDepth 20000 in
theorem lenL5 (L : Nat) (xs : Nat → Int32) : (tL5 L xs).length = 100 := rfl
set_option maxRecDepth 20000 in
theorem lenL6 (L : Nat) (xs : Nat → Int32) : (tL6 L xs).length = 100 := rfl
set_option maxRecDepth 20000 in
theorem lenL7 (L : Nat) (xs : Nat → Int32) : (tL7 L xs).length = 100 := rfl
set_option maxRecDepth 20000 in
theorem lenL8 (L : Nat) (xs : Nat → Int32) : (tL8 L xs).length = 100 := rfl
set_option maxRecDepth 20000 in
theorem lenL9 (L : Nat) (xs : Nat → Int32) : (tL9 L xs).length = 62 := rfl
theorem SndSL.app2 {L : Nat} {xs : Nat → Int32} {a b : List PT} {k k2 n : Nat} (h1 : SndSL L xs k a) (hn : a.length = n) (hk : k + n = k2) (h2 : SndSL L xs k2 b) : SndSL L xs k (a ++ b) := by
  subst hn
  subst hk
  exact SndSL.app h1 h2
def tL_law (L : Nat) (xs : Nat → Int32) : List PT := tL0 L xs ++ (tL1 L xs ++ (tL2 L xs ++ (tL3 L xs ++ (tL4 L xs ++ (tL5 L xs ++ (tL6 L xs ++ (tL7 L xs ++ (tL8 L xs ++ (tL9 L xs)))))))))
theorem okL_law (L : Nat) (xs : Nat → Int32) : SndSL L xs 0 (tL_law L xs) := SndSL.app2 (okL0 L xs) (lenL0 L xs) (by decide) (SndSL.app2 (okL1 L xs) (lenL1 L xs) (by decide) (SndSL.app2 (okL2 L xs) (lenL2 L xs) (by decide) (SndSL.app2 (okL3 L xs) (lenL3 L xs) (by decide) (SndSL.app2 (okL4 L xs) (lenL4 L xs) (by decide) (SndSL.app2 (okL5 L xs) (lenL5 L xs) (by decide) (SndSL.app2 (okL6 L xs) (lenL6 L xs) (by decide) (SndSL.app2 (okL7 L xs) (lenL7 L xs) (by decide) (SndSL.app2 (okL8 L xs) (lenL8 L xs) (by decide) (okL9 L xs)))))))))
set_option maxRecDepth 20000 in
theorem kL_law_0 {L : Nat} {xs : Nat → Int32} : List.getD (tL_law L xs) 0 x_bad = x_new 9 := rfl
set_option maxRecDepth 20000 in
theorem kL_law_3 {L : Nat} {xs : Nat → Int32} : List.getD (tL_law L xs) 3 x_bad = x_dup := rfl
set_option maxRecDepth 20000 in
theorem kL_law_4 {L : Nat} {xs : Nat → Int32} : List.getD (tL_law L xs) 4 x_bad = x_callI mX9_init 462 := rfl
set_option maxRecDepth 20000 in
theorem kL_law_7 {L : Nat} {xs : Nat → Int32} : List.getD (tL_law L xs) 7 x_bad = x_astore 1 1 := rfl
set_option maxRecDepth 20000 in
theorem kL_law_8 {L : Nat} {xs : Nat → Int32} : List.getD (tL_law L xs) 8 x_bad = x_new 10 := rfl
set_option maxRecDepth 20000 in
theorem kL_law_11 {L : Nat} {xs : Nat → Int32} : List.getD (tL_law L xs) 11 x_bad = x_dup := rfl
set_option maxRecDepth 20000 in
theorem kL_law_12 {L : Nat} {xs : Nat → Int32} : List.getD (tL_law L xs) 12 x_bad = x_callI mX10_init 16 := rfl
set_option maxRecDepth 20000 in
theorem kL_law_15 {L : Nat} {xs : Nat → Int32} : List.getD (tL_law L xs) 15 x_bad = x_astore 2 1 := rfl
set_option maxRecDepth 20000 in
theorem kL_law_16 {L : Nat} {xs : Nat → Int32} : List.getD (tL_law L xs) 16 x_bad = x_push (.int (nI 0)) 1 := rfl
set_option maxRecDepth 20000 in
theorem kL_law_17 {L : Nat} {xs : Nat → Int32} : List.getD (tL_law L xs) 17 x_bad = x_istore 3 1 := rfl
set_option maxRecDepth 20000 in
theorem kL_law_18 {L : Nat} {xs : Nat → Int32} : List.getD (tL_law L xs) 18 x_bad = x_iload 3 1 := rfl
set_option maxRecDepth 20000 in
theorem kL_law_19 {L : Nat} {xs : Nat → Int32} : List.getD (tL_law L xs) 19 x_bad = x_sload 0 1 := rfl
set_option maxRecDepth 20000 in
theorem kL_law_20 {L : Nat} {xs : Nat → Int32} : List.getD (tL_law L xs) 20 x_bad = x_slen L := rfl
set_option maxRecDepth 20000 in
theorem kL_law_21 {L : Nat} {xs : Nat → Int32} : List.getD (tL_law L xs) 21 x_bad = x_push (.int (nI 4)) 1 := rfl
set_option maxRecDepth 20000 in
theorem kL_law_22 {L : Nat} {xs : Nat → Int32} : List.getD (tL_law L xs) 22 x_bad = x_ii (fun a b => a - b) := rfl
set_option maxRecDepth 20000 in
theorem kL_law_23 {L : Nat} {xs : Nat → Int32} : List.getD (tL_law L xs) 23 x_bad = x_icmp (fun a b => b < a) 960 := rfl
set_option maxRecDepth 20000 in
theorem kL_law_26 {L : Nat} {xs : Nat → Int32} : List.getD (tL_law L xs) 26 x_bad = x_sload 0 1 := rfl
set_option maxRecDepth 20000 in
theorem kL_law_27 {L : Nat} {xs : Nat → Int32} : List.getD (tL_law L xs) 27 x_bad = x_iload 3 1 := rfl
set_option maxRecDepth 20000 in
theorem kL_law_28 {L : Nat} {xs : Nat → Int32} : List.getD (tL_law L xs) 28 x_bad = x_sld L xs := rfl
set_option maxRecDepth 20000 in
theorem kL_law_29 {L : Nat} {xs : Nat → Int32} : List.getD (tL_law L xs) 29 x_bad = x_push (.int (nI 31)) 2 := rfl
set_option maxRecDepth 20000 in
theorem kL_law_31 {L : Nat} {xs : Nat → Int32} : List.getD (tL_law L xs) 31 x_bad = x_ii (fun a b => a &&& b) := rfl
set_option maxRecDepth 20000 in
theorem kL_law_32 {L : Nat} {xs : Nat → Int32} : List.getD (tL_law L xs) 32 x_bad = x_tsw [172, 195, 208, 221, 234, 257, 300, 323, 356, 389, 412, 425, 464, 513, 546, 569, 618, 651, 684, 707, 720, 753, 776, 789, 802, 825, 838, 881, 904, 917, 940] 954 := rfl
set_option maxRecDepth 20000 in
theorem kL_law_172 {L : Nat} {xs : Nat → Int32} : List.getD (tL_law L xs) 172 x_bad = x_aload 1 1 := rfl
set_option maxRecDepth 20000 in
theorem kL_law_173 {L : Nat} {xs : Nat → Int32} : List.getD (tL_law L xs) 173 x_bad = x_sload 0 1 := rfl
set_option maxRecDepth 20000 in
theorem kL_law_174 {L : Nat} {xs : Nat → Int32} : List.getD (tL_law L xs) 174 x_bad = x_iload 3 1 := rfl
set_option maxRecDepth 20000 in
theorem kL_law_175 {L : Nat} {xs : Nat → Int32} : List.getD (tL_law L xs) 175 x_bad = x_push (.int (nI 1)) 1 := rfl
set_option maxRecDepth 20000 in
theorem kL_law_176 {L : Nat} {xs : Nat → Int32} : List.getD (tL_law L xs) 176 x_bad = x_ii (fun a b => a + b) := rfl
set_option maxRecDepth 20000 in
theorem kL_law_177 {L : Nat} {xs : Nat → Int32} : List.getD (tL_law L xs) 177 x_bad = x_sld L xs := rfl
set_option maxRecDepth 20000 in
theorem kL_law_178 {L : Nat} {xs : Nat → Int32} : List.getD (tL_law L xs) 178 x_bad = x_callV1 9 mX9_type := rfl
set_option maxRecDepth 20000 in
theorem kL_law_181 {L : Nat} {xs : Nat → Int32} : List.getD (tL_law L xs) 181 x_bad = x_aload 2 1 := rfl
set_option maxRecDepth 20000 in
theorem kL_law_182 {L : Nat} {xs : Nat → Int32} : List.getD (tL_law L xs) 182 x_bad = x_sload 0 1 := rfl
set_option maxRecDepth 20000 in
theorem kL_law_183 {L : Nat} {xs : Nat → Int32} : List.getD (tL_law L xs) 183 x_bad = x_iload 3 1 := rfl
set_option maxRecDepth 20000 in
theorem kL_law_184 {L : Nat} {xs : Nat → Int32} : List.getD (tL_law L xs) 184 x_bad = x_push (.int (nI 1)) 1 := rfl
set_option maxRecDepth 20000 in
theorem kL_law_185 {L : Nat} {xs : Nat → Int32} : List.getD (tL_law L xs) 185 x_bad = x_ii (fun a b => a + b) := rfl
set_option maxRecDepth 20000 in
theorem kL_law_186 {L : Nat} {xs : Nat → Int32} : List.getD (tL_law L xs) 186 x_bad = x_sld L xs := rfl
set_option maxRecDepth 20000 in
theorem kL_law_187 {L : Nat} {xs : Nat → Int32} : List.getD (tL_law L xs) 187 x_bad = x_callV1 10 mX10_type := rfl
set_option maxRecDepth 20000 in
theorem kL_law_190 {L : Nat} {xs : Nat → Int32} : List.getD (tL_law L xs) 190 x_bad = x_icmp (fun a b => a = b) 954 := rfl
set_option maxRecDepth 20000 in
theorem kL_law_193 {L : Nat} {xs : Nat → Int32} : List.getD (tL_law L xs) 193 x_bad = x_push (.int (nI 0)) 1 := rfl
set_option maxRecDepth 20000 in
theorem kL_law_194 {L : Nat} {xs : Nat → Int32} : List.getD (tL_law L xs) 194 x_bad = x_zret := rfl
set_option maxRecDepth 20000 in
theorem kL_law_195 {L : Nat} {xs : Nat → Int32} : List.getD (tL_law L xs) 195 x_bad = x_aload 1 1 := rfl
set_option maxRecDepth 20000 in
theorem kL_law_196 {L : Nat} {xs : Nat → Int32} : List.getD (tL_law L xs) 196 x_bad = x_callV0 9 mX9_clearText := rfl
set_option maxRecDepth 20000 in
theorem kL_law_199 {L : Nat} {xs : Nat → Int32} : List.getD (tL_law L xs) 199 x_bad = x_aload 2 1 := rfl
set_option maxRecDepth 20000 in
theorem kL_law_200 {L : Nat} {xs : Nat → Int32} : List.getD (tL_law L xs) 200 x_bad = x_callV0 10 mX10_clearText := rfl
set_option maxRecDepth 20000 in
theorem kL_law_203 {L : Nat} {xs : Nat → Int32} : List.getD (tL_law L xs) 203 x_bad = x_icmp (fun a b => a = b) 954 := rfl
set_option maxRecDepth 20000 in
theorem kL_law_206 {L : Nat} {xs : Nat → Int32} : List.getD (tL_law L xs) 206 x_bad = x_push (.int (nI 0)) 1 := rfl
set_option maxRecDepth 20000 in
theorem kL_law_207 {L : Nat} {xs : Nat → Int32} : List.getD (tL_law L xs) 207 x_bad = x_zret := rfl
set_option maxRecDepth 20000 in
theorem kL_law_208 {L : Nat} {xs : Nat → Int32} : List.getD (tL_law L xs) 208 x_bad = x_aload 1 1 := rfl
set_option maxRecDepth 20000 in
theorem kL_law_209 {L : Nat} {xs : Nat → Int32} : List.getD (tL_law L xs) 209 x_bad = x_callV0 9 mX9_load := rfl
set_option maxRecDepth 20000 in
theorem kL_law_212 {L : Nat} {xs : Nat → Int32} : List.getD (tL_law L xs) 212 x_bad = x_aload 2 1 := rfl
set_option maxRecDepth 20000 in
theorem kL_law_213 {L : Nat} {xs : Nat → Int32} : List.getD (tL_law L xs) 213 x_bad = x_callV0 10 mX10_load := rfl
set_option maxRecDepth 20000 in
theorem kL_law_216 {L : Nat} {xs : Nat → Int32} : List.getD (tL_law L xs) 216 x_bad = x_icmp (fun a b => a = b) 954 := rfl
set_option maxRecDepth 20000 in
theorem kL_law_219 {L : Nat} {xs : Nat → Int32} : List.getD (tL_law L xs) 219 x_bad = x_push (.int (nI 0)) 1 := rfl
set_option maxRecDepth 20000 in
theorem kL_law_220 {L : Nat} {xs : Nat → Int32} : List.getD (tL_law L xs) 220 x_bad = x_zret := rfl
set_option maxRecDepth 20000 in
theorem kL_law_221 {L : Nat} {xs : Nat → Int32} : List.getD (tL_law L xs) 221 x_bad = x_aload 1 1 := rfl
set_option maxRecDepth 20000 in
theorem kL_law_222 {L : Nat} {xs : Nat → Int32} : List.getD (tL_law L xs) 222 x_bad = x_callV0 9 mX9_faultKind := rfl
set_option maxRecDepth 20000 in
theorem kL_law_225 {L : Nat} {xs : Nat → Int32} : List.getD (tL_law L xs) 225 x_bad = x_aload 2 1 := rfl
set_option maxRecDepth 20000 in
theorem kL_law_226 {L : Nat} {xs : Nat → Int32} : List.getD (tL_law L xs) 226 x_bad = x_callV0 10 mX10_faultKind := rfl
set_option maxRecDepth 20000 in
theorem kL_law_229 {L : Nat} {xs : Nat → Int32} : List.getD (tL_law L xs) 229 x_bad = x_icmp (fun a b => a = b) 954 := rfl
set_option maxRecDepth 20000 in
theorem kL_law_232 {L : Nat} {xs : Nat → Int32} : List.getD (tL_law L xs) 232 x_bad = x_push (.int (nI 0)) 1 := rfl
set_option maxRecDepth 20000 in
theorem kL_law_233 {L : Nat} {xs : Nat → Int32} : List.getD (tL_law L xs) 233 x_bad = x_zret := rfl
set_option maxRecDepth 20000 in
theorem kL_law_234 {L : Nat} {xs : Nat → Int32} : List.getD (tL_law L xs) 234 x_bad = x_aload 1 1 := rfl
set_option maxRecDepth 20000 in
theorem kL_law_235 {L : Nat} {xs : Nat → Int32} : List.getD (tL_law L xs) 235 x_bad = x_sload 0 1 := rfl
set_option maxRecDepth 20000 in
theorem kL_law_236 {L : Nat} {xs : Nat → Int32} : List.getD (tL_law L xs) 236 x_bad = x_iload 3 1 := rfl
set_option maxRecDepth 20000 in
theorem kL_law_237 {L : Nat} {xs : Nat → Int32} : List.getD (tL_law L xs) 237 x_bad = x_push (.int (nI 1)) 1 := rfl
set_option maxRecDepth 20000 in
theorem kL_law_238 {L : Nat} {xs : Nat → Int32} : List.getD (tL_law L xs) 238 x_bad = x_ii (fun a b => a + b) := rfl
set_option maxRecDepth 20000 in
theorem kL_law_239 {L : Nat} {xs : Nat → Int32} : List.getD (tL_law L xs) 239 x_bad = x_sld L xs := rfl
set_option maxRecDepth 20000 in
theorem kL_law_240 {L : Nat} {xs : Nat → Int32} : List.getD (tL_law L xs) 240 x_bad = x_callV1 9 mX9_setStates := rfl
set_option maxRecDepth 20000 in
theorem kL_law_243 {L : Nat} {xs : Nat → Int32} : List.getD (tL_law L xs) 243 x_bad = x_aload 2 1 := rfl
set_option maxRecDepth 20000 in
theorem kL_law_244 {L : Nat} {xs : Nat → Int32} : List.getD (tL_law L xs) 244 x_bad = x_sload 0 1 := rfl
set_option maxRecDepth 20000 in
theorem kL_law_245 {L : Nat} {xs : Nat → Int32} : List.getD (tL_law L xs) 245 x_bad = x_iload 3 1 := rfl
set_option maxRecDepth 20000 in
theorem kL_law_246 {L : Nat} {xs : Nat → Int32} : List.getD (tL_law L xs) 246 x_bad = x_push (.int (nI 1)) 1 := rfl
set_option maxRecDepth 20000 in
theorem kL_law_247 {L : Nat} {xs : Nat → Int32} : List.getD (tL_law L xs) 247 x_bad = x_ii (fun a b => a + b) := rfl
set_option maxRecDepth 20000 in
theorem kL_law_248 {L : Nat} {xs : Nat → Int32} : List.getD (tL_law L xs) 248 x_bad = x_sld L xs := rfl
set_option maxRecDepth 20000 in
theorem kL_law_249 {L : Nat} {xs : Nat → Int32} : List.getD (tL_law L xs) 249 x_bad = x_callV1 10 mX10_setStates := rfl
set_option maxRecDepth 20000 in
theorem kL_law_252 {L : Nat} {xs : Nat → Int32} : List.getD (tL_law L xs) 252 x_bad = x_icmp (fun a b => a = b) 954 := rfl
set_option maxRecDepth 20000 in
theorem kL_law_255 {L : Nat} {xs : Nat → Int32} : List.getD (tL_law L xs) 255 x_bad = x_push (.int (nI 0)) 1 := rfl
set_option maxRecDepth 20000 in
theorem kL_law_256 {L : Nat} {xs : Nat → Int32} : List.getD (tL_law L xs) 256 x_bad = x_zret := rfl
set_option maxRecDepth 20000 in
theorem kL_law_257 {L : Nat} {xs : Nat → Int32} : List.getD (tL_law L xs) 257 x_bad = x_aload 1 1 := rfl
set_option maxRecDepth 20000 in
theorem kL_law_258 {L : Nat} {xs : Nat → Int32} : List.getD (tL_law L xs) 258 x_bad = x_sload 0 1 := rfl
set_option maxRecDepth 20000 in
theorem kL_law_259 {L : Nat} {xs : Nat → Int32} : List.getD (tL_law L xs) 259 x_bad = x_iload 3 1 := rfl
set_option maxRecDepth 20000 in
theorem kL_law_260 {L : Nat} {xs : Nat → Int32} : List.getD (tL_law L xs) 260 x_bad = x_push (.int (nI 1)) 1 := rfl
set_option maxRecDepth 20000 in
theorem kL_law_261 {L : Nat} {xs : Nat → Int32} : List.getD (tL_law L xs) 261 x_bad = x_ii (fun a b => a + b) := rfl
set_option maxRecDepth 20000 in
theorem kL_law_262 {L : Nat} {xs : Nat → Int32} : List.getD (tL_law L xs) 262 x_bad = x_sld L xs := rfl
set_option maxRecDepth 20000 in
theorem kL_law_263 {L : Nat} {xs : Nat → Int32} : List.getD (tL_law L xs) 263 x_bad = x_sload 0 1 := rfl
set_option maxRecDepth 20000 in
theorem kL_law_264 {L : Nat} {xs : Nat → Int32} : List.getD (tL_law L xs) 264 x_bad = x_iload 3 1 := rfl
set_option maxRecDepth 20000 in
theorem kL_law_265 {L : Nat} {xs : Nat → Int32} : List.getD (tL_law L xs) 265 x_bad = x_push (.int (nI 2)) 1 := rfl
set_option maxRecDepth 20000 in
theorem kL_law_266 {L : Nat} {xs : Nat → Int32} : List.getD (tL_law L xs) 266 x_bad = x_ii (fun a b => a + b) := rfl
set_option maxRecDepth 20000 in
theorem kL_law_267 {L : Nat} {xs : Nat → Int32} : List.getD (tL_law L xs) 267 x_bad = x_sld L xs := rfl
set_option maxRecDepth 20000 in
theorem kL_law_268 {L : Nat} {xs : Nat → Int32} : List.getD (tL_law L xs) 268 x_bad = x_sload 0 1 := rfl
set_option maxRecDepth 20000 in
theorem kL_law_269 {L : Nat} {xs : Nat → Int32} : List.getD (tL_law L xs) 269 x_bad = x_iload 3 1 := rfl
set_option maxRecDepth 20000 in
theorem kL_law_270 {L : Nat} {xs : Nat → Int32} : List.getD (tL_law L xs) 270 x_bad = x_push (.int (nI 3)) 1 := rfl
set_option maxRecDepth 20000 in
theorem kL_law_271 {L : Nat} {xs : Nat → Int32} : List.getD (tL_law L xs) 271 x_bad = x_ii (fun a b => a + b) := rfl
set_option maxRecDepth 20000 in
theorem kL_law_272 {L : Nat} {xs : Nat → Int32} : List.getD (tL_law L xs) 272 x_bad = x_sld L xs := rfl
set_option maxRecDepth 20000 in
theorem kL_law_273 {L : Nat} {xs : Nat → Int32} : List.getD (tL_law L xs) 273 x_bad = x_callV3 9 mX9_addArc := rfl
set_option maxRecDepth 20000 in
theorem kL_law_276 {L : Nat} {xs : Nat → Int32} : List.getD (tL_law L xs) 276 x_bad = x_aload 2 1 := rfl
set_option maxRecDepth 20000 in
theorem kL_law_277 {L : Nat} {xs : Nat → Int32} : List.getD (tL_law L xs) 277 x_bad = x_sload 0 1 := rfl
set_option maxRecDepth 20000 in
theorem kL_law_278 {L : Nat} {xs : Nat → Int32} : List.getD (tL_law L xs) 278 x_bad = x_iload 3 1 := rfl
set_option maxRecDepth 20000 in
theorem kL_law_279 {L : Nat} {xs : Nat → Int32} : List.getD (tL_law L xs) 279 x_bad = x_push (.int (nI 1)) 1 := rfl
set_option maxRecDepth 20000 in
theorem kL_law_280 {L : Nat} {xs : Nat → Int32} : List.getD (tL_law L xs) 280 x_bad = x_ii (fun a b => a + b) := rfl
set_option maxRecDepth 20000 in
theorem kL_law_281 {L : Nat} {xs : Nat → Int32} : List.getD (tL_law L xs) 281 x_bad = x_sld L xs := rfl
set_option maxRecDepth 20000 in
theorem kL_law_282 {L : Nat} {xs : Nat → Int32} : List.getD (tL_law L xs) 282 x_bad = x_sload 0 1 := rfl
set_option maxRecDepth 20000 in
theorem kL_law_283 {L : Nat} {xs : Nat → Int32} : List.getD (tL_law L xs) 283 x_bad = x_iload 3 1 := rfl
set_option maxRecDepth 20000 in
theorem kL_law_284 {L : Nat} {xs : Nat → Int32} : List.getD (tL_law L xs) 284 x_bad = x_push (.int (nI 2)) 1 := rfl
set_option maxRecDepth 20000 in
theorem kL_law_285 {L : Nat} {xs : Nat → Int32} : List.getD (tL_law L xs) 285 x_bad = x_ii (fun a b => a + b) := rfl
set_option maxRecDepth 20000 in
theorem kL_law_286 {L : Nat} {xs : Nat → Int32} : List.getD (tL_law L xs) 286 x_bad = x_sld L xs := rfl
set_option maxRecDepth 20000 in
theorem kL_law_287 {L : Nat} {xs : Nat → Int32} : List.getD (tL_law L xs) 287 x_bad = x_sload 0 1 := rfl
set_option maxRecDepth 20000 in
theorem kL_law_288 {L : Nat} {xs : Nat → Int32} : List.getD (tL_law L xs) 288 x_bad = x_iload 3 1 := rfl
set_option maxRecDepth 20000 in
theorem kL_law_289 {L : Nat} {xs : Nat → Int32} : List.getD (tL_law L xs) 289 x_bad = x_push (.int (nI 3)) 1 := rfl
set_option maxRecDepth 20000 in
theorem kL_law_290 {L : Nat} {xs : Nat → Int32} : List.getD (tL_law L xs) 290 x_bad = x_ii (fun a b => a + b) := rfl
set_option maxRecDepth 20000 in
theorem kL_law_291 {L : Nat} {xs : Nat → Int32} : List.getD (tL_law L xs) 291 x_bad = x_sld L xs := rfl
set_option maxRecDepth 20000 in
theorem kL_law_292 {L : Nat} {xs : Nat → Int32} : List.getD (tL_law L xs) 292 x_bad = x_callV3 10 mX10_addArc := rfl
set_option maxRecDepth 20000 in
theorem kL_law_295 {L : Nat} {xs : Nat → Int32} : List.getD (tL_law L xs) 295 x_bad = x_icmp (fun a b => a = b) 954 := rfl
set_option maxRecDepth 20000 in
theorem kL_law_298 {L : Nat} {xs : Nat → Int32} : List.getD (tL_law L xs) 298 x_bad = x_push (.int (nI 0)) 1 := rfl
set_option maxRecDepth 20000 in
theorem kL_law_299 {L : Nat} {xs : Nat → Int32} : List.getD (tL_law L xs) 299 x_bad = x_zret := rfl
set_option maxRecDepth 20000 in
theorem kL_law_300 {L : Nat} {xs : Nat → Int32} : List.getD (tL_law L xs) 300 x_bad = x_aload 1 1 := rfl
set_option maxRecDepth 20000 in
theorem kL_law_301 {L : Nat} {xs : Nat → Int32} : List.getD (tL_law L xs) 301 x_bad = x_sload 0 1 := rfl
set_option maxRecDepth 20000 in
theorem kL_law_302 {L : Nat} {xs : Nat → Int32} : List.getD (tL_law L xs) 302 x_bad = x_iload 3 1 := rfl
set_option maxRecDepth 20000 in
theorem kL_law_303 {L : Nat} {xs : Nat → Int32} : List.getD (tL_law L xs) 303 x_bad = x_push (.int (nI 1)) 1 := rfl
set_option maxRecDepth 20000 in
theorem kL_law_304 {L : Nat} {xs : Nat → Int32} : List.getD (tL_law L xs) 304 x_bad = x_ii (fun a b => a + b) := rfl
set_option maxRecDepth 20000 in
theorem kL_law_305 {L : Nat} {xs : Nat → Int32} : List.getD (tL_law L xs) 305 x_bad = x_sld L xs := rfl
set_option maxRecDepth 20000 in
theorem kL_law_306 {L : Nat} {xs : Nat → Int32} : List.getD (tL_law L xs) 306 x_bad = x_callV1 9 mX9_dropArc := rfl
set_option maxRecDepth 20000 in
theorem kL_law_309 {L : Nat} {xs : Nat → Int32} : List.getD (tL_law L xs) 309 x_bad = x_aload 2 1 := rfl
set_option maxRecDepth 20000 in
theorem kL_law_310 {L : Nat} {xs : Nat → Int32} : List.getD (tL_law L xs) 310 x_bad = x_sload 0 1 := rfl
set_option maxRecDepth 20000 in
theorem kL_law_311 {L : Nat} {xs : Nat → Int32} : List.getD (tL_law L xs) 311 x_bad = x_iload 3 1 := rfl
set_option maxRecDepth 20000 in
theorem kL_law_312 {L : Nat} {xs : Nat → Int32} : List.getD (tL_law L xs) 312 x_bad = x_push (.int (nI 1)) 1 := rfl
set_option maxRecDepth 20000 in
theorem kL_law_313 {L : Nat} {xs : Nat → Int32} : List.getD (tL_law L xs) 313 x_bad = x_ii (fun a b => a + b) := rfl
set_option maxRecDepth 20000 in
theorem kL_law_314 {L : Nat} {xs : Nat → Int32} : List.getD (tL_law L xs) 314 x_bad = x_sld L xs := rfl
set_option maxRecDepth 20000 in
theorem kL_law_315 {L : Nat} {xs : Nat → Int32} : List.getD (tL_law L xs) 315 x_bad = x_callV1 10 mX10_dropArc := rfl
set_option maxRecDepth 20000 in
theorem kL_law_318 {L : Nat} {xs : Nat → Int32} : List.getD (tL_law L xs) 318 x_bad = x_icmp (fun a b => a = b) 954 := rfl
set_option maxRecDepth 20000 in
theorem kL_law_321 {L : Nat} {xs : Nat → Int32} : List.getD (tL_law L xs) 321 x_bad = x_push (.int (nI 0)) 1 := rfl
set_option maxRecDepth 20000 in
theorem kL_law_322 {L : Nat} {xs : Nat → Int32} : List.getD (tL_law L xs) 322 x_bad = x_zret := rfl
set_option maxRecDepth 20000 in
theorem kL_law_323 {L : Nat} {xs : Nat → Int32} : List.getD (tL_law L xs) 323 x_bad = x_aload 1 1 := rfl
set_option maxRecDepth 20000 in
theorem kL_law_324 {L : Nat} {xs : Nat → Int32} : List.getD (tL_law L xs) 324 x_bad = x_sload 0 1 := rfl
set_option maxRecDepth 20000 in
theorem kL_law_325 {L : Nat} {xs : Nat → Int32} : List.getD (tL_law L xs) 325 x_bad = x_iload 3 1 := rfl
set_option maxRecDepth 20000 in
theorem kL_law_326 {L : Nat} {xs : Nat → Int32} : List.getD (tL_law L xs) 326 x_bad = x_push (.int (nI 1)) 1 := rfl
set_option maxRecDepth 20000 in
theorem kL_law_327 {L : Nat} {xs : Nat → Int32} : List.getD (tL_law L xs) 327 x_bad = x_ii (fun a b => a + b) := rfl
set_option maxRecDepth 20000 in
theorem kL_law_328 {L : Nat} {xs : Nat → Int32} : List.getD (tL_law L xs) 328 x_bad = x_sld L xs := rfl
set_option maxRecDepth 20000 in
theorem kL_law_329 {L : Nat} {xs : Nat → Int32} : List.getD (tL_law L xs) 329 x_bad = x_sload 0 1 := rfl
set_option maxRecDepth 20000 in
theorem kL_law_330 {L : Nat} {xs : Nat → Int32} : List.getD (tL_law L xs) 330 x_bad = x_iload 3 1 := rfl
set_option maxRecDepth 20000 in
theorem kL_law_331 {L : Nat} {xs : Nat → Int32} : List.getD (tL_law L xs) 331 x_bad = x_push (.int (nI 2)) 1 := rfl
set_option maxRecDepth 20000 in
theorem kL_law_332 {L : Nat} {xs : Nat → Int32} : List.getD (tL_law L xs) 332 x_bad = x_ii (fun a b => a + b) := rfl
set_option maxRecDepth 20000 in
theorem kL_law_333 {L : Nat} {xs : Nat → Int32} : List.getD (tL_law L xs) 333 x_bad = x_sld L xs := rfl
set_option maxRecDepth 20000 in
theorem kL_law_334 {L : Nat} {xs : Nat → Int32} : List.getD (tL_law L xs) 334 x_bad = x_callV2 9 mX9_arc := rfl
set_option maxRecDepth 20000 in
theorem kL_law_337 {L : Nat} {xs : Nat → Int32} : List.getD (tL_law L xs) 337 x_bad = x_aload 2 1 := rfl
set_option maxRecDepth 20000 in
theorem kL_law_338 {L : Nat} {xs : Nat → Int32} : List.getD (tL_law L xs) 338 x_bad = x_sload 0 1 := rfl
set_option maxRecDepth 20000 in
theorem kL_law_339 {L : Nat} {xs : Nat → Int32} : List.getD (tL_law L xs) 339 x_bad = x_iload 3 1 := rfl
set_option maxRecDepth 20000 in
theorem kL_law_340 {L : Nat} {xs : Nat → Int32} : List.getD (tL_law L xs) 340 x_bad = x_push (.int (nI 1)) 1 := rfl
set_option maxRecDepth 20000 in
theorem kL_law_341 {L : Nat} {xs : Nat → Int32} : List.getD (tL_law L xs) 341 x_bad = x_ii (fun a b => a + b) := rfl
set_option maxRecDepth 20000 in
theorem kL_law_342 {L : Nat} {xs : Nat → Int32} : List.getD (tL_law L xs) 342 x_bad = x_sld L xs := rfl
set_option maxRecDepth 20000 in
theorem kL_law_343 {L : Nat} {xs : Nat → Int32} : List.getD (tL_law L xs) 343 x_bad = x_sload 0 1 := rfl
set_option maxRecDepth 20000 in
theorem kL_law_344 {L : Nat} {xs : Nat → Int32} : List.getD (tL_law L xs) 344 x_bad = x_iload 3 1 := rfl
set_option maxRecDepth 20000 in
theorem kL_law_345 {L : Nat} {xs : Nat → Int32} : List.getD (tL_law L xs) 345 x_bad = x_push (.int (nI 2)) 1 := rfl
set_option maxRecDepth 20000 in
theorem kL_law_346 {L : Nat} {xs : Nat → Int32} : List.getD (tL_law L xs) 346 x_bad = x_ii (fun a b => a + b) := rfl
set_option maxRecDepth 20000 in
theorem kL_law_347 {L : Nat} {xs : Nat → Int32} : List.getD (tL_law L xs) 347 x_bad = x_sld L xs := rfl
set_option maxRecDepth 20000 in
theorem kL_law_348 {L : Nat} {xs : Nat → Int32} : List.getD (tL_law L xs) 348 x_bad = x_callV2 10 mX10_arc := rfl
set_option maxRecDepth 20000 in
theorem kL_law_351 {L : Nat} {xs : Nat → Int32} : List.getD (tL_law L xs) 351 x_bad = x_icmp (fun a b => a = b) 954 := rfl
set_option maxRecDepth 20000 in
theorem kL_law_354 {L : Nat} {xs : Nat → Int32} : List.getD (tL_law L xs) 354 x_bad = x_push (.int (nI 0)) 1 := rfl
set_option maxRecDepth 20000 in
theorem kL_law_355 {L : Nat} {xs : Nat → Int32} : List.getD (tL_law L xs) 355 x_bad = x_zret := rfl
set_option maxRecDepth 20000 in
theorem kL_law_356 {L : Nat} {xs : Nat → Int32} : List.getD (tL_law L xs) 356 x_bad = x_aload 1 1 := rfl
set_option maxRecDepth 20000 in
theorem kL_law_357 {L : Nat} {xs : Nat → Int32} : List.getD (tL_law L xs) 357 x_bad = x_sload 0 1 := rfl
set_option maxRecDepth 20000 in
theorem kL_law_358 {L : Nat} {xs : Nat → Int32} : List.getD (tL_law L xs) 358 x_bad = x_iload 3 1 := rfl
set_option maxRecDepth 20000 in
theorem kL_law_359 {L : Nat} {xs : Nat → Int32} : List.getD (tL_law L xs) 359 x_bad = x_push (.int (nI 1)) 1 := rfl
set_option maxRecDepth 20000 in
theorem kL_law_360 {L : Nat} {xs : Nat → Int32} : List.getD (tL_law L xs) 360 x_bad = x_ii (fun a b => a + b) := rfl
set_option maxRecDepth 20000 in
theorem kL_law_361 {L : Nat} {xs : Nat → Int32} : List.getD (tL_law L xs) 361 x_bad = x_sld L xs := rfl
set_option maxRecDepth 20000 in
theorem kL_law_362 {L : Nat} {xs : Nat → Int32} : List.getD (tL_law L xs) 362 x_bad = x_sload 0 1 := rfl
set_option maxRecDepth 20000 in
theorem kL_law_363 {L : Nat} {xs : Nat → Int32} : List.getD (tL_law L xs) 363 x_bad = x_iload 3 1 := rfl
set_option maxRecDepth 20000 in
theorem kL_law_364 {L : Nat} {xs : Nat → Int32} : List.getD (tL_law L xs) 364 x_bad = x_push (.int (nI 2)) 1 := rfl
set_option maxRecDepth 20000 in
theorem kL_law_365 {L : Nat} {xs : Nat → Int32} : List.getD (tL_law L xs) 365 x_bad = x_ii (fun a b => a + b) := rfl
set_option maxRecDepth 20000 in
theorem kL_law_366 {L : Nat} {xs : Nat → Int32} : List.getD (tL_law L xs) 366 x_bad = x_sld L xs := rfl
set_option maxRecDepth 20000 in
theorem kL_law_367 {L : Nat} {xs : Nat → Int32} : List.getD (tL_law L xs) 367 x_bad = x_callV2 9 mX9_next := rfl
set_option maxRecDepth 20000 in
theorem kL_law_370 {L : Nat} {xs : Nat → Int32} : List.getD (tL_law L xs) 370 x_bad = x_aload 2 1 := rfl
set_option maxRecDepth 20000 in
theorem kL_law_371 {L : Nat} {xs : Nat → Int32} : List.getD (tL_law L xs) 371 x_bad = x_sload 0 1 := rfl
set_option maxRecDepth 20000 in
theorem kL_law_372 {L : Nat} {xs : Nat → Int32} : List.getD (tL_law L xs) 372 x_bad = x_iload 3 1 := rfl
set_option maxRecDepth 20000 in
theorem kL_law_373 {L : Nat} {xs : Nat → Int32} : List.getD (tL_law L xs) 373 x_bad = x_push (.int (nI 1)) 1 := rfl
set_option maxRecDepth 20000 in
theorem kL_law_374 {L : Nat} {xs : Nat → Int32} : List.getD (tL_law L xs) 374 x_bad = x_ii (fun a b => a + b) := rfl
set_option maxRecDepth 20000 in
theorem kL_law_375 {L : Nat} {xs : Nat → Int32} : List.getD (tL_law L xs) 375 x_bad = x_sld L xs := rfl
set_option maxRecDepth 20000 in
theorem kL_law_376 {L : Nat} {xs : Nat → Int32} : List.getD (tL_law L xs) 376 x_bad = x_sload 0 1 := rfl
set_option maxRecDepth 20000 in
theorem kL_law_377 {L : Nat} {xs : Nat → Int32} : List.getD (tL_law L xs) 377 x_bad = x_iload 3 1 := rfl
set_option maxRecDepth 20000 in
theorem kL_law_378 {L : Nat} {xs : Nat → Int32} : List.getD (tL_law L xs) 378 x_bad = x_push (.int (nI 2)) 1 := rfl
set_option maxRecDepth 20000 in
theorem kL_law_379 {L : Nat} {xs : Nat → Int32} : List.getD (tL_law L xs) 379 x_bad = x_ii (fun a b => a + b) := rfl
set_option maxRecDepth 20000 in
theorem kL_law_380 {L : Nat} {xs : Nat → Int32} : List.getD (tL_law L xs) 380 x_bad = x_sld L xs := rfl
set_option maxRecDepth 20000 in
theorem kL_law_381 {L : Nat} {xs : Nat → Int32} : List.getD (tL_law L xs) 381 x_bad = x_callV2 10 mX10_next := rfl
set_option maxRecDepth 20000 in
theorem kL_law_384 {L : Nat} {xs : Nat → Int32} : List.getD (tL_law L xs) 384 x_bad = x_icmp (fun a b => a = b) 954 := rfl
set_option maxRecDepth 20000 in
theorem kL_law_387 {L : Nat} {xs : Nat → Int32} : List.getD (tL_law L xs) 387 x_bad = x_push (.int (nI 0)) 1 := rfl
set_option maxRecDepth 20000 in
theorem kL_law_388 {L : Nat} {xs : Nat → Int32} : List.getD (tL_law L xs) 388 x_bad = x_zret := rfl
set_option maxRecDepth 20000 in
theorem kL_law_389 {L : Nat} {xs : Nat → Int32} : List.getD (tL_law L xs) 389 x_bad = x_aload 1 1 := rfl
set_option maxRecDepth 20000 in
theorem kL_law_390 {L : Nat} {xs : Nat → Int32} : List.getD (tL_law L xs) 390 x_bad = x_sload 0 1 := rfl
set_option maxRecDepth 20000 in
theorem kL_law_391 {L : Nat} {xs : Nat → Int32} : List.getD (tL_law L xs) 391 x_bad = x_iload 3 1 := rfl
set_option maxRecDepth 20000 in
theorem kL_law_392 {L : Nat} {xs : Nat → Int32} : List.getD (tL_law L xs) 392 x_bad = x_push (.int (nI 1)) 1 := rfl
set_option maxRecDepth 20000 in
theorem kL_law_393 {L : Nat} {xs : Nat → Int32} : List.getD (tL_law L xs) 393 x_bad = x_ii (fun a b => a + b) := rfl
set_option maxRecDepth 20000 in
theorem kL_law_394 {L : Nat} {xs : Nat → Int32} : List.getD (tL_law L xs) 394 x_bad = x_sld L xs := rfl
set_option maxRecDepth 20000 in
theorem kL_law_395 {L : Nat} {xs : Nat → Int32} : List.getD (tL_law L xs) 395 x_bad = x_callV1 9 mX9_split := rfl
set_option maxRecDepth 20000 in
theorem kL_law_398 {L : Nat} {xs : Nat → Int32} : List.getD (tL_law L xs) 398 x_bad = x_aload 2 1 := rfl
set_option maxRecDepth 20000 in
theorem kL_law_399 {L : Nat} {xs : Nat → Int32} : List.getD (tL_law L xs) 399 x_bad = x_sload 0 1 := rfl
set_option maxRecDepth 20000 in
theorem kL_law_400 {L : Nat} {xs : Nat → Int32} : List.getD (tL_law L xs) 400 x_bad = x_iload 3 1 := rfl
set_option maxRecDepth 20000 in
theorem kL_law_401 {L : Nat} {xs : Nat → Int32} : List.getD (tL_law L xs) 401 x_bad = x_push (.int (nI 1)) 1 := rfl
set_option maxRecDepth 20000 in
theorem kL_law_402 {L : Nat} {xs : Nat → Int32} : List.getD (tL_law L xs) 402 x_bad = x_ii (fun a b => a + b) := rfl
set_option maxRecDepth 20000 in
theorem kL_law_403 {L : Nat} {xs : Nat → Int32} : List.getD (tL_law L xs) 403 x_bad = x_sld L xs := rfl
set_option maxRecDepth 20000 in
theorem kL_law_404 {L : Nat} {xs : Nat → Int32} : List.getD (tL_law L xs) 404 x_bad = x_callV1 10 mX10_split := rfl
set_option maxRecDepth 20000 in
theorem kL_law_407 {L : Nat} {xs : Nat → Int32} : List.getD (tL_law L xs) 407 x_bad = x_icmp (fun a b => a = b) 954 := rfl
set_option maxRecDepth 20000 in
theorem kL_law_410 {L : Nat} {xs : Nat → Int32} : List.getD (tL_law L xs) 410 x_bad = x_push (.int (nI 0)) 1 := rfl
set_option maxRecDepth 20000 in
theorem kL_law_411 {L : Nat} {xs : Nat → Int32} : List.getD (tL_law L xs) 411 x_bad = x_zret := rfl
set_option maxRecDepth 20000 in
theorem kL_law_412 {L : Nat} {xs : Nat → Int32} : List.getD (tL_law L xs) 412 x_bad = x_aload 1 1 := rfl
set_option maxRecDepth 20000 in
theorem kL_law_413 {L : Nat} {xs : Nat → Int32} : List.getD (tL_law L xs) 413 x_bad = x_callV0 9 mX9_repair := rfl
set_option maxRecDepth 20000 in
theorem kL_law_416 {L : Nat} {xs : Nat → Int32} : List.getD (tL_law L xs) 416 x_bad = x_aload 2 1 := rfl
set_option maxRecDepth 20000 in
theorem kL_law_417 {L : Nat} {xs : Nat → Int32} : List.getD (tL_law L xs) 417 x_bad = x_callV0 10 mX10_repair := rfl
set_option maxRecDepth 20000 in
theorem kL_law_420 {L : Nat} {xs : Nat → Int32} : List.getD (tL_law L xs) 420 x_bad = x_icmp (fun a b => a = b) 954 := rfl
set_option maxRecDepth 20000 in
theorem kL_law_423 {L : Nat} {xs : Nat → Int32} : List.getD (tL_law L xs) 423 x_bad = x_push (.int (nI 0)) 1 := rfl
set_option maxRecDepth 20000 in
theorem kL_law_424 {L : Nat} {xs : Nat → Int32} : List.getD (tL_law L xs) 424 x_bad = x_zret := rfl
set_option maxRecDepth 20000 in
theorem kL_law_425 {L : Nat} {xs : Nat → Int32} : List.getD (tL_law L xs) 425 x_bad = x_aload 1 1 := rfl
set_option maxRecDepth 20000 in
theorem kL_law_426 {L : Nat} {xs : Nat → Int32} : List.getD (tL_law L xs) 426 x_bad = x_sload 0 1 := rfl
set_option maxRecDepth 20000 in
theorem kL_law_427 {L : Nat} {xs : Nat → Int32} : List.getD (tL_law L xs) 427 x_bad = x_iload 3 1 := rfl
set_option maxRecDepth 20000 in
theorem kL_law_428 {L : Nat} {xs : Nat → Int32} : List.getD (tL_law L xs) 428 x_bad = x_push (.int (nI 1)) 1 := rfl
set_option maxRecDepth 20000 in
theorem kL_law_429 {L : Nat} {xs : Nat → Int32} : List.getD (tL_law L xs) 429 x_bad = x_ii (fun a b => a + b) := rfl
set_option maxRecDepth 20000 in
theorem kL_law_430 {L : Nat} {xs : Nat → Int32} : List.getD (tL_law L xs) 430 x_bad = x_sld L xs := rfl
set_option maxRecDepth 20000 in
theorem kL_law_431 {L : Nat} {xs : Nat → Int32} : List.getD (tL_law L xs) 431 x_bad = x_if (fun a => a = 0) 438 := rfl
set_option maxRecDepth 20000 in
theorem kL_law_434 {L : Nat} {xs : Nat → Int32} : List.getD (tL_law L xs) 434 x_bad = x_push (.int (nI 1)) 1 := rfl
set_option maxRecDepth 20000 in
theorem kL_law_435 {L : Nat} {xs : Nat → Int32} : List.getD (tL_law L xs) 435 x_bad = x_goto 439 := rfl
set_option maxRecDepth 20000 in
theorem kL_law_438 {L : Nat} {xs : Nat → Int32} : List.getD (tL_law L xs) 438 x_bad = x_push (.int (nI 0)) 1 := rfl
set_option maxRecDepth 20000 in
theorem kL_law_439 {L : Nat} {xs : Nat → Int32} : List.getD (tL_law L xs) 439 x_bad = x_callV1 9 mX9_regions := rfl
set_option maxRecDepth 20000 in
theorem kL_law_442 {L : Nat} {xs : Nat → Int32} : List.getD (tL_law L xs) 442 x_bad = x_aload 2 1 := rfl
set_option maxRecDepth 20000 in
theorem kL_law_443 {L : Nat} {xs : Nat → Int32} : List.getD (tL_law L xs) 443 x_bad = x_sload 0 1 := rfl
set_option maxRecDepth 20000 in
theorem kL_law_444 {L : Nat} {xs : Nat → Int32} : List.getD (tL_law L xs) 444 x_bad = x_iload 3 1 := rfl
set_option maxRecDepth 20000 in
theorem kL_law_445 {L : Nat} {xs : Nat → Int32} : List.getD (tL_law L xs) 445 x_bad = x_push (.int (nI 1)) 1 := rfl
set_option maxRecDepth 20000 in
theorem kL_law_446 {L : Nat} {xs : Nat → Int32} : List.getD (tL_law L xs) 446 x_bad = x_ii (fun a b => a + b) := rfl
set_option maxRecDepth 20000 in
theorem kL_law_447 {L : Nat} {xs : Nat → Int32} : List.getD (tL_law L xs) 447 x_bad = x_sld L xs := rfl
set_option maxRecDepth 20000 in
theorem kL_law_448 {L : Nat} {xs : Nat → Int32} : List.getD (tL_law L xs) 448 x_bad = x_if (fun a => a = 0) 455 := rfl
set_option maxRecDepth 20000 in
theorem kL_law_451 {L : Nat} {xs : Nat → Int32} : List.getD (tL_law L xs) 451 x_bad = x_push (.int (nI 1)) 1 := rfl
set_option maxRecDepth 20000 in
theorem kL_law_452 {L : Nat} {xs : Nat → Int32} : List.getD (tL_law L xs) 452 x_bad = x_goto 456 := rfl
set_option maxRecDepth 20000 in
theorem kL_law_455 {L : Nat} {xs : Nat → Int32} : List.getD (tL_law L xs) 455 x_bad = x_push (.int (nI 0)) 1 := rfl
set_option maxRecDepth 20000 in
theorem kL_law_456 {L : Nat} {xs : Nat → Int32} : List.getD (tL_law L xs) 456 x_bad = x_callV1 10 mX10_regions := rfl
set_option maxRecDepth 20000 in
theorem kL_law_459 {L : Nat} {xs : Nat → Int32} : List.getD (tL_law L xs) 459 x_bad = x_icmp (fun a b => a = b) 954 := rfl
set_option maxRecDepth 20000 in
theorem kL_law_462 {L : Nat} {xs : Nat → Int32} : List.getD (tL_law L xs) 462 x_bad = x_push (.int (nI 0)) 1 := rfl
set_option maxRecDepth 20000 in
theorem kL_law_463 {L : Nat} {xs : Nat → Int32} : List.getD (tL_law L xs) 463 x_bad = x_zret := rfl
set_option maxRecDepth 20000 in
theorem kL_law_464 {L : Nat} {xs : Nat → Int32} : List.getD (tL_law L xs) 464 x_bad = x_aload 1 1 := rfl
set_option maxRecDepth 20000 in
theorem kL_law_465 {L : Nat} {xs : Nat → Int32} : List.getD (tL_law L xs) 465 x_bad = x_sload 0 1 := rfl
set_option maxRecDepth 20000 in
theorem kL_law_466 {L : Nat} {xs : Nat → Int32} : List.getD (tL_law L xs) 466 x_bad = x_iload 3 1 := rfl
set_option maxRecDepth 20000 in
theorem kL_law_467 {L : Nat} {xs : Nat → Int32} : List.getD (tL_law L xs) 467 x_bad = x_push (.int (nI 1)) 1 := rfl
set_option maxRecDepth 20000 in
theorem kL_law_468 {L : Nat} {xs : Nat → Int32} : List.getD (tL_law L xs) 468 x_bad = x_ii (fun a b => a + b) := rfl
set_option maxRecDepth 20000 in
theorem kL_law_469 {L : Nat} {xs : Nat → Int32} : List.getD (tL_law L xs) 469 x_bad = x_sld L xs := rfl
set_option maxRecDepth 20000 in
theorem kL_law_470 {L : Nat} {xs : Nat → Int32} : List.getD (tL_law L xs) 470 x_bad = x_sload 0 1 := rfl
set_option maxRecDepth 20000 in
theorem kL_law_471 {L : Nat} {xs : Nat → Int32} : List.getD (tL_law L xs) 471 x_bad = x_iload 3 1 := rfl
set_option maxRecDepth 20000 in
theorem kL_law_472 {L : Nat} {xs : Nat → Int32} : List.getD (tL_law L xs) 472 x_bad = x_push (.int (nI 2)) 1 := rfl
set_option maxRecDepth 20000 in
theorem kL_law_473 {L : Nat} {xs : Nat → Int32} : List.getD (tL_law L xs) 473 x_bad = x_ii (fun a b => a + b) := rfl
set_option maxRecDepth 20000 in
theorem kL_law_474 {L : Nat} {xs : Nat → Int32} : List.getD (tL_law L xs) 474 x_bad = x_sld L xs := rfl
set_option maxRecDepth 20000 in
theorem kL_law_475 {L : Nat} {xs : Nat → Int32} : List.getD (tL_law L xs) 475 x_bad = x_if (fun a => a = 0) 482 := rfl
set_option maxRecDepth 20000 in
theorem kL_law_478 {L : Nat} {xs : Nat → Int32} : List.getD (tL_law L xs) 478 x_bad = x_push (.int (nI 1)) 1 := rfl
set_option maxRecDepth 20000 in
theorem kL_law_479 {L : Nat} {xs : Nat → Int32} : List.getD (tL_law L xs) 479 x_bad = x_goto 483 := rfl
set_option maxRecDepth 20000 in
theorem kL_law_482 {L : Nat} {xs : Nat → Int32} : List.getD (tL_law L xs) 482 x_bad = x_push (.int (nI 0)) 1 := rfl
set_option maxRecDepth 20000 in
theorem kL_law_483 {L : Nat} {xs : Nat → Int32} : List.getD (tL_law L xs) 483 x_bad = x_callV2 9 mX9_region := rfl
set_option maxRecDepth 20000 in
theorem kL_law_486 {L : Nat} {xs : Nat → Int32} : List.getD (tL_law L xs) 486 x_bad = x_aload 2 1 := rfl
set_option maxRecDepth 20000 in
theorem kL_law_487 {L : Nat} {xs : Nat → Int32} : List.getD (tL_law L xs) 487 x_bad = x_sload 0 1 := rfl
set_option maxRecDepth 20000 in
theorem kL_law_488 {L : Nat} {xs : Nat → Int32} : List.getD (tL_law L xs) 488 x_bad = x_iload 3 1 := rfl
set_option maxRecDepth 20000 in
theorem kL_law_489 {L : Nat} {xs : Nat → Int32} : List.getD (tL_law L xs) 489 x_bad = x_push (.int (nI 1)) 1 := rfl
set_option maxRecDepth 20000 in
theorem kL_law_490 {L : Nat} {xs : Nat → Int32} : List.getD (tL_law L xs) 490 x_bad = x_ii (fun a b => a + b) := rfl
set_option maxRecDepth 20000 in
theorem kL_law_491 {L : Nat} {xs : Nat → Int32} : List.getD (tL_law L xs) 491 x_bad = x_sld L xs := rfl
set_option maxRecDepth 20000 in
theorem kL_law_492 {L : Nat} {xs : Nat → Int32} : List.getD (tL_law L xs) 492 x_bad = x_sload 0 1 := rfl
set_option maxRecDepth 20000 in
theorem kL_law_493 {L : Nat} {xs : Nat → Int32} : List.getD (tL_law L xs) 493 x_bad = x_iload 3 1 := rfl
set_option maxRecDepth 20000 in
theorem kL_law_494 {L : Nat} {xs : Nat → Int32} : List.getD (tL_law L xs) 494 x_bad = x_push (.int (nI 2)) 1 := rfl
set_option maxRecDepth 20000 in
theorem kL_law_495 {L : Nat} {xs : Nat → Int32} : List.getD (tL_law L xs) 495 x_bad = x_ii (fun a b => a + b) := rfl
set_option maxRecDepth 20000 in
theorem kL_law_496 {L : Nat} {xs : Nat → Int32} : List.getD (tL_law L xs) 496 x_bad = x_sld L xs := rfl
set_option maxRecDepth 20000 in
theorem kL_law_497 {L : Nat} {xs : Nat → Int32} : List.getD (tL_law L xs) 497 x_bad = x_if (fun a => a = 0) 504 := rfl
set_option maxRecDepth 20000 in
theorem kL_law_500 {L : Nat} {xs : Nat → Int32} : List.getD (tL_law L xs) 500 x_bad = x_push (.int (nI 1)) 1 := rfl
set_option maxRecDepth 20000 in
theorem kL_law_501 {L : Nat} {xs : Nat → Int32} : List.getD (tL_law L xs) 501 x_bad = x_goto 505 := rfl
set_option maxRecDepth 20000 in
theorem kL_law_504 {L : Nat} {xs : Nat → Int32} : List.getD (tL_law L xs) 504 x_bad = x_push (.int (nI 0)) 1 := rfl
set_option maxRecDepth 20000 in
theorem kL_law_505 {L : Nat} {xs : Nat → Int32} : List.getD (tL_law L xs) 505 x_bad = x_callV2 10 mX10_region := rfl
set_option maxRecDepth 20000 in
theorem kL_law_508 {L : Nat} {xs : Nat → Int32} : List.getD (tL_law L xs) 508 x_bad = x_icmp (fun a b => a = b) 954 := rfl
set_option maxRecDepth 20000 in
theorem kL_law_511 {L : Nat} {xs : Nat → Int32} : List.getD (tL_law L xs) 511 x_bad = x_push (.int (nI 0)) 1 := rfl
set_option maxRecDepth 20000 in
theorem kL_law_512 {L : Nat} {xs : Nat → Int32} : List.getD (tL_law L xs) 512 x_bad = x_zret := rfl
set_option maxRecDepth 20000 in
theorem kL_law_513 {L : Nat} {xs : Nat → Int32} : List.getD (tL_law L xs) 513 x_bad = x_aload 1 1 := rfl
set_option maxRecDepth 20000 in
theorem kL_law_514 {L : Nat} {xs : Nat → Int32} : List.getD (tL_law L xs) 514 x_bad = x_sload 0 1 := rfl
set_option maxRecDepth 20000 in
theorem kL_law_515 {L : Nat} {xs : Nat → Int32} : List.getD (tL_law L xs) 515 x_bad = x_iload 3 1 := rfl
set_option maxRecDepth 20000 in
theorem kL_law_516 {L : Nat} {xs : Nat → Int32} : List.getD (tL_law L xs) 516 x_bad = x_push (.int (nI 1)) 1 := rfl
set_option maxRecDepth 20000 in
theorem kL_law_517 {L : Nat} {xs : Nat → Int32} : List.getD (tL_law L xs) 517 x_bad = x_ii (fun a b => a + b) := rfl
set_option maxRecDepth 20000 in
theorem kL_law_518 {L : Nat} {xs : Nat → Int32} : List.getD (tL_law L xs) 518 x_bad = x_sld L xs := rfl
set_option maxRecDepth 20000 in
theorem kL_law_519 {L : Nat} {xs : Nat → Int32} : List.getD (tL_law L xs) 519 x_bad = x_sload 0 1 := rfl
set_option maxRecDepth 20000 in
theorem kL_law_520 {L : Nat} {xs : Nat → Int32} : List.getD (tL_law L xs) 520 x_bad = x_iload 3 1 := rfl
set_option maxRecDepth 20000 in
theorem kL_law_521 {L : Nat} {xs : Nat → Int32} : List.getD (tL_law L xs) 521 x_bad = x_push (.int (nI 2)) 1 := rfl
set_option maxRecDepth 20000 in
theorem kL_law_522 {L : Nat} {xs : Nat → Int32} : List.getD (tL_law L xs) 522 x_bad = x_ii (fun a b => a + b) := rfl
set_option maxRecDepth 20000 in
theorem kL_law_523 {L : Nat} {xs : Nat → Int32} : List.getD (tL_law L xs) 523 x_bad = x_sld L xs := rfl
set_option maxRecDepth 20000 in
theorem kL_law_524 {L : Nat} {xs : Nat → Int32} : List.getD (tL_law L xs) 524 x_bad = x_callV2 9 mX9_crosses := rfl
set_option maxRecDepth 20000 in
theorem kL_law_527 {L : Nat} {xs : Nat → Int32} : List.getD (tL_law L xs) 527 x_bad = x_aload 2 1 := rfl
set_option maxRecDepth 20000 in
theorem kL_law_528 {L : Nat} {xs : Nat → Int32} : List.getD (tL_law L xs) 528 x_bad = x_sload 0 1 := rfl
set_option maxRecDepth 20000 in
theorem kL_law_529 {L : Nat} {xs : Nat → Int32} : List.getD (tL_law L xs) 529 x_bad = x_iload 3 1 := rfl
set_option maxRecDepth 20000 in
theorem kL_law_530 {L : Nat} {xs : Nat → Int32} : List.getD (tL_law L xs) 530 x_bad = x_push (.int (nI 1)) 1 := rfl
set_option maxRecDepth 20000 in
theorem kL_law_531 {L : Nat} {xs : Nat → Int32} : List.getD (tL_law L xs) 531 x_bad = x_ii (fun a b => a + b) := rfl
set_option maxRecDepth 20000 in
theorem kL_law_532 {L : Nat} {xs : Nat → Int32} : List.getD (tL_law L xs) 532 x_bad = x_sld L xs := rfl
set_option maxRecDepth 20000 in
theorem kL_law_533 {L : Nat} {xs : Nat → Int32} : List.getD (tL_law L xs) 533 x_bad = x_sload 0 1 := rfl
set_option maxRecDepth 20000 in
theorem kL_law_534 {L : Nat} {xs : Nat → Int32} : List.getD (tL_law L xs) 534 x_bad = x_iload 3 1 := rfl
set_option maxRecDepth 20000 in
theorem kL_law_535 {L : Nat} {xs : Nat → Int32} : List.getD (tL_law L xs) 535 x_bad = x_push (.int (nI 2)) 1 := rfl
set_option maxRecDepth 20000 in
theorem kL_law_536 {L : Nat} {xs : Nat → Int32} : List.getD (tL_law L xs) 536 x_bad = x_ii (fun a b => a + b) := rfl
set_option maxRecDepth 20000 in
theorem kL_law_537 {L : Nat} {xs : Nat → Int32} : List.getD (tL_law L xs) 537 x_bad = x_sld L xs := rfl
set_option maxRecDepth 20000 in
theorem kL_law_538 {L : Nat} {xs : Nat → Int32} : List.getD (tL_law L xs) 538 x_bad = x_callV2 10 mX10_crosses := rfl
set_option maxRecDepth 20000 in
theorem kL_law_541 {L : Nat} {xs : Nat → Int32} : List.getD (tL_law L xs) 541 x_bad = x_icmp (fun a b => a = b) 954 := rfl
set_option maxRecDepth 20000 in
theorem kL_law_544 {L : Nat} {xs : Nat → Int32} : List.getD (tL_law L xs) 544 x_bad = x_push (.int (nI 0)) 1 := rfl
set_option maxRecDepth 20000 in
theorem kL_law_545 {L : Nat} {xs : Nat → Int32} : List.getD (tL_law L xs) 545 x_bad = x_zret := rfl
set_option maxRecDepth 20000 in
theorem kL_law_546 {L : Nat} {xs : Nat → Int32} : List.getD (tL_law L xs) 546 x_bad = x_aload 1 1 := rfl
set_option maxRecDepth 20000 in
theorem kL_law_547 {L : Nat} {xs : Nat → Int32} : List.getD (tL_law L xs) 547 x_bad = x_sload 0 1 := rfl
set_option maxRecDepth 20000 in
theorem kL_law_548 {L : Nat} {xs : Nat → Int32} : List.getD (tL_law L xs) 548 x_bad = x_iload 3 1 := rfl
set_option maxRecDepth 20000 in
theorem kL_law_549 {L : Nat} {xs : Nat → Int32} : List.getD (tL_law L xs) 549 x_bad = x_push (.int (nI 1)) 1 := rfl
set_option maxRecDepth 20000 in
theorem kL_law_550 {L : Nat} {xs : Nat → Int32} : List.getD (tL_law L xs) 550 x_bad = x_ii (fun a b => a + b) := rfl
set_option maxRecDepth 20000 in
theorem kL_law_551 {L : Nat} {xs : Nat → Int32} : List.getD (tL_law L xs) 551 x_bad = x_sld L xs := rfl
set_option maxRecDepth 20000 in
theorem kL_law_552 {L : Nat} {xs : Nat → Int32} : List.getD (tL_law L xs) 552 x_bad = x_callV1 9 mX9_regionAround := rfl
set_option maxRecDepth 20000 in
theorem kL_law_555 {L : Nat} {xs : Nat → Int32} : List.getD (tL_law L xs) 555 x_bad = x_aload 2 1 := rfl
set_option maxRecDepth 20000 in
theorem kL_law_556 {L : Nat} {xs : Nat → Int32} : List.getD (tL_law L xs) 556 x_bad = x_sload 0 1 := rfl
set_option maxRecDepth 20000 in
theorem kL_law_557 {L : Nat} {xs : Nat → Int32} : List.getD (tL_law L xs) 557 x_bad = x_iload 3 1 := rfl
set_option maxRecDepth 20000 in
theorem kL_law_558 {L : Nat} {xs : Nat → Int32} : List.getD (tL_law L xs) 558 x_bad = x_push (.int (nI 1)) 1 := rfl
set_option maxRecDepth 20000 in
theorem kL_law_559 {L : Nat} {xs : Nat → Int32} : List.getD (tL_law L xs) 559 x_bad = x_ii (fun a b => a + b) := rfl
set_option maxRecDepth 20000 in
theorem kL_law_560 {L : Nat} {xs : Nat → Int32} : List.getD (tL_law L xs) 560 x_bad = x_sld L xs := rfl
set_option maxRecDepth 20000 in
theorem kL_law_561 {L : Nat} {xs : Nat → Int32} : List.getD (tL_law L xs) 561 x_bad = x_callV1 10 mX10_regionAround := rfl
set_option maxRecDepth 20000 in
theorem kL_law_564 {L : Nat} {xs : Nat → Int32} : List.getD (tL_law L xs) 564 x_bad = x_icmp (fun a b => a = b) 954 := rfl
set_option maxRecDepth 20000 in
theorem kL_law_567 {L : Nat} {xs : Nat → Int32} : List.getD (tL_law L xs) 567 x_bad = x_push (.int (nI 0)) 1 := rfl
set_option maxRecDepth 20000 in
theorem kL_law_568 {L : Nat} {xs : Nat → Int32} : List.getD (tL_law L xs) 568 x_bad = x_zret := rfl
set_option maxRecDepth 20000 in
theorem kL_law_569 {L : Nat} {xs : Nat → Int32} : List.getD (tL_law L xs) 569 x_bad = x_aload 1 1 := rfl
set_option maxRecDepth 20000 in
theorem kL_law_570 {L : Nat} {xs : Nat → Int32} : List.getD (tL_law L xs) 570 x_bad = x_sload 0 1 := rfl
set_option maxRecDepth 20000 in
theorem kL_law_571 {L : Nat} {xs : Nat → Int32} : List.getD (tL_law L xs) 571 x_bad = x_iload 3 1 := rfl
set_option maxRecDepth 20000 in
theorem kL_law_572 {L : Nat} {xs : Nat → Int32} : List.getD (tL_law L xs) 572 x_bad = x_push (.int (nI 1)) 1 := rfl
set_option maxRecDepth 20000 in
theorem kL_law_573 {L : Nat} {xs : Nat → Int32} : List.getD (tL_law L xs) 573 x_bad = x_ii (fun a b => a + b) := rfl
set_option maxRecDepth 20000 in
theorem kL_law_574 {L : Nat} {xs : Nat → Int32} : List.getD (tL_law L xs) 574 x_bad = x_sld L xs := rfl
set_option maxRecDepth 20000 in
theorem kL_law_575 {L : Nat} {xs : Nat → Int32} : List.getD (tL_law L xs) 575 x_bad = x_sload 0 1 := rfl
set_option maxRecDepth 20000 in
theorem kL_law_576 {L : Nat} {xs : Nat → Int32} : List.getD (tL_law L xs) 576 x_bad = x_iload 3 1 := rfl
set_option maxRecDepth 20000 in
theorem kL_law_577 {L : Nat} {xs : Nat → Int32} : List.getD (tL_law L xs) 577 x_bad = x_push (.int (nI 2)) 1 := rfl
set_option maxRecDepth 20000 in
theorem kL_law_578 {L : Nat} {xs : Nat → Int32} : List.getD (tL_law L xs) 578 x_bad = x_ii (fun a b => a + b) := rfl
set_option maxRecDepth 20000 in
theorem kL_law_579 {L : Nat} {xs : Nat → Int32} : List.getD (tL_law L xs) 579 x_bad = x_sld L xs := rfl
set_option maxRecDepth 20000 in
theorem kL_law_580 {L : Nat} {xs : Nat → Int32} : List.getD (tL_law L xs) 580 x_bad = x_if (fun a => a = 0) 587 := rfl
set_option maxRecDepth 20000 in
theorem kL_law_583 {L : Nat} {xs : Nat → Int32} : List.getD (tL_law L xs) 583 x_bad = x_push (.int (nI 1)) 1 := rfl
set_option maxRecDepth 20000 in
theorem kL_law_584 {L : Nat} {xs : Nat → Int32} : List.getD (tL_law L xs) 584 x_bad = x_goto 588 := rfl
set_option maxRecDepth 20000 in
theorem kL_law_587 {L : Nat} {xs : Nat → Int32} : List.getD (tL_law L xs) 587 x_bad = x_push (.int (nI 0)) 1 := rfl
set_option maxRecDepth 20000 in
theorem kL_law_588 {L : Nat} {xs : Nat → Int32} : List.getD (tL_law L xs) 588 x_bad = x_callV2 9 mX9_separations := rfl
set_option maxRecDepth 20000 in
theorem kL_law_591 {L : Nat} {xs : Nat → Int32} : List.getD (tL_law L xs) 591 x_bad = x_aload 2 1 := rfl
set_option maxRecDepth 20000 in
theorem kL_law_592 {L : Nat} {xs : Nat → Int32} : List.getD (tL_law L xs) 592 x_bad = x_sload 0 1 := rfl
set_option maxRecDepth 20000 in
theorem kL_law_593 {L : Nat} {xs : Nat → Int32} : List.getD (tL_law L xs) 593 x_bad = x_iload 3 1 := rfl
set_option maxRecDepth 20000 in
theorem kL_law_594 {L : Nat} {xs : Nat → Int32} : List.getD (tL_law L xs) 594 x_bad = x_push (.int (nI 1)) 1 := rfl
set_option maxRecDepth 20000 in
theorem kL_law_595 {L : Nat} {xs : Nat → Int32} : List.getD (tL_law L xs) 595 x_bad = x_ii (fun a b => a + b) := rfl
set_option maxRecDepth 20000 in
theorem kL_law_596 {L : Nat} {xs : Nat → Int32} : List.getD (tL_law L xs) 596 x_bad = x_sld L xs := rfl
set_option maxRecDepth 20000 in
theorem kL_law_597 {L : Nat} {xs : Nat → Int32} : List.getD (tL_law L xs) 597 x_bad = x_sload 0 1 := rfl
set_option maxRecDepth 20000 in
theorem kL_law_598 {L : Nat} {xs : Nat → Int32} : List.getD (tL_law L xs) 598 x_bad = x_iload 3 1 := rfl
set_option maxRecDepth 20000 in
theorem kL_law_599 {L : Nat} {xs : Nat → Int32} : List.getD (tL_law L xs) 599 x_bad = x_push (.int (nI 2)) 1 := rfl
set_option maxRecDepth 20000 in
theorem kL_law_600 {L : Nat} {xs : Nat → Int32} : List.getD (tL_law L xs) 600 x_bad = x_ii (fun a b => a + b) := rfl
set_option maxRecDepth 20000 in
theorem kL_law_601 {L : Nat} {xs : Nat → Int32} : List.getD (tL_law L xs) 601 x_bad = x_sld L xs := rfl
set_option maxRecDepth 20000 in
theorem kL_law_602 {L : Nat} {xs : Nat → Int32} : List.getD (tL_law L xs) 602 x_bad = x_if (fun a => a = 0) 609 := rfl
set_option maxRecDepth 20000 in
theorem kL_law_605 {L : Nat} {xs : Nat → Int32} : List.getD (tL_law L xs) 605 x_bad = x_push (.int (nI 1)) 1 := rfl
set_option maxRecDepth 20000 in
theorem kL_law_606 {L : Nat} {xs : Nat → Int32} : List.getD (tL_law L xs) 606 x_bad = x_goto 610 := rfl
set_option maxRecDepth 20000 in
theorem kL_law_609 {L : Nat} {xs : Nat → Int32} : List.getD (tL_law L xs) 609 x_bad = x_push (.int (nI 0)) 1 := rfl
set_option maxRecDepth 20000 in
theorem kL_law_610 {L : Nat} {xs : Nat → Int32} : List.getD (tL_law L xs) 610 x_bad = x_callV2 10 mX10_separations := rfl
set_option maxRecDepth 20000 in
theorem kL_law_613 {L : Nat} {xs : Nat → Int32} : List.getD (tL_law L xs) 613 x_bad = x_icmp (fun a b => a = b) 954 := rfl
set_option maxRecDepth 20000 in
theorem kL_law_616 {L : Nat} {xs : Nat → Int32} : List.getD (tL_law L xs) 616 x_bad = x_push (.int (nI 0)) 1 := rfl
set_option maxRecDepth 20000 in
theorem kL_law_617 {L : Nat} {xs : Nat → Int32} : List.getD (tL_law L xs) 617 x_bad = x_zret := rfl
set_option maxRecDepth 20000 in
theorem kL_law_618 {L : Nat} {xs : Nat → Int32} : List.getD (tL_law L xs) 618 x_bad = x_aload 1 1 := rfl
set_option maxRecDepth 20000 in
theorem kL_law_619 {L : Nat} {xs : Nat → Int32} : List.getD (tL_law L xs) 619 x_bad = x_sload 0 1 := rfl
set_option maxRecDepth 20000 in
theorem kL_law_620 {L : Nat} {xs : Nat → Int32} : List.getD (tL_law L xs) 620 x_bad = x_iload 3 1 := rfl
set_option maxRecDepth 20000 in
theorem kL_law_621 {L : Nat} {xs : Nat → Int32} : List.getD (tL_law L xs) 621 x_bad = x_push (.int (nI 1)) 1 := rfl
set_option maxRecDepth 20000 in
theorem kL_law_622 {L : Nat} {xs : Nat → Int32} : List.getD (tL_law L xs) 622 x_bad = x_ii (fun a b => a + b) := rfl
set_option maxRecDepth 20000 in
theorem kL_law_623 {L : Nat} {xs : Nat → Int32} : List.getD (tL_law L xs) 623 x_bad = x_sld L xs := rfl
set_option maxRecDepth 20000 in
theorem kL_law_624 {L : Nat} {xs : Nat → Int32} : List.getD (tL_law L xs) 624 x_bad = x_sload 0 1 := rfl
set_option maxRecDepth 20000 in
theorem kL_law_625 {L : Nat} {xs : Nat → Int32} : List.getD (tL_law L xs) 625 x_bad = x_iload 3 1 := rfl
set_option maxRecDepth 20000 in
theorem kL_law_626 {L : Nat} {xs : Nat → Int32} : List.getD (tL_law L xs) 626 x_bad = x_push (.int (nI 2)) 1 := rfl
set_option maxRecDepth 20000 in
theorem kL_law_627 {L : Nat} {xs : Nat → Int32} : List.getD (tL_law L xs) 627 x_bad = x_ii (fun a b => a + b) := rfl
set_option maxRecDepth 20000 in
theorem kL_law_628 {L : Nat} {xs : Nat → Int32} : List.getD (tL_law L xs) 628 x_bad = x_sld L xs := rfl
set_option maxRecDepth 20000 in
theorem kL_law_629 {L : Nat} {xs : Nat → Int32} : List.getD (tL_law L xs) 629 x_bad = x_callV2 9 mX9_solver := rfl
set_option maxRecDepth 20000 in
theorem kL_law_632 {L : Nat} {xs : Nat → Int32} : List.getD (tL_law L xs) 632 x_bad = x_aload 2 1 := rfl
set_option maxRecDepth 20000 in
theorem kL_law_633 {L : Nat} {xs : Nat → Int32} : List.getD (tL_law L xs) 633 x_bad = x_sload 0 1 := rfl
set_option maxRecDepth 20000 in
theorem kL_law_634 {L : Nat} {xs : Nat → Int32} : List.getD (tL_law L xs) 634 x_bad = x_iload 3 1 := rfl
set_option maxRecDepth 20000 in
theorem kL_law_635 {L : Nat} {xs : Nat → Int32} : List.getD (tL_law L xs) 635 x_bad = x_push (.int (nI 1)) 1 := rfl
set_option maxRecDepth 20000 in
theorem kL_law_636 {L : Nat} {xs : Nat → Int32} : List.getD (tL_law L xs) 636 x_bad = x_ii (fun a b => a + b) := rfl
set_option maxRecDepth 20000 in
theorem kL_law_637 {L : Nat} {xs : Nat → Int32} : List.getD (tL_law L xs) 637 x_bad = x_sld L xs := rfl
set_option maxRecDepth 20000 in
theorem kL_law_638 {L : Nat} {xs : Nat → Int32} : List.getD (tL_law L xs) 638 x_bad = x_sload 0 1 := rfl
set_option maxRecDepth 20000 in
theorem kL_law_639 {L : Nat} {xs : Nat → Int32} : List.getD (tL_law L xs) 639 x_bad = x_iload 3 1 := rfl
set_option maxRecDepth 20000 in
theorem kL_law_640 {L : Nat} {xs : Nat → Int32} : List.getD (tL_law L xs) 640 x_bad = x_push (.int (nI 2)) 1 := rfl
set_option maxRecDepth 20000 in
theorem kL_law_641 {L : Nat} {xs : Nat → Int32} : List.getD (tL_law L xs) 641 x_bad = x_ii (fun a b => a + b) := rfl
set_option maxRecDepth 20000 in
theorem kL_law_642 {L : Nat} {xs : Nat → Int32} : List.getD (tL_law L xs) 642 x_bad = x_sld L xs := rfl
set_option maxRecDepth 20000 in
theorem kL_law_643 {L : Nat} {xs : Nat → Int32} : List.getD (tL_law L xs) 643 x_bad = x_callV2 10 mX10_solver := rfl
set_option maxRecDepth 20000 in
theorem kL_law_646 {L : Nat} {xs : Nat → Int32} : List.getD (tL_law L xs) 646 x_bad = x_icmp (fun a b => a = b) 954 := rfl
set_option maxRecDepth 20000 in
theorem kL_law_649 {L : Nat} {xs : Nat → Int32} : List.getD (tL_law L xs) 649 x_bad = x_push (.int (nI 0)) 1 := rfl
set_option maxRecDepth 20000 in
theorem kL_law_650 {L : Nat} {xs : Nat → Int32} : List.getD (tL_law L xs) 650 x_bad = x_zret := rfl
set_option maxRecDepth 20000 in
theorem kL_law_651 {L : Nat} {xs : Nat → Int32} : List.getD (tL_law L xs) 651 x_bad = x_aload 1 1 := rfl
set_option maxRecDepth 20000 in
theorem kL_law_652 {L : Nat} {xs : Nat → Int32} : List.getD (tL_law L xs) 652 x_bad = x_sload 0 1 := rfl
set_option maxRecDepth 20000 in
theorem kL_law_653 {L : Nat} {xs : Nat → Int32} : List.getD (tL_law L xs) 653 x_bad = x_iload 3 1 := rfl
set_option maxRecDepth 20000 in
theorem kL_law_654 {L : Nat} {xs : Nat → Int32} : List.getD (tL_law L xs) 654 x_bad = x_push (.int (nI 1)) 1 := rfl
set_option maxRecDepth 20000 in
theorem kL_law_655 {L : Nat} {xs : Nat → Int32} : List.getD (tL_law L xs) 655 x_bad = x_ii (fun a b => a + b) := rfl
set_option maxRecDepth 20000 in
theorem kL_law_656 {L : Nat} {xs : Nat → Int32} : List.getD (tL_law L xs) 656 x_bad = x_sld L xs := rfl
set_option maxRecDepth 20000 in
theorem kL_law_657 {L : Nat} {xs : Nat → Int32} : List.getD (tL_law L xs) 657 x_bad = x_sload 0 1 := rfl
set_option maxRecDepth 20000 in
theorem kL_law_658 {L : Nat} {xs : Nat → Int32} : List.getD (tL_law L xs) 658 x_bad = x_iload 3 1 := rfl
set_option maxRecDepth 20000 in
theorem kL_law_659 {L : Nat} {xs : Nat → Int32} : List.getD (tL_law L xs) 659 x_bad = x_push (.int (nI 2)) 1 := rfl
set_option maxRecDepth 20000 in
theorem kL_law_660 {L : Nat} {xs : Nat → Int32} : List.getD (tL_law L xs) 660 x_bad = x_ii (fun a b => a + b) := rfl
set_option maxRecDepth 20000 in
theorem kL_law_661 {L : Nat} {xs : Nat → Int32} : List.getD (tL_law L xs) 661 x_bad = x_sld L xs := rfl
set_option maxRecDepth 20000 in
theorem kL_law_662 {L : Nat} {xs : Nat → Int32} : List.getD (tL_law L xs) 662 x_bad = x_callV2 9 mX9_preventer := rfl
set_option maxRecDepth 20000 in
theorem kL_law_665 {L : Nat} {xs : Nat → Int32} : List.getD (tL_law L xs) 665 x_bad = x_aload 2 1 := rfl
set_option maxRecDepth 20000 in
theorem kL_law_666 {L : Nat} {xs : Nat → Int32} : List.getD (tL_law L xs) 666 x_bad = x_sload 0 1 := rfl
set_option maxRecDepth 20000 in
theorem kL_law_667 {L : Nat} {xs : Nat → Int32} : List.getD (tL_law L xs) 667 x_bad = x_iload 3 1 := rfl
set_option maxRecDepth 20000 in
theorem kL_law_668 {L : Nat} {xs : Nat → Int32} : List.getD (tL_law L xs) 668 x_bad = x_push (.int (nI 1)) 1 := rfl
set_option maxRecDepth 20000 in
theorem kL_law_669 {L : Nat} {xs : Nat → Int32} : List.getD (tL_law L xs) 669 x_bad = x_ii (fun a b => a + b) := rfl
set_option maxRecDepth 20000 in
theorem kL_law_670 {L : Nat} {xs : Nat → Int32} : List.getD (tL_law L xs) 670 x_bad = x_sld L xs := rfl
set_option maxRecDepth 20000 in
theorem kL_law_671 {L : Nat} {xs : Nat → Int32} : List.getD (tL_law L xs) 671 x_bad = x_sload 0 1 := rfl
set_option maxRecDepth 20000 in
theorem kL_law_672 {L : Nat} {xs : Nat → Int32} : List.getD (tL_law L xs) 672 x_bad = x_iload 3 1 := rfl
set_option maxRecDepth 20000 in
theorem kL_law_673 {L : Nat} {xs : Nat → Int32} : List.getD (tL_law L xs) 673 x_bad = x_push (.int (nI 2)) 1 := rfl
set_option maxRecDepth 20000 in
theorem kL_law_674 {L : Nat} {xs : Nat → Int32} : List.getD (tL_law L xs) 674 x_bad = x_ii (fun a b => a + b) := rfl
set_option maxRecDepth 20000 in
theorem kL_law_675 {L : Nat} {xs : Nat → Int32} : List.getD (tL_law L xs) 675 x_bad = x_sld L xs := rfl
set_option maxRecDepth 20000 in
theorem kL_law_676 {L : Nat} {xs : Nat → Int32} : List.getD (tL_law L xs) 676 x_bad = x_callV2 10 mX10_preventer := rfl
set_option maxRecDepth 20000 in
theorem kL_law_679 {L : Nat} {xs : Nat → Int32} : List.getD (tL_law L xs) 679 x_bad = x_icmp (fun a b => a = b) 954 := rfl
set_option maxRecDepth 20000 in
theorem kL_law_682 {L : Nat} {xs : Nat → Int32} : List.getD (tL_law L xs) 682 x_bad = x_push (.int (nI 0)) 1 := rfl
set_option maxRecDepth 20000 in
theorem kL_law_683 {L : Nat} {xs : Nat → Int32} : List.getD (tL_law L xs) 683 x_bad = x_zret := rfl
set_option maxRecDepth 20000 in
theorem kL_law_684 {L : Nat} {xs : Nat → Int32} : List.getD (tL_law L xs) 684 x_bad = x_aload 1 1 := rfl
set_option maxRecDepth 20000 in
theorem kL_law_685 {L : Nat} {xs : Nat → Int32} : List.getD (tL_law L xs) 685 x_bad = x_sload 0 1 := rfl
set_option maxRecDepth 20000 in
theorem kL_law_686 {L : Nat} {xs : Nat → Int32} : List.getD (tL_law L xs) 686 x_bad = x_iload 3 1 := rfl
set_option maxRecDepth 20000 in
theorem kL_law_687 {L : Nat} {xs : Nat → Int32} : List.getD (tL_law L xs) 687 x_bad = x_push (.int (nI 1)) 1 := rfl
set_option maxRecDepth 20000 in
theorem kL_law_688 {L : Nat} {xs : Nat → Int32} : List.getD (tL_law L xs) 688 x_bad = x_ii (fun a b => a + b) := rfl
set_option maxRecDepth 20000 in
theorem kL_law_689 {L : Nat} {xs : Nat → Int32} : List.getD (tL_law L xs) 689 x_bad = x_sld L xs := rfl
set_option maxRecDepth 20000 in
theorem kL_law_690 {L : Nat} {xs : Nat → Int32} : List.getD (tL_law L xs) 690 x_bad = x_callV1 9 mX9_unsolved := rfl
set_option maxRecDepth 20000 in
theorem kL_law_693 {L : Nat} {xs : Nat → Int32} : List.getD (tL_law L xs) 693 x_bad = x_aload 2 1 := rfl
set_option maxRecDepth 20000 in
theorem kL_law_694 {L : Nat} {xs : Nat → Int32} : List.getD (tL_law L xs) 694 x_bad = x_sload 0 1 := rfl
set_option maxRecDepth 20000 in
theorem kL_law_695 {L : Nat} {xs : Nat → Int32} : List.getD (tL_law L xs) 695 x_bad = x_iload 3 1 := rfl
set_option maxRecDepth 20000 in
theorem kL_law_696 {L : Nat} {xs : Nat → Int32} : List.getD (tL_law L xs) 696 x_bad = x_push (.int (nI 1)) 1 := rfl
set_option maxRecDepth 20000 in
theorem kL_law_697 {L : Nat} {xs : Nat → Int32} : List.getD (tL_law L xs) 697 x_bad = x_ii (fun a b => a + b) := rfl
set_option maxRecDepth 20000 in
theorem kL_law_698 {L : Nat} {xs : Nat → Int32} : List.getD (tL_law L xs) 698 x_bad = x_sld L xs := rfl
set_option maxRecDepth 20000 in
theorem kL_law_699 {L : Nat} {xs : Nat → Int32} : List.getD (tL_law L xs) 699 x_bad = x_callV1 10 mX10_unsolved := rfl
set_option maxRecDepth 20000 in
theorem kL_law_702 {L : Nat} {xs : Nat → Int32} : List.getD (tL_law L xs) 702 x_bad = x_icmp (fun a b => a = b) 954 := rfl
set_option maxRecDepth 20000 in
theorem kL_law_705 {L : Nat} {xs : Nat → Int32} : List.getD (tL_law L xs) 705 x_bad = x_push (.int (nI 0)) 1 := rfl
set_option maxRecDepth 20000 in
theorem kL_law_706 {L : Nat} {xs : Nat → Int32} : List.getD (tL_law L xs) 706 x_bad = x_zret := rfl
set_option maxRecDepth 20000 in
theorem kL_law_707 {L : Nat} {xs : Nat → Int32} : List.getD (tL_law L xs) 707 x_bad = x_aload 1 1 := rfl
set_option maxRecDepth 20000 in
theorem kL_law_708 {L : Nat} {xs : Nat → Int32} : List.getD (tL_law L xs) 708 x_bad = x_callV0 9 mX9_places := rfl
set_option maxRecDepth 20000 in
theorem kL_law_711 {L : Nat} {xs : Nat → Int32} : List.getD (tL_law L xs) 711 x_bad = x_aload 2 1 := rfl
set_option maxRecDepth 20000 in
theorem kL_law_712 {L : Nat} {xs : Nat → Int32} : List.getD (tL_law L xs) 712 x_bad = x_callV0 10 mX10_places := rfl
set_option maxRecDepth 20000 in
theorem kL_law_715 {L : Nat} {xs : Nat → Int32} : List.getD (tL_law L xs) 715 x_bad = x_icmp (fun a b => a = b) 954 := rfl
set_option maxRecDepth 20000 in
theorem kL_law_718 {L : Nat} {xs : Nat → Int32} : List.getD (tL_law L xs) 718 x_bad = x_push (.int (nI 0)) 1 := rfl
set_option maxRecDepth 20000 in
theorem kL_law_719 {L : Nat} {xs : Nat → Int32} : List.getD (tL_law L xs) 719 x_bad = x_zret := rfl
set_option maxRecDepth 20000 in
theorem kL_law_720 {L : Nat} {xs : Nat → Int32} : List.getD (tL_law L xs) 720 x_bad = x_aload 1 1 := rfl
set_option maxRecDepth 20000 in
theorem kL_law_721 {L : Nat} {xs : Nat → Int32} : List.getD (tL_law L xs) 721 x_bad = x_sload 0 1 := rfl
set_option maxRecDepth 20000 in
theorem kL_law_722 {L : Nat} {xs : Nat → Int32} : List.getD (tL_law L xs) 722 x_bad = x_iload 3 1 := rfl
set_option maxRecDepth 20000 in
theorem kL_law_723 {L : Nat} {xs : Nat → Int32} : List.getD (tL_law L xs) 723 x_bad = x_push (.int (nI 1)) 1 := rfl
set_option maxRecDepth 20000 in
theorem kL_law_724 {L : Nat} {xs : Nat → Int32} : List.getD (tL_law L xs) 724 x_bad = x_ii (fun a b => a + b) := rfl
set_option maxRecDepth 20000 in
theorem kL_law_725 {L : Nat} {xs : Nat → Int32} : List.getD (tL_law L xs) 725 x_bad = x_sld L xs := rfl
set_option maxRecDepth 20000 in
theorem kL_law_726 {L : Nat} {xs : Nat → Int32} : List.getD (tL_law L xs) 726 x_bad = x_sload 0 1 := rfl
set_option maxRecDepth 20000 in
theorem kL_law_727 {L : Nat} {xs : Nat → Int32} : List.getD (tL_law L xs) 727 x_bad = x_iload 3 1 := rfl
set_option maxRecDepth 20000 in
theorem kL_law_728 {L : Nat} {xs : Nat → Int32} : List.getD (tL_law L xs) 728 x_bad = x_push (.int (nI 2)) 1 := rfl
set_option maxRecDepth 20000 in
theorem kL_law_729 {L : Nat} {xs : Nat → Int32} : List.getD (tL_law L xs) 729 x_bad = x_ii (fun a b => a + b) := rfl
set_option maxRecDepth 20000 in
theorem kL_law_730 {L : Nat} {xs : Nat → Int32} : List.getD (tL_law L xs) 730 x_bad = x_sld L xs := rfl
set_option maxRecDepth 20000 in
theorem kL_law_731 {L : Nat} {xs : Nat → Int32} : List.getD (tL_law L xs) 731 x_bad = x_callV2 9 mX9_place := rfl
set_option maxRecDepth 20000 in
theorem kL_law_734 {L : Nat} {xs : Nat → Int32} : List.getD (tL_law L xs) 734 x_bad = x_aload 2 1 := rfl
set_option maxRecDepth 20000 in
theorem kL_law_735 {L : Nat} {xs : Nat → Int32} : List.getD (tL_law L xs) 735 x_bad = x_sload 0 1 := rfl
set_option maxRecDepth 20000 in
theorem kL_law_736 {L : Nat} {xs : Nat → Int32} : List.getD (tL_law L xs) 736 x_bad = x_iload 3 1 := rfl
set_option maxRecDepth 20000 in
theorem kL_law_737 {L : Nat} {xs : Nat → Int32} : List.getD (tL_law L xs) 737 x_bad = x_push (.int (nI 1)) 1 := rfl
set_option maxRecDepth 20000 in
theorem kL_law_738 {L : Nat} {xs : Nat → Int32} : List.getD (tL_law L xs) 738 x_bad = x_ii (fun a b => a + b) := rfl
set_option maxRecDepth 20000 in
theorem kL_law_739 {L : Nat} {xs : Nat → Int32} : List.getD (tL_law L xs) 739 x_bad = x_sld L xs := rfl
set_option maxRecDepth 20000 in
theorem kL_law_740 {L : Nat} {xs : Nat → Int32} : List.getD (tL_law L xs) 740 x_bad = x_sload 0 1 := rfl
set_option maxRecDepth 20000 in
theorem kL_law_741 {L : Nat} {xs : Nat → Int32} : List.getD (tL_law L xs) 741 x_bad = x_iload 3 1 := rfl
set_option maxRecDepth 20000 in
theorem kL_law_742 {L : Nat} {xs : Nat → Int32} : List.getD (tL_law L xs) 742 x_bad = x_push (.int (nI 2)) 1 := rfl
set_option maxRecDepth 20000 in
theorem kL_law_743 {L : Nat} {xs : Nat → Int32} : List.getD (tL_law L xs) 743 x_bad = x_ii (fun a b => a + b) := rfl
set_option maxRecDepth 20000 in
theorem kL_law_744 {L : Nat} {xs : Nat → Int32} : List.getD (tL_law L xs) 744 x_bad = x_sld L xs := rfl
set_option maxRecDepth 20000 in
theorem kL_law_745 {L : Nat} {xs : Nat → Int32} : List.getD (tL_law L xs) 745 x_bad = x_callV2 10 mX10_place := rfl
set_option maxRecDepth 20000 in
theorem kL_law_748 {L : Nat} {xs : Nat → Int32} : List.getD (tL_law L xs) 748 x_bad = x_icmp (fun a b => a = b) 954 := rfl
set_option maxRecDepth 20000 in
theorem kL_law_751 {L : Nat} {xs : Nat → Int32} : List.getD (tL_law L xs) 751 x_bad = x_push (.int (nI 0)) 1 := rfl
set_option maxRecDepth 20000 in
theorem kL_law_752 {L : Nat} {xs : Nat → Int32} : List.getD (tL_law L xs) 752 x_bad = x_zret := rfl
set_option maxRecDepth 20000 in
theorem kL_law_753 {L : Nat} {xs : Nat → Int32} : List.getD (tL_law L xs) 753 x_bad = x_aload 1 1 := rfl
set_option maxRecDepth 20000 in
theorem kL_law_754 {L : Nat} {xs : Nat → Int32} : List.getD (tL_law L xs) 754 x_bad = x_sload 0 1 := rfl
set_option maxRecDepth 20000 in
theorem kL_law_755 {L : Nat} {xs : Nat → Int32} : List.getD (tL_law L xs) 755 x_bad = x_iload 3 1 := rfl
set_option maxRecDepth 20000 in
theorem kL_law_756 {L : Nat} {xs : Nat → Int32} : List.getD (tL_law L xs) 756 x_bad = x_push (.int (nI 1)) 1 := rfl
set_option maxRecDepth 20000 in
theorem kL_law_757 {L : Nat} {xs : Nat → Int32} : List.getD (tL_law L xs) 757 x_bad = x_ii (fun a b => a + b) := rfl
set_option maxRecDepth 20000 in
theorem kL_law_758 {L : Nat} {xs : Nat → Int32} : List.getD (tL_law L xs) 758 x_bad = x_sld L xs := rfl
set_option maxRecDepth 20000 in
theorem kL_law_759 {L : Nat} {xs : Nat → Int32} : List.getD (tL_law L xs) 759 x_bad = x_callV1 9 mX9_netGraph := rfl
set_option maxRecDepth 20000 in
theorem kL_law_762 {L : Nat} {xs : Nat → Int32} : List.getD (tL_law L xs) 762 x_bad = x_aload 2 1 := rfl
set_option maxRecDepth 20000 in
theorem kL_law_763 {L : Nat} {xs : Nat → Int32} : List.getD (tL_law L xs) 763 x_bad = x_sload 0 1 := rfl
set_option maxRecDepth 20000 in
theorem kL_law_764 {L : Nat} {xs : Nat → Int32} : List.getD (tL_law L xs) 764 x_bad = x_iload 3 1 := rfl
set_option maxRecDepth 20000 in
theorem kL_law_765 {L : Nat} {xs : Nat → Int32} : List.getD (tL_law L xs) 765 x_bad = x_push (.int (nI 1)) 1 := rfl
set_option maxRecDepth 20000 in
theorem kL_law_766 {L : Nat} {xs : Nat → Int32} : List.getD (tL_law L xs) 766 x_bad = x_ii (fun a b => a + b) := rfl
set_option maxRecDepth 20000 in
theorem kL_law_767 {L : Nat} {xs : Nat → Int32} : List.getD (tL_law L xs) 767 x_bad = x_sld L xs := rfl
set_option maxRecDepth 20000 in
theorem kL_law_768 {L : Nat} {xs : Nat → Int32} : List.getD (tL_law L xs) 768 x_bad = x_callV1 10 mX10_netGraph := rfl
set_option maxRecDepth 20000 in
theorem kL_law_771 {L : Nat} {xs : Nat → Int32} : List.getD (tL_law L xs) 771 x_bad = x_icmp (fun a b => a = b) 954 := rfl
set_option maxRecDepth 20000 in
theorem kL_law_774 {L : Nat} {xs : Nat → Int32} : List.getD (tL_law L xs) 774 x_bad = x_push (.int (nI 0)) 1 := rfl
set_option maxRecDepth 20000 in
theorem kL_law_775 {L : Nat} {xs : Nat → Int32} : List.getD (tL_law L xs) 775 x_bad = x_zret := rfl
set_option maxRecDepth 20000 in
theorem kL_law_776 {L : Nat} {xs : Nat → Int32} : List.getD (tL_law L xs) 776 x_bad = x_aload 1 1 := rfl
set_option maxRecDepth 20000 in
theorem kL_law_777 {L : Nat} {xs : Nat → Int32} : List.getD (tL_law L xs) 777 x_bad = x_callV0 9 mX9_fits := rfl
set_option maxRecDepth 20000 in
theorem kL_law_780 {L : Nat} {xs : Nat → Int32} : List.getD (tL_law L xs) 780 x_bad = x_aload 2 1 := rfl
set_option maxRecDepth 20000 in
theorem kL_law_781 {L : Nat} {xs : Nat → Int32} : List.getD (tL_law L xs) 781 x_bad = x_callV0 10 mX10_fits := rfl
set_option maxRecDepth 20000 in
theorem kL_law_784 {L : Nat} {xs : Nat → Int32} : List.getD (tL_law L xs) 784 x_bad = x_icmp (fun a b => a = b) 954 := rfl
set_option maxRecDepth 20000 in
theorem kL_law_787 {L : Nat} {xs : Nat → Int32} : List.getD (tL_law L xs) 787 x_bad = x_push (.int (nI 0)) 1 := rfl
set_option maxRecDepth 20000 in
theorem kL_law_788 {L : Nat} {xs : Nat → Int32} : List.getD (tL_law L xs) 788 x_bad = x_zret := rfl
set_option maxRecDepth 20000 in
theorem kL_law_789 {L : Nat} {xs : Nat → Int32} : List.getD (tL_law L xs) 789 x_bad = x_aload 1 1 := rfl
set_option maxRecDepth 20000 in
theorem kL_law_790 {L : Nat} {xs : Nat → Int32} : List.getD (tL_law L xs) 790 x_bad = x_callV0 9 mX9_enabled := rfl
set_option maxRecDepth 20000 in
theorem kL_law_793 {L : Nat} {xs : Nat → Int32} : List.getD (tL_law L xs) 793 x_bad = x_aload 2 1 := rfl
set_option maxRecDepth 20000 in
theorem kL_law_794 {L : Nat} {xs : Nat → Int32} : List.getD (tL_law L xs) 794 x_bad = x_callV0 10 mX10_enabled := rfl
set_option maxRecDepth 20000 in
theorem kL_law_797 {L : Nat} {xs : Nat → Int32} : List.getD (tL_law L xs) 797 x_bad = x_icmp (fun a b => a = b) 954 := rfl
set_option maxRecDepth 20000 in
theorem kL_law_800 {L : Nat} {xs : Nat → Int32} : List.getD (tL_law L xs) 800 x_bad = x_push (.int (nI 0)) 1 := rfl
set_option maxRecDepth 20000 in
theorem kL_law_801 {L : Nat} {xs : Nat → Int32} : List.getD (tL_law L xs) 801 x_bad = x_zret := rfl
set_option maxRecDepth 20000 in
theorem kL_law_802 {L : Nat} {xs : Nat → Int32} : List.getD (tL_law L xs) 802 x_bad = x_aload 1 1 := rfl
set_option maxRecDepth 20000 in
theorem kL_law_803 {L : Nat} {xs : Nat → Int32} : List.getD (tL_law L xs) 803 x_bad = x_sload 0 1 := rfl
set_option maxRecDepth 20000 in
theorem kL_law_804 {L : Nat} {xs : Nat → Int32} : List.getD (tL_law L xs) 804 x_bad = x_iload 3 1 := rfl
set_option maxRecDepth 20000 in
theorem kL_law_805 {L : Nat} {xs : Nat → Int32} : List.getD (tL_law L xs) 805 x_bad = x_push (.int (nI 1)) 1 := rfl
set_option maxRecDepth 20000 in
theorem kL_law_806 {L : Nat} {xs : Nat → Int32} : List.getD (tL_law L xs) 806 x_bad = x_ii (fun a b => a + b) := rfl
set_option maxRecDepth 20000 in
theorem kL_law_807 {L : Nat} {xs : Nat → Int32} : List.getD (tL_law L xs) 807 x_bad = x_sld L xs := rfl
set_option maxRecDepth 20000 in
theorem kL_law_808 {L : Nat} {xs : Nat → Int32} : List.getD (tL_law L xs) 808 x_bad = x_callV1 9 mX9_fire := rfl
set_option maxRecDepth 20000 in
theorem kL_law_811 {L : Nat} {xs : Nat → Int32} : List.getD (tL_law L xs) 811 x_bad = x_aload 2 1 := rfl
set_option maxRecDepth 20000 in
theorem kL_law_812 {L : Nat} {xs : Nat → Int32} : List.getD (tL_law L xs) 812 x_bad = x_sload 0 1 := rfl
set_option maxRecDepth 20000 in
theorem kL_law_813 {L : Nat} {xs : Nat → Int32} : List.getD (tL_law L xs) 813 x_bad = x_iload 3 1 := rfl
set_option maxRecDepth 20000 in
theorem kL_law_814 {L : Nat} {xs : Nat → Int32} : List.getD (tL_law L xs) 814 x_bad = x_push (.int (nI 1)) 1 := rfl
set_option maxRecDepth 20000 in
theorem kL_law_815 {L : Nat} {xs : Nat → Int32} : List.getD (tL_law L xs) 815 x_bad = x_ii (fun a b => a + b) := rfl
set_option maxRecDepth 20000 in
theorem kL_law_816 {L : Nat} {xs : Nat → Int32} : List.getD (tL_law L xs) 816 x_bad = x_sld L xs := rfl
set_option maxRecDepth 20000 in
theorem kL_law_817 {L : Nat} {xs : Nat → Int32} : List.getD (tL_law L xs) 817 x_bad = x_callV1 10 mX10_fire := rfl
set_option maxRecDepth 20000 in
theorem kL_law_820 {L : Nat} {xs : Nat → Int32} : List.getD (tL_law L xs) 820 x_bad = x_icmp (fun a b => a = b) 954 := rfl
set_option maxRecDepth 20000 in
theorem kL_law_823 {L : Nat} {xs : Nat → Int32} : List.getD (tL_law L xs) 823 x_bad = x_push (.int (nI 0)) 1 := rfl
set_option maxRecDepth 20000 in
theorem kL_law_824 {L : Nat} {xs : Nat → Int32} : List.getD (tL_law L xs) 824 x_bad = x_zret := rfl
set_option maxRecDepth 20000 in
theorem kL_law_825 {L : Nat} {xs : Nat → Int32} : List.getD (tL_law L xs) 825 x_bad = x_aload 1 1 := rfl
set_option maxRecDepth 20000 in
theorem kL_law_826 {L : Nat} {xs : Nat → Int32} : List.getD (tL_law L xs) 826 x_bad = x_callV0 9 mX9_restart := rfl
set_option maxRecDepth 20000 in
theorem kL_law_829 {L : Nat} {xs : Nat → Int32} : List.getD (tL_law L xs) 829 x_bad = x_aload 2 1 := rfl
set_option maxRecDepth 20000 in
theorem kL_law_830 {L : Nat} {xs : Nat → Int32} : List.getD (tL_law L xs) 830 x_bad = x_callV0 10 mX10_restart := rfl
set_option maxRecDepth 20000 in
theorem kL_law_833 {L : Nat} {xs : Nat → Int32} : List.getD (tL_law L xs) 833 x_bad = x_icmp (fun a b => a = b) 954 := rfl
set_option maxRecDepth 20000 in
theorem kL_law_836 {L : Nat} {xs : Nat → Int32} : List.getD (tL_law L xs) 836 x_bad = x_push (.int (nI 0)) 1 := rfl
set_option maxRecDepth 20000 in
theorem kL_law_837 {L : Nat} {xs : Nat → Int32} : List.getD (tL_law L xs) 837 x_bad = x_zret := rfl
set_option maxRecDepth 20000 in
theorem kL_law_838 {L : Nat} {xs : Nat → Int32} : List.getD (tL_law L xs) 838 x_bad = x_aload 1 1 := rfl
set_option maxRecDepth 20000 in
theorem kL_law_839 {L : Nat} {xs : Nat → Int32} : List.getD (tL_law L xs) 839 x_bad = x_sload 0 1 := rfl
set_option maxRecDepth 20000 in
theorem kL_law_840 {L : Nat} {xs : Nat → Int32} : List.getD (tL_law L xs) 840 x_bad = x_iload 3 1 := rfl
set_option maxRecDepth 20000 in
theorem kL_law_841 {L : Nat} {xs : Nat → Int32} : List.getD (tL_law L xs) 841 x_bad = x_push (.int (nI 1)) 1 := rfl
set_option maxRecDepth 20000 in
theorem kL_law_842 {L : Nat} {xs : Nat → Int32} : List.getD (tL_law L xs) 842 x_bad = x_ii (fun a b => a + b) := rfl
set_option maxRecDepth 20000 in
theorem kL_law_843 {L : Nat} {xs : Nat → Int32} : List.getD (tL_law L xs) 843 x_bad = x_sld L xs := rfl
set_option maxRecDepth 20000 in
theorem kL_law_844 {L : Nat} {xs : Nat → Int32} : List.getD (tL_law L xs) 844 x_bad = x_sload 0 1 := rfl
set_option maxRecDepth 20000 in
theorem kL_law_845 {L : Nat} {xs : Nat → Int32} : List.getD (tL_law L xs) 845 x_bad = x_iload 3 1 := rfl
set_option maxRecDepth 20000 in
theorem kL_law_846 {L : Nat} {xs : Nat → Int32} : List.getD (tL_law L xs) 846 x_bad = x_push (.int (nI 2)) 1 := rfl
set_option maxRecDepth 20000 in
theorem kL_law_847 {L : Nat} {xs : Nat → Int32} : List.getD (tL_law L xs) 847 x_bad = x_ii (fun a b => a + b) := rfl
set_option maxRecDepth 20000 in
theorem kL_law_848 {L : Nat} {xs : Nat → Int32} : List.getD (tL_law L xs) 848 x_bad = x_sld L xs := rfl
set_option maxRecDepth 20000 in
theorem kL_law_849 {L : Nat} {xs : Nat → Int32} : List.getD (tL_law L xs) 849 x_bad = x_sload 0 1 := rfl
set_option maxRecDepth 20000 in
theorem kL_law_850 {L : Nat} {xs : Nat → Int32} : List.getD (tL_law L xs) 850 x_bad = x_iload 3 1 := rfl
set_option maxRecDepth 20000 in
theorem kL_law_851 {L : Nat} {xs : Nat → Int32} : List.getD (tL_law L xs) 851 x_bad = x_push (.int (nI 3)) 1 := rfl
set_option maxRecDepth 20000 in
theorem kL_law_852 {L : Nat} {xs : Nat → Int32} : List.getD (tL_law L xs) 852 x_bad = x_ii (fun a b => a + b) := rfl
set_option maxRecDepth 20000 in
theorem kL_law_853 {L : Nat} {xs : Nat → Int32} : List.getD (tL_law L xs) 853 x_bad = x_sld L xs := rfl
set_option maxRecDepth 20000 in
theorem kL_law_854 {L : Nat} {xs : Nat → Int32} : List.getD (tL_law L xs) 854 x_bad = x_callV3 9 mX9_ifArc := rfl
set_option maxRecDepth 20000 in
theorem kL_law_857 {L : Nat} {xs : Nat → Int32} : List.getD (tL_law L xs) 857 x_bad = x_aload 2 1 := rfl
set_option maxRecDepth 20000 in
theorem kL_law_858 {L : Nat} {xs : Nat → Int32} : List.getD (tL_law L xs) 858 x_bad = x_sload 0 1 := rfl
set_option maxRecDepth 20000 in
theorem kL_law_859 {L : Nat} {xs : Nat → Int32} : List.getD (tL_law L xs) 859 x_bad = x_iload 3 1 := rfl
set_option maxRecDepth 20000 in
theorem kL_law_860 {L : Nat} {xs : Nat → Int32} : List.getD (tL_law L xs) 860 x_bad = x_push (.int (nI 1)) 1 := rfl
set_option maxRecDepth 20000 in
theorem kL_law_861 {L : Nat} {xs : Nat → Int32} : List.getD (tL_law L xs) 861 x_bad = x_ii (fun a b => a + b) := rfl
set_option maxRecDepth 20000 in
theorem kL_law_862 {L : Nat} {xs : Nat → Int32} : List.getD (tL_law L xs) 862 x_bad = x_sld L xs := rfl
set_option maxRecDepth 20000 in
theorem kL_law_863 {L : Nat} {xs : Nat → Int32} : List.getD (tL_law L xs) 863 x_bad = x_sload 0 1 := rfl
set_option maxRecDepth 20000 in
theorem kL_law_864 {L : Nat} {xs : Nat → Int32} : List.getD (tL_law L xs) 864 x_bad = x_iload 3 1 := rfl
set_option maxRecDepth 20000 in
theorem kL_law_865 {L : Nat} {xs : Nat → Int32} : List.getD (tL_law L xs) 865 x_bad = x_push (.int (nI 2)) 1 := rfl
set_option maxRecDepth 20000 in
theorem kL_law_866 {L : Nat} {xs : Nat → Int32} : List.getD (tL_law L xs) 866 x_bad = x_ii (fun a b => a + b) := rfl
set_option maxRecDepth 20000 in
theorem kL_law_867 {L : Nat} {xs : Nat → Int32} : List.getD (tL_law L xs) 867 x_bad = x_sld L xs := rfl
set_option maxRecDepth 20000 in
theorem kL_law_868 {L : Nat} {xs : Nat → Int32} : List.getD (tL_law L xs) 868 x_bad = x_sload 0 1 := rfl
set_option maxRecDepth 20000 in
theorem kL_law_869 {L : Nat} {xs : Nat → Int32} : List.getD (tL_law L xs) 869 x_bad = x_iload 3 1 := rfl
set_option maxRecDepth 20000 in
theorem kL_law_870 {L : Nat} {xs : Nat → Int32} : List.getD (tL_law L xs) 870 x_bad = x_push (.int (nI 3)) 1 := rfl
set_option maxRecDepth 20000 in
theorem kL_law_871 {L : Nat} {xs : Nat → Int32} : List.getD (tL_law L xs) 871 x_bad = x_ii (fun a b => a + b) := rfl
set_option maxRecDepth 20000 in
theorem kL_law_872 {L : Nat} {xs : Nat → Int32} : List.getD (tL_law L xs) 872 x_bad = x_sld L xs := rfl
set_option maxRecDepth 20000 in
theorem kL_law_873 {L : Nat} {xs : Nat → Int32} : List.getD (tL_law L xs) 873 x_bad = x_callV3 10 mX10_ifArc := rfl
set_option maxRecDepth 20000 in
theorem kL_law_876 {L : Nat} {xs : Nat → Int32} : List.getD (tL_law L xs) 876 x_bad = x_icmp (fun a b => a = b) 954 := rfl
set_option maxRecDepth 20000 in
theorem kL_law_879 {L : Nat} {xs : Nat → Int32} : List.getD (tL_law L xs) 879 x_bad = x_push (.int (nI 0)) 1 := rfl
set_option maxRecDepth 20000 in
theorem kL_law_880 {L : Nat} {xs : Nat → Int32} : List.getD (tL_law L xs) 880 x_bad = x_zret := rfl
set_option maxRecDepth 20000 in
theorem kL_law_881 {L : Nat} {xs : Nat → Int32} : List.getD (tL_law L xs) 881 x_bad = x_aload 1 1 := rfl
set_option maxRecDepth 20000 in
theorem kL_law_882 {L : Nat} {xs : Nat → Int32} : List.getD (tL_law L xs) 882 x_bad = x_sload 0 1 := rfl
set_option maxRecDepth 20000 in
theorem kL_law_883 {L : Nat} {xs : Nat → Int32} : List.getD (tL_law L xs) 883 x_bad = x_iload 3 1 := rfl
set_option maxRecDepth 20000 in
theorem kL_law_884 {L : Nat} {xs : Nat → Int32} : List.getD (tL_law L xs) 884 x_bad = x_push (.int (nI 1)) 1 := rfl
set_option maxRecDepth 20000 in
theorem kL_law_885 {L : Nat} {xs : Nat → Int32} : List.getD (tL_law L xs) 885 x_bad = x_ii (fun a b => a + b) := rfl
set_option maxRecDepth 20000 in
theorem kL_law_886 {L : Nat} {xs : Nat → Int32} : List.getD (tL_law L xs) 886 x_bad = x_sld L xs := rfl
set_option maxRecDepth 20000 in
theorem kL_law_887 {L : Nat} {xs : Nat → Int32} : List.getD (tL_law L xs) 887 x_bad = x_callV1 9 mX9_ifSplit := rfl
set_option maxRecDepth 20000 in
theorem kL_law_890 {L : Nat} {xs : Nat → Int32} : List.getD (tL_law L xs) 890 x_bad = x_aload 2 1 := rfl
set_option maxRecDepth 20000 in
theorem kL_law_891 {L : Nat} {xs : Nat → Int32} : List.getD (tL_law L xs) 891 x_bad = x_sload 0 1 := rfl
set_option maxRecDepth 20000 in
theorem kL_law_892 {L : Nat} {xs : Nat → Int32} : List.getD (tL_law L xs) 892 x_bad = x_iload 3 1 := rfl
set_option maxRecDepth 20000 in
theorem kL_law_893 {L : Nat} {xs : Nat → Int32} : List.getD (tL_law L xs) 893 x_bad = x_push (.int (nI 1)) 1 := rfl
set_option maxRecDepth 20000 in
theorem kL_law_894 {L : Nat} {xs : Nat → Int32} : List.getD (tL_law L xs) 894 x_bad = x_ii (fun a b => a + b) := rfl
set_option maxRecDepth 20000 in
theorem kL_law_895 {L : Nat} {xs : Nat → Int32} : List.getD (tL_law L xs) 895 x_bad = x_sld L xs := rfl
set_option maxRecDepth 20000 in
theorem kL_law_896 {L : Nat} {xs : Nat → Int32} : List.getD (tL_law L xs) 896 x_bad = x_callV1 10 mX10_ifSplit := rfl
set_option maxRecDepth 20000 in
theorem kL_law_899 {L : Nat} {xs : Nat → Int32} : List.getD (tL_law L xs) 899 x_bad = x_icmp (fun a b => a = b) 954 := rfl
set_option maxRecDepth 20000 in
theorem kL_law_902 {L : Nat} {xs : Nat → Int32} : List.getD (tL_law L xs) 902 x_bad = x_push (.int (nI 0)) 1 := rfl
set_option maxRecDepth 20000 in
theorem kL_law_903 {L : Nat} {xs : Nat → Int32} : List.getD (tL_law L xs) 903 x_bad = x_zret := rfl
set_option maxRecDepth 20000 in
theorem kL_law_904 {L : Nat} {xs : Nat → Int32} : List.getD (tL_law L xs) 904 x_bad = x_aload 1 1 := rfl
set_option maxRecDepth 20000 in
theorem kL_law_905 {L : Nat} {xs : Nat → Int32} : List.getD (tL_law L xs) 905 x_bad = x_callV0 9 mX9_undo := rfl
set_option maxRecDepth 20000 in
theorem kL_law_908 {L : Nat} {xs : Nat → Int32} : List.getD (tL_law L xs) 908 x_bad = x_aload 2 1 := rfl
set_option maxRecDepth 20000 in
theorem kL_law_909 {L : Nat} {xs : Nat → Int32} : List.getD (tL_law L xs) 909 x_bad = x_callV0 10 mX10_undo := rfl
set_option maxRecDepth 20000 in
theorem kL_law_912 {L : Nat} {xs : Nat → Int32} : List.getD (tL_law L xs) 912 x_bad = x_icmp (fun a b => a = b) 954 := rfl
set_option maxRecDepth 20000 in
theorem kL_law_915 {L : Nat} {xs : Nat → Int32} : List.getD (tL_law L xs) 915 x_bad = x_push (.int (nI 0)) 1 := rfl
set_option maxRecDepth 20000 in
theorem kL_law_916 {L : Nat} {xs : Nat → Int32} : List.getD (tL_law L xs) 916 x_bad = x_zret := rfl
set_option maxRecDepth 20000 in
theorem kL_law_917 {L : Nat} {xs : Nat → Int32} : List.getD (tL_law L xs) 917 x_bad = x_aload 1 1 := rfl
set_option maxRecDepth 20000 in
theorem kL_law_918 {L : Nat} {xs : Nat → Int32} : List.getD (tL_law L xs) 918 x_bad = x_sload 0 1 := rfl
set_option maxRecDepth 20000 in
theorem kL_law_919 {L : Nat} {xs : Nat → Int32} : List.getD (tL_law L xs) 919 x_bad = x_iload 3 1 := rfl
set_option maxRecDepth 20000 in
theorem kL_law_920 {L : Nat} {xs : Nat → Int32} : List.getD (tL_law L xs) 920 x_bad = x_push (.int (nI 1)) 1 := rfl
set_option maxRecDepth 20000 in
theorem kL_law_921 {L : Nat} {xs : Nat → Int32} : List.getD (tL_law L xs) 921 x_bad = x_ii (fun a b => a + b) := rfl
set_option maxRecDepth 20000 in
theorem kL_law_922 {L : Nat} {xs : Nat → Int32} : List.getD (tL_law L xs) 922 x_bad = x_sld L xs := rfl
set_option maxRecDepth 20000 in
theorem kL_law_923 {L : Nat} {xs : Nat → Int32} : List.getD (tL_law L xs) 923 x_bad = x_callV1 9 mX9_count := rfl
set_option maxRecDepth 20000 in
theorem kL_law_926 {L : Nat} {xs : Nat → Int32} : List.getD (tL_law L xs) 926 x_bad = x_aload 2 1 := rfl
set_option maxRecDepth 20000 in
theorem kL_law_927 {L : Nat} {xs : Nat → Int32} : List.getD (tL_law L xs) 927 x_bad = x_sload 0 1 := rfl
set_option maxRecDepth 20000 in
theorem kL_law_928 {L : Nat} {xs : Nat → Int32} : List.getD (tL_law L xs) 928 x_bad = x_iload 3 1 := rfl
set_option maxRecDepth 20000 in
theorem kL_law_929 {L : Nat} {xs : Nat → Int32} : List.getD (tL_law L xs) 929 x_bad = x_push (.int (nI 1)) 1 := rfl
set_option maxRecDepth 20000 in
theorem kL_law_930 {L : Nat} {xs : Nat → Int32} : List.getD (tL_law L xs) 930 x_bad = x_ii (fun a b => a + b) := rfl
set_option maxRecDepth 20000 in
theorem kL_law_931 {L : Nat} {xs : Nat → Int32} : List.getD (tL_law L xs) 931 x_bad = x_sld L xs := rfl
set_option maxRecDepth 20000 in
theorem kL_law_932 {L : Nat} {xs : Nat → Int32} : List.getD (tL_law L xs) 932 x_bad = x_callV1 10 mX10_count := rfl
set_option maxRecDepth 20000 in
theorem kL_law_935 {L : Nat} {xs : Nat → Int32} : List.getD (tL_law L xs) 935 x_bad = x_icmp (fun a b => a = b) 954 := rfl
set_option maxRecDepth 20000 in
theorem kL_law_938 {L : Nat} {xs : Nat → Int32} : List.getD (tL_law L xs) 938 x_bad = x_push (.int (nI 0)) 1 := rfl
set_option maxRecDepth 20000 in
theorem kL_law_939 {L : Nat} {xs : Nat → Int32} : List.getD (tL_law L xs) 939 x_bad = x_zret := rfl
set_option maxRecDepth 20000 in
theorem kL_law_940 {L : Nat} {xs : Nat → Int32} : List.getD (tL_law L xs) 940 x_bad = x_aload 1 1 := rfl
set_option maxRecDepth 20000 in
theorem kL_law_941 {L : Nat} {xs : Nat → Int32} : List.getD (tL_law L xs) 941 x_bad = x_callV0 9 mX9_digest := rfl
set_option maxRecDepth 20000 in
theorem kL_law_944 {L : Nat} {xs : Nat → Int32} : List.getD (tL_law L xs) 944 x_bad = x_aload 2 1 := rfl
set_option maxRecDepth 20000 in
theorem kL_law_945 {L : Nat} {xs : Nat → Int32} : List.getD (tL_law L xs) 945 x_bad = x_callV0 10 mX10_digest := rfl
set_option maxRecDepth 20000 in
theorem kL_law_948 {L : Nat} {xs : Nat → Int32} : List.getD (tL_law L xs) 948 x_bad = x_lcmp := rfl
set_option maxRecDepth 20000 in
theorem kL_law_949 {L : Nat} {xs : Nat → Int32} : List.getD (tL_law L xs) 949 x_bad = x_if (fun a => a = 0) 954 := rfl
set_option maxRecDepth 20000 in
theorem kL_law_952 {L : Nat} {xs : Nat → Int32} : List.getD (tL_law L xs) 952 x_bad = x_push (.int (nI 0)) 1 := rfl
set_option maxRecDepth 20000 in
theorem kL_law_953 {L : Nat} {xs : Nat → Int32} : List.getD (tL_law L xs) 953 x_bad = x_zret := rfl
set_option maxRecDepth 20000 in
theorem kL_law_954 {L : Nat} {xs : Nat → Int32} : List.getD (tL_law L xs) 954 x_bad = x_iinc 3 (nI 4) := rfl
set_option maxRecDepth 20000 in
theorem kL_law_957 {L : Nat} {xs : Nat → Int32} : List.getD (tL_law L xs) 957 x_bad = x_goto 18 := rfl
set_option maxRecDepth 20000 in
theorem kL_law_960 {L : Nat} {xs : Nat → Int32} : List.getD (tL_law L xs) 960 x_bad = x_push (.int (nI 1)) 1 := rfl
set_option maxRecDepth 20000 in
theorem kL_law_961 {L : Nat} {xs : Nat → Int32} : List.getD (tL_law L xs) 961 x_bad = x_zret := rfl
