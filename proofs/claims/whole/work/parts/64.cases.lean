section CASES
variable {κ : Kx} {G : Gs} {b k sl : Nat} {cx : Cond} {w : Wd} {a Ln i : Nat} {xs : Nat → Int32} {S : Sg}
set_option maxHeartbeats 4000000 in
set_option maxRecDepth 100000 in
theorem law_0 (X : CX κ G cL_law 4 RL cx 20) (hz : κ.2.1.1.heap.size = b) (hX : va_X a Ln xs κ.2.1.1 κ.2.1.1.heap) (ha : a < b) (hLn : Ln ≤ 2048) (hc : k ≤ κ.1.2.2.2.cells) (hs : sl ≤ κ.1.2.2.2.slots) (hi : i + 4 ≤ Ln) (hC : sysC G b w S) (hM : sysM G b w S) (K : ∀ (S2 : Sg) (w2 : Wd), sysC G b w2 S2 → sysM G b w2 S2 → V κ G b (88, k, sl) w2 728 [some (.ref a), some (.ref (b + 0)), some (.ref (b + 77)), some (.int (nI i))] []) : V κ G b (88, k, sl) w 128 [some (.ref a), some (.ref (b + 0)), some (.ref (b + 77)), some (.int (nI i))] [] := by
  obtain ⟨lw, P, n, sg, im, kf⟩ := S
  obtain ⟨fs0, h0⟩ := hC.cell
  refine r_aload_n X eL_law_128 rfl ?_
  refine r_aload_n X eL_law_129 rfl ?_
  refine r_iload_n X eL_law_130 rfl ?_
  refine r_iconst X eL_law_131 (nI 1) (by decide) ?_
  refine r_iadd X eL_law_132 (nI (i + 1)) (addN rfl) ?_
  refine r_sld X hX ha hz eL_law_133 (by omega) hLn ?_
  refine r_aload_n X eL_law_134 rfl ?_
  refine r_iload_n X eL_law_135 rfl ?_
  refine r_iconst X eL_law_136 (nI 2) (by decide) ?_
  refine r_iadd X eL_law_137 (nI (i + 2)) (addN rfl) ?_
  refine r_sld X hX ha hz eL_law_138 (by omega) hLn ?_
  refine lc_13 X hc hs eL_law_139 (c_X5_size _ G b 88 w (by decide) lw P n sg im kf hC (xs (i + 1)) (xs (i + 2))) (by decide) (by decide) h0 rfl (Nat.le_of_ble_eq_true rfl) (fun r1 w1 hp => ?_)
  obtain ⟨rfl, hC1, u1⟩ := hp
  have hM1 := hM.fr (fun j a1 a2 => u1 j a1)
  obtain ⟨fs1, h1⟩ := hM1.cell
  refine r_aload_n X eL_law_142 rfl ?_
  refine r_aload_n X eL_law_143 rfl ?_
  refine r_iload_n X eL_law_144 rfl ?_
  refine r_iconst X eL_law_145 (nI 1) (by decide) ?_
  refine r_iadd X eL_law_146 (nI (i + 1)) (addN rfl) ?_
  refine r_sld X hX ha hz eL_law_147 (by omega) hLn ?_
  refine r_aload_n X eL_law_148 rfl ?_
  refine r_iload_n X eL_law_149 rfl ?_
  refine r_iconst X eL_law_150 (nI 2) (by decide) ?_
  refine r_iadd X eL_law_151 (nI (i + 2)) (addN rfl) ?_
  refine r_sld X hX ha hz eL_law_152 (by omega) hLn ?_
  refine lc_17 X hc hs eL_law_153 (c_X6_size_ _ G b 88 w1 (by decide) lw P n sg im kf hM1 hC.bits (xs (i + 1)) (xs (i + 2))) (by decide) (by decide) h1 rfl (Nat.le_of_ble_eq_true rfl) (fun r2 w2 hp => ?_)
  obtain ⟨rfl, hM2, u2⟩ := hp
  have hC2 := hC1.fr (fun j a1 => u2 j (Or.inl a1))
  refine r_icmp_eq (tgt := 728) X eL_law_156 (by decide) rfl rfl (fun _ => ?_) (fun c => absurd rfl c)
  exact K _ w2 hC2 hM2
set_option maxHeartbeats 4000000 in
set_option maxRecDepth 100000 in
theorem law_1 (X : CX κ G cL_law 4 RL cx 20) (hz : κ.2.1.1.heap.size = b) (hX : va_X a Ln xs κ.2.1.1 κ.2.1.1.heap) (ha : a < b) (hLn : Ln ≤ 2048) (hc : k ≤ κ.1.2.2.2.cells) (hs : sl ≤ κ.1.2.2.2.slots) (hi : i + 4 ≤ Ln) (hC : sysC G b w S) (hM : sysM G b w S) (K : ∀ (S2 : Sg) (w2 : Wd), sysC G b w2 S2 → sysM G b w2 S2 → V κ G b (88, k, sl) w2 728 [some (.ref a), some (.ref (b + 0)), some (.ref (b + 77)), some (.int (nI i))] []) : V κ G b (88, k, sl) w 161 [some (.ref a), some (.ref (b + 0)), some (.ref (b + 77)), some (.int (nI i))] [] := by
  obtain ⟨lw, P, n, sg, im, kf⟩ := S
  obtain ⟨fs0, h0⟩ := hC.cell
  refine r_aload_n X eL_law_161 rfl ?_
  refine r_aload_n X eL_law_162 rfl ?_
  refine r_iload_n X eL_law_163 rfl ?_
  refine r_iconst X eL_law_164 (nI 1) (by decide) ?_
  refine r_iadd X eL_law_165 (nI (i + 1)) (addN rfl) ?_
  refine r_sld X hX ha hz eL_law_166 (by omega) hLn ?_
  refine r_aload_n X eL_law_167 rfl ?_
  refine r_iload_n X eL_law_168 rfl ?_
  refine r_iconst X eL_law_169 (nI 2) (by decide) ?_
  refine r_iadd X eL_law_170 (nI (i + 2)) (addN rfl) ?_
  refine r_sld X hX ha hz eL_law_171 (by omega) hLn ?_
  refine r_aload_n X eL_law_172 rfl ?_
  refine r_iload_n X eL_law_173 rfl ?_
  refine r_iconst X eL_law_174 (nI 3) (by decide) ?_
  refine r_iadd X eL_law_175 (nI (i + 3)) (addN rfl) ?_
  refine r_sld X hX ha hz eL_law_176 (by omega) hLn ?_
  refine lc_18 X hc hs eL_law_177 (c_X5_grey _ G b 88 w (by decide) lw P n sg im kf hC (xs (i + 1)) (xs (i + 2)) (xs (i + 3))) (by decide) (by decide) h0 rfl (Nat.le_of_ble_eq_true rfl) (fun r1 w1 hp => ?_)
  obtain ⟨rfl, hC1, u1⟩ := hp
  have hM1 := hM.fr (fun j a1 a2 => u1 j a1)
  obtain ⟨fs1, h1⟩ := hM1.cell
  refine r_aload_n X eL_law_180 rfl ?_
  refine r_aload_n X eL_law_181 rfl ?_
  refine r_iload_n X eL_law_182 rfl ?_
  refine r_iconst X eL_law_183 (nI 1) (by decide) ?_
  refine r_iadd X eL_law_184 (nI (i + 1)) (addN rfl) ?_
  refine r_sld X hX ha hz eL_law_185 (by omega) hLn ?_
  refine r_aload_n X eL_law_186 rfl ?_
  refine r_iload_n X eL_law_187 rfl ?_
  refine r_iconst X eL_law_188 (nI 2) (by decide) ?_
  refine r_iadd X eL_law_189 (nI (i + 2)) (addN rfl) ?_
  refine r_sld X hX ha hz eL_law_190 (by omega) hLn ?_
  refine r_aload_n X eL_law_191 rfl ?_
  refine r_iload_n X eL_law_192 rfl ?_
  refine r_iconst X eL_law_193 (nI 3) (by decide) ?_
  refine r_iadd X eL_law_194 (nI (i + 3)) (addN rfl) ?_
  refine r_sld X hX ha hz eL_law_195 (by omega) hLn ?_
  refine lc_22 X hc hs eL_law_196 (c_X6_grey _ G b 88 w1 (by decide) lw P n sg im kf hM1 hC.bits (xs (i + 1)) (xs (i + 2)) (xs (i + 3))) (by decide) (by decide) h1 rfl (Nat.le_of_ble_eq_true rfl) (fun r2 w2 hp => ?_)
  obtain ⟨rfl, hM2, u2⟩ := hp
  have hC2 := hC1.fr (fun j a1 => u2 j (Or.inl a1))
  refine r_icmp_eq (tgt := 728) X eL_law_199 (by decide) rfl rfl (fun _ => ?_) (fun c => absurd rfl c)
  exact K _ w2 hC2 hM2
set_option maxHeartbeats 4000000 in
set_option maxRecDepth 100000 in
theorem law_2 (X : CX κ G cL_law 4 RL cx 20) (hz : κ.2.1.1.heap.size = b) (hX : va_X a Ln xs κ.2.1.1 κ.2.1.1.heap) (ha : a < b) (hLn : Ln ≤ 2048) (hc : k ≤ κ.1.2.2.2.cells) (hs : sl ≤ κ.1.2.2.2.slots) (hi : i + 4 ≤ Ln) (hC : sysC G b w S) (hM : sysM G b w S) (K : ∀ (S2 : Sg) (w2 : Wd), sysC G b w2 S2 → sysM G b w2 S2 → V κ G b (88, k, sl) w2 728 [some (.ref a), some (.ref (b + 0)), some (.ref (b + 77)), some (.int (nI i))] []) : V κ G b (88, k, sl) w 204 [some (.ref a), some (.ref (b + 0)), some (.ref (b + 77)), some (.int (nI i))] [] := by
  obtain ⟨lw, P, n, sg, im, kf⟩ := S
  obtain ⟨fs0, h0⟩ := hC.cell
  refine r_aload_n X eL_law_204 rfl ?_
  refine r_aload_n X eL_law_205 rfl ?_
  refine r_iload_n X eL_law_206 rfl ?_
  refine r_iconst X eL_law_207 (nI 1) (by decide) ?_
  refine r_iadd X eL_law_208 (nI (i + 1)) (addN rfl) ?_
  refine r_sld X hX ha hz eL_law_209 (by omega) hLn ?_
  refine r_aload_n X eL_law_210 rfl ?_
  refine r_iload_n X eL_law_211 rfl ?_
  refine r_iconst X eL_law_212 (nI 2) (by decide) ?_
  refine r_iadd X eL_law_213 (nI (i + 2)) (addN rfl) ?_
  refine r_sld X hX ha hz eL_law_214 (by omega) hLn ?_
  refine r_aload_n X eL_law_215 rfl ?_
  refine r_iload_n X eL_law_216 rfl ?_
  refine r_iconst X eL_law_217 (nI 3) (by decide) ?_
  refine r_iadd X eL_law_218 (nI (i + 3)) (addN rfl) ?_
  refine r_sld X hX ha hz eL_law_219 (by omega) hLn ?_
  refine lc_23 X hc hs eL_law_220 (c_X5_mark _ G b 88 w (by decide) lw P n sg im kf hC (xs (i + 1)) (xs (i + 2)) (xs (i + 3))) (by decide) (by decide) h0 rfl (Nat.le_of_ble_eq_true rfl) (fun r1 w1 hp => ?_)
  obtain ⟨rfl, hC1, u1⟩ := hp
  have hM1 := hM.fr (fun j a1 a2 => u1 j a1)
  obtain ⟨fs1, h1⟩ := hM1.cell
  refine r_aload_n X eL_law_223 rfl ?_
  refine r_aload_n X eL_law_224 rfl ?_
  refine r_iload_n X eL_law_225 rfl ?_
  refine r_iconst X eL_law_226 (nI 1) (by decide) ?_
  refine r_iadd X eL_law_227 (nI (i + 1)) (addN rfl) ?_
  refine r_sld X hX ha hz eL_law_228 (by omega) hLn ?_
  refine r_aload_n X eL_law_229 rfl ?_
  refine r_iload_n X eL_law_230 rfl ?_
  refine r_iconst X eL_law_231 (nI 2) (by decide) ?_
  refine r_iadd X eL_law_232 (nI (i + 2)) (addN rfl) ?_
  refine r_sld X hX ha hz eL_law_233 (by omega) hLn ?_
  refine r_aload_n X eL_law_234 rfl ?_
  refine r_iload_n X eL_law_235 rfl ?_
  refine r_iconst X eL_law_236 (nI 3) (by decide) ?_
  refine r_iadd X eL_law_237 (nI (i + 3)) (addN rfl) ?_
  refine r_sld X hX ha hz eL_law_238 (by omega) hLn ?_
  refine lc_26 X hc hs eL_law_239 (c_X6_mark _ G b 88 w1 (by decide) lw P n sg im kf hM1 hC.bits (xs (i + 1)) (xs (i + 2)) (xs (i + 3))) (by decide) (by decide) h1 rfl (Nat.le_of_ble_eq_true rfl) (fun r2 w2 hp => ?_)
  obtain ⟨rfl, hM2, u2⟩ := hp
  have hC2 := hC1.fr (fun j a1 => u2 j (Or.inl a1))
  refine r_icmp_eq (tgt := 728) X eL_law_242 (by decide) rfl rfl (fun _ => ?_) (fun c => absurd rfl c)
  exact K _ w2 hC2 hM2
set_option maxHeartbeats 4000000 in
set_option maxRecDepth 100000 in
theorem law_3 (X : CX κ G cL_law 4 RL cx 20) (hz : κ.2.1.1.heap.size = b) (hX : va_X a Ln xs κ.2.1.1 κ.2.1.1.heap) (ha : a < b) (hLn : Ln ≤ 2048) (hc : k ≤ κ.1.2.2.2.cells) (hs : sl ≤ κ.1.2.2.2.slots) (hi : i + 4 ≤ Ln) (hC : sysC G b w S) (hM : sysM G b w S) (K : ∀ (S2 : Sg) (w2 : Wd), sysC G b w2 S2 → sysM G b w2 S2 → V κ G b (88, k, sl) w2 728 [some (.ref a), some (.ref (b + 0)), some (.ref (b + 77)), some (.int (nI i))] []) : V κ G b (88, k, sl) w 247 [some (.ref a), some (.ref (b + 0)), some (.ref (b + 77)), some (.int (nI i))] [] := by
  obtain ⟨lw, P, n, sg, im, kf⟩ := S
  obtain ⟨fs0, h0⟩ := hC.cell
  refine r_aload_n X eL_law_247 rfl ?_
  refine r_aload_n X eL_law_248 rfl ?_
  refine r_iload_n X eL_law_249 rfl ?_
  refine r_iconst X eL_law_250 (nI 1) (by decide) ?_
  refine r_iadd X eL_law_251 (nI (i + 1)) (addN rfl) ?_
  refine r_sld X hX ha hz eL_law_252 (by omega) hLn ?_
  refine lc_27 X hc hs eL_law_253 (c_X5_rule _ G b 88 w (by decide) lw P n sg im kf hC (xs (i + 1))) (by decide) (by decide) h0 rfl (Nat.le_of_ble_eq_true rfl) (fun r1 w1 hp => ?_)
  obtain ⟨rfl, hC1, u1⟩ := hp
  have hM1 := hM.fr (fun j a1 a2 => u1 j a1)
  obtain ⟨fs1, h1⟩ := hM1.cell
  refine r_aload_n X eL_law_256 rfl ?_
  refine r_aload_n X eL_law_257 rfl ?_
  refine r_iload_n X eL_law_258 rfl ?_
  refine r_iconst X eL_law_259 (nI 1) (by decide) ?_
  refine r_iadd X eL_law_260 (nI (i + 1)) (addN rfl) ?_
  refine r_sld X hX ha hz eL_law_261 (by omega) hLn ?_
  refine lc_31 X hc hs eL_law_262 (c_X6_rule _ G b 88 w1 (by decide) lw P n sg im kf hM1 hC.bits (xs (i + 1))) (by decide) (by decide) h1 rfl (Nat.le_of_ble_eq_true rfl) (fun r2 w2 hp => ?_)
  obtain ⟨rfl, hM2, u2⟩ := hp
  have hC2 := hC1.fr (fun j a1 => u2 j (Or.inl a1))
  refine r_icmp_eq (tgt := 728) X eL_law_265 (by decide) rfl rfl (fun _ => ?_) (fun c => absurd rfl c)
  exact K _ w2 hC2 hM2
set_option maxHeartbeats 4000000 in
set_option maxRecDepth 100000 in
theorem law_4 (X : CX κ G cL_law 4 RL cx 20) (hz : κ.2.1.1.heap.size = b) (hX : va_X a Ln xs κ.2.1.1 κ.2.1.1.heap) (ha : a < b) (hLn : Ln ≤ 2048) (hc : k ≤ κ.1.2.2.2.cells) (hs : sl ≤ κ.1.2.2.2.slots) (hi : i + 4 ≤ Ln) (hC : sysC G b w S) (hM : sysM G b w S) (K : ∀ (S2 : Sg) (w2 : Wd), sysC G b w2 S2 → sysM G b w2 S2 → V κ G b (88, k, sl) w2 728 [some (.ref a), some (.ref (b + 0)), some (.ref (b + 77)), some (.int (nI i))] []) : V κ G b (88, k, sl) w 270 [some (.ref a), some (.ref (b + 0)), some (.ref (b + 77)), some (.int (nI i))] [] := by
  obtain ⟨lw, P, n, sg, im, kf⟩ := S
  obtain ⟨fs0, h0⟩ := hC.cell
  refine r_aload_n X eL_law_270 rfl ?_
  refine r_aload_n X eL_law_271 rfl ?_
  refine r_iload_n X eL_law_272 rfl ?_
  refine r_iconst X eL_law_273 (nI 1) (by decide) ?_
  refine r_iadd X eL_law_274 (nI (i + 1)) (addN rfl) ?_
  refine r_sld X hX ha hz eL_law_275 (by omega) hLn ?_
  refine r_aload_n X eL_law_276 rfl ?_
  refine r_iload_n X eL_law_277 rfl ?_
  refine r_iconst X eL_law_278 (nI 2) (by decide) ?_
  refine r_iadd X eL_law_279 (nI (i + 2)) (addN rfl) ?_
  refine r_sld X hX ha hz eL_law_280 (by omega) hLn ?_
  refine r_aload_n X eL_law_281 rfl ?_
  refine r_iload_n X eL_law_282 rfl ?_
  refine r_iconst X eL_law_283 (nI 3) (by decide) ?_
  refine r_iadd X eL_law_284 (nI (i + 3)) (addN rfl) ?_
  refine r_sld X hX ha hz eL_law_285 (by omega) hLn ?_
  refine lc_32 X hc hs eL_law_286 (c_X5_dot _ G b 88 w (by decide) lw P n sg im kf hC (xs (i + 1)) (xs (i + 2)) (xs (i + 3))) (by decide) (by decide) h0 rfl (Nat.le_of_ble_eq_true rfl) (fun r1 w1 hp => ?_)
  obtain ⟨rfl, hC1, u1⟩ := hp
  have hM1 := hM.fr (fun j a1 a2 => u1 j a1)
  obtain ⟨fs1, h1⟩ := hM1.cell
  refine r_aload_n X eL_law_289 rfl ?_
  refine r_aload_n X eL_law_290 rfl ?_
  refine r_iload_n X eL_law_291 rfl ?_
  refine r_iconst X eL_law_292 (nI 1) (by decide) ?_
  refine r_iadd X eL_law_293 (nI (i + 1)) (addN rfl) ?_
  refine r_sld X hX ha hz eL_law_294 (by omega) hLn ?_
  refine r_aload_n X eL_law_295 rfl ?_
  refine r_iload_n X eL_law_296 rfl ?_
  refine r_iconst X eL_law_297 (nI 2) (by decide) ?_
  refine r_iadd X eL_law_298 (nI (i + 2)) (addN rfl) ?_
  refine r_sld X hX ha hz eL_law_299 (by omega) hLn ?_
  refine r_aload_n X eL_law_300 rfl ?_
  refine r_iload_n X eL_law_301 rfl ?_
  refine r_iconst X eL_law_302 (nI 3) (by decide) ?_
  refine r_iadd X eL_law_303 (nI (i + 3)) (addN rfl) ?_
  refine r_sld X hX ha hz eL_law_304 (by omega) hLn ?_
  refine lc_35 X hc hs eL_law_305 (c_X6_dot _ G b 88 w1 (by decide) lw P n sg im kf hM1 hC.bits (xs (i + 1)) (xs (i + 2)) (xs (i + 3))) (by decide) (by decide) h1 rfl (Nat.le_of_ble_eq_true rfl) (fun r2 w2 hp => ?_)
  obtain ⟨rfl, hM2, u2⟩ := hp
  have hC2 := hC1.fr (fun j a1 => u2 j (Or.inl a1))
  refine r_icmp_eq (tgt := 728) X eL_law_308 (by decide) rfl rfl (fun _ => ?_) (fun c => absurd rfl c)
  exact K _ w2 hC2 hM2
set_option maxHeartbeats 4000000 in
set_option maxRecDepth 100000 in
theorem law_5 (X : CX κ G cL_law 4 RL cx 20) (hz : κ.2.1.1.heap.size = b) (hX : va_X a Ln xs κ.2.1.1 κ.2.1.1.heap) (ha : a < b) (hLn : Ln ≤ 2048) (hc : k ≤ κ.1.2.2.2.cells) (hs : sl ≤ κ.1.2.2.2.slots) (hi : i + 4 ≤ Ln) (hC : sysC G b w S) (hM : sysM G b w S) (K : ∀ (S2 : Sg) (w2 : Wd), sysC G b w2 S2 → sysM G b w2 S2 → V κ G b (88, k, sl) w2 728 [some (.ref a), some (.ref (b + 0)), some (.ref (b + 77)), some (.int (nI i))] []) : V κ G b (88, k, sl) w 313 [some (.ref a), some (.ref (b + 0)), some (.ref (b + 77)), some (.int (nI i))] [] := by
  obtain ⟨lw, P, n, sg, im, kf⟩ := S
  obtain ⟨fs0, h0⟩ := hC.cell
  refine r_aload_n X eL_law_313 rfl ?_
  refine r_aload_n X eL_law_314 rfl ?_
  refine r_iload_n X eL_law_315 rfl ?_
  refine r_iconst X eL_law_316 (nI 1) (by decide) ?_
  refine r_iadd X eL_law_317 (nI (i + 1)) (addN rfl) ?_
  refine r_sld X hX ha hz eL_law_318 (by omega) hLn ?_
  refine lc_36 X hc hs eL_law_319 (c_X5_say _ G b 88 w (by decide) lw P n sg im kf hC (xs (i + 1))) (by decide) (by decide) h0 rfl (Nat.le_of_ble_eq_true rfl) (fun r1 w1 hp => ?_)
  obtain ⟨rfl, hC1, u1⟩ := hp
  have hM1 := hM.fr (fun j a1 a2 => u1 j a1)
  obtain ⟨fs1, h1⟩ := hM1.cell
  refine r_aload_n X eL_law_322 rfl ?_
  refine r_aload_n X eL_law_323 rfl ?_
  refine r_iload_n X eL_law_324 rfl ?_
  refine r_iconst X eL_law_325 (nI 1) (by decide) ?_
  refine r_iadd X eL_law_326 (nI (i + 1)) (addN rfl) ?_
  refine r_sld X hX ha hz eL_law_327 (by omega) hLn ?_
  refine lc_39 X hc hs eL_law_328 (c_X6_say _ G b 88 w1 (by decide) lw P n sg im kf hM1 hC.bits (xs (i + 1))) (by decide) (by decide) h1 rfl (Nat.le_of_ble_eq_true rfl) (fun r2 w2 hp => ?_)
  obtain ⟨rfl, hM2, u2⟩ := hp
  have hC2 := hC1.fr (fun j a1 => u2 j (Or.inl a1))
  refine r_icmp_eq (tgt := 728) X eL_law_331 (by decide) rfl rfl (fun _ => ?_) (fun c => absurd rfl c)
  exact K _ w2 hC2 hM2
set_option maxHeartbeats 4000000 in
set_option maxRecDepth 100000 in
theorem law_6 (X : CX κ G cL_law 4 RL cx 20) (hz : κ.2.1.1.heap.size = b) (hX : va_X a Ln xs κ.2.1.1 κ.2.1.1.heap) (ha : a < b) (hLn : Ln ≤ 2048) (hc : k ≤ κ.1.2.2.2.cells) (hs : sl ≤ κ.1.2.2.2.slots) (hi : i + 4 ≤ Ln) (hC : sysC G b w S) (hM : sysM G b w S) (K : ∀ (S2 : Sg) (w2 : Wd), sysC G b w2 S2 → sysM G b w2 S2 → V κ G b (88, k, sl) w2 728 [some (.ref a), some (.ref (b + 0)), some (.ref (b + 77)), some (.int (nI i))] []) : V κ G b (88, k, sl) w 336 [some (.ref a), some (.ref (b + 0)), some (.ref (b + 77)), some (.int (nI i))] [] := by
  obtain ⟨lw, P, n, sg, im, kf⟩ := S
  obtain ⟨fs0, h0⟩ := hC.cell
  refine r_aload_n X eL_law_336 rfl ?_
  refine lc_40 X hc hs eL_law_337 (c_X5_wipe _ G b 88 w (by decide) lw P n sg im kf hC ) (by decide) (by decide) h0 rfl (Nat.le_of_ble_eq_true rfl) (fun r1 w1 hp => ?_)
  obtain ⟨rfl, hC1, u1⟩ := hp
  have hM1 := hM.fr (fun j a1 a2 => u1 j a1)
  obtain ⟨fs1, h1⟩ := hM1.cell
  refine r_aload_n X eL_law_340 rfl ?_
  refine lc_44 X hc hs eL_law_341 (c_X6_wipe _ G b 88 w1 (by decide) lw P n sg im kf hM1 hC.bits ) (by decide) (by decide) h1 rfl (Nat.le_of_ble_eq_true rfl) (fun r2 w2 hp => ?_)
  obtain ⟨rfl, hM2, u2⟩ := hp
  have hC2 := hC1.fr (fun j a1 => u2 j (Or.inl a1))
  refine r_icmp_eq (tgt := 728) X eL_law_344 (by decide) rfl rfl (fun _ => ?_) (fun c => absurd rfl c)
  exact K _ w2 hC2 hM2
set_option maxHeartbeats 4000000 in
set_option maxRecDepth 100000 in
theorem law_7 (X : CX κ G cL_law 4 RL cx 20) (hz : κ.2.1.1.heap.size = b) (hX : va_X a Ln xs κ.2.1.1 κ.2.1.1.heap) (ha : a < b) (hLn : Ln ≤ 2048) (hc : k ≤ κ.1.2.2.2.cells) (hs : sl ≤ κ.1.2.2.2.slots) (hi : i + 4 ≤ Ln) (hC : sysC G b w S) (hM : sysM G b w S) (K : ∀ (S2 : Sg) (w2 : Wd), sysC G b w2 S2 → sysM G b w2 S2 → V κ G b (88, k, sl) w2 728 [some (.ref a), some (.ref (b + 0)), some (.ref (b + 77)), some (.int (nI i))] []) : V κ G b (88, k, sl) w 349 [some (.ref a), some (.ref (b + 0)), some (.ref (b + 77)), some (.int (nI i))] [] := by
  obtain ⟨lw, P, n, sg, im, kf⟩ := S
  obtain ⟨fs0, h0⟩ := hC.cell
  refine r_aload_n X eL_law_349 rfl ?_
  refine r_aload_n X eL_law_350 rfl ?_
  refine r_iload_n X eL_law_351 rfl ?_
  refine r_iconst X eL_law_352 (nI 1) (by decide) ?_
  refine r_iadd X eL_law_353 (nI (i + 1)) (addN rfl) ?_
  refine r_sld X hX ha hz eL_law_354 (by omega) hLn ?_
  refine lc_45 X hc hs eL_law_355 (c_X5_fault _ G b 88 w (by decide) lw P n sg im kf hC (xs (i + 1))) (by decide) (by decide) h0 rfl (Nat.le_of_ble_eq_true rfl) (fun r1 w1 hp => ?_)
  obtain ⟨rfl, hC1, u1⟩ := hp
  have hM1 := hM.fr (fun j a1 a2 => u1 j a1)
  obtain ⟨fs1, h1⟩ := hM1.cell
  refine r_aload_n X eL_law_358 rfl ?_
  refine r_aload_n X eL_law_359 rfl ?_
  refine r_iload_n X eL_law_360 rfl ?_
  refine r_iconst X eL_law_361 (nI 1) (by decide) ?_
  refine r_iadd X eL_law_362 (nI (i + 1)) (addN rfl) ?_
  refine r_sld X hX ha hz eL_law_363 (by omega) hLn ?_
  refine lc_48 X hc hs eL_law_364 (c_X6_fault _ G b 88 w1 (by decide) lw P n sg im kf hM1 hC.bits (xs (i + 1))) (by decide) (by decide) h1 rfl (Nat.le_of_ble_eq_true rfl) (fun r2 w2 hp => ?_)
  obtain ⟨rfl, hM2, u2⟩ := hp
  have hC2 := hC1.fr (fun j a1 => u2 j (Or.inl a1))
  refine r_icmp_eq (tgt := 728) X eL_law_367 (by decide) rfl rfl (fun _ => ?_) (fun c => absurd rfl c)
  exact K _ w2 hC2 hM2
set_option maxHeartbeats 4000000 in
set_option maxRecDepth 100000 in
theorem law_8 (X : CX κ G cL_law 4 RL cx 20) (hz : κ.2.1.1.heap.size = b) (hX : va_X a Ln xs κ.2.1.1 κ.2.1.1.heap) (ha : a < b) (hLn : Ln ≤ 2048) (hc : k ≤ κ.1.2.2.2.cells) (hs : sl ≤ κ.1.2.2.2.slots) (hi : i + 4 ≤ Ln) (hC : sysC G b w S) (hM : sysM G b w S) (K : ∀ (S2 : Sg) (w2 : Wd), sysC G b w2 S2 → sysM G b w2 S2 → V κ G b (88, k, sl) w2 728 [some (.ref a), some (.ref (b + 0)), some (.ref (b + 77)), some (.int (nI i))] []) : V κ G b (88, k, sl) w 372 [some (.ref a), some (.ref (b + 0)), some (.ref (b + 77)), some (.int (nI i))] [] := by
  obtain ⟨lw, P, n, sg, im, kf⟩ := S
  obtain ⟨fs0, h0⟩ := hC.cell
  refine r_aload_n X eL_law_372 rfl ?_
  refine r_aload_n X eL_law_373 rfl ?_
  refine r_iload_n X eL_law_374 rfl ?_
  refine r_iconst X eL_law_375 (nI 1) (by decide) ?_
  refine r_iadd X eL_law_376 (nI (i + 1)) (addN rfl) ?_
  refine r_sld X hX ha hz eL_law_377 (by omega) hLn ?_
  refine lc_49 X hc hs eL_law_378 (c_X5_lay _ G b 88 w (by decide) lw P n sg im kf hC (xs (i + 1))) (by decide) (by decide) h0 rfl (Nat.le_of_ble_eq_true rfl) (fun r1 w1 hp => ?_)
  obtain ⟨rfl, hC1, u1⟩ := hp
  have hM1 := hM.fr (fun j a1 a2 => u1 j a1)
  obtain ⟨fs1, h1⟩ := hM1.cell
  refine r_aload_n X eL_law_381 rfl ?_
  refine r_aload_n X eL_law_382 rfl ?_
  refine r_iload_n X eL_law_383 rfl ?_
  refine r_iconst X eL_law_384 (nI 1) (by decide) ?_
  refine r_iadd X eL_law_385 (nI (i + 1)) (addN rfl) ?_
  refine r_sld X hX ha hz eL_law_386 (by omega) hLn ?_
  refine lc_52 X hc hs eL_law_387 (c_X6_lay _ G b 88 w1 (by decide) lw P n sg im kf hM1 hC.bits (xs (i + 1))) (by decide) (by decide) h1 rfl (Nat.le_of_ble_eq_true rfl) (fun r2 w2 hp => ?_)
  obtain ⟨rfl, hM2, u2⟩ := hp
  have hC2 := hC1.fr (fun j a1 => u2 j (Or.inl a1))
  refine r_icmp_eq (tgt := 728) X eL_law_390 (by decide) rfl rfl (fun _ => ?_) (fun c => absurd rfl c)
  exact K _ w2 hC2 hM2
set_option maxHeartbeats 4000000 in
set_option maxRecDepth 100000 in
theorem law_9 (X : CX κ G cL_law 4 RL cx 20) (hz : κ.2.1.1.heap.size = b) (hX : va_X a Ln xs κ.2.1.1 κ.2.1.1.heap) (ha : a < b) (hLn : Ln ≤ 2048) (hc : k ≤ κ.1.2.2.2.cells) (hs : sl ≤ κ.1.2.2.2.slots) (hi : i + 4 ≤ Ln) (hC : sysC G b w S) (hM : sysM G b w S) (K : ∀ (S2 : Sg) (w2 : Wd), sysC G b w2 S2 → sysM G b w2 S2 → V κ G b (88, k, sl) w2 728 [some (.ref a), some (.ref (b + 0)), some (.ref (b + 77)), some (.int (nI i))] []) : V κ G b (88, k, sl) w 395 [some (.ref a), some (.ref (b + 0)), some (.ref (b + 77)), some (.int (nI i))] [] := by
  obtain ⟨lw, P, n, sg, im, kf⟩ := S
  obtain ⟨fs0, h0⟩ := hC.cell
  refine r_aload_n X eL_law_395 rfl ?_
  refine r_aload_n X eL_law_396 rfl ?_
  refine r_iload_n X eL_law_397 rfl ?_
  refine r_iconst X eL_law_398 (nI 1) (by decide) ?_
  refine r_iadd X eL_law_399 (nI (i + 1)) (addN rfl) ?_
  refine r_sld X hX ha hz eL_law_400 (by omega) hLn ?_
  refine r_aload_n X eL_law_401 rfl ?_
  refine r_iload_n X eL_law_402 rfl ?_
  refine r_iconst X eL_law_403 (nI 2) (by decide) ?_
  refine r_iadd X eL_law_404 (nI (i + 2)) (addN rfl) ?_
  refine r_sld X hX ha hz eL_law_405 (by omega) hLn ?_
  refine lc_53 X hc hs eL_law_406 (c_X5_seam _ G b 88 w (by decide) lw P n sg im kf hC (xs (i + 1)) (xs (i + 2))) (by decide) (by decide) h0 rfl (Nat.le_of_ble_eq_true rfl) (fun r1 w1 hp => ?_)
  obtain ⟨rfl, hC1, u1⟩ := hp
  have hM1 := hM.fr (fun j a1 a2 => u1 j a1)
  obtain ⟨fs1, h1⟩ := hM1.cell
  refine r_aload_n X eL_law_409 rfl ?_
  refine r_aload_n X eL_law_410 rfl ?_
  refine r_iload_n X eL_law_411 rfl ?_
  refine r_iconst X eL_law_412 (nI 1) (by decide) ?_
  refine r_iadd X eL_law_413 (nI (i + 1)) (addN rfl) ?_
  refine r_sld X hX ha hz eL_law_414 (by omega) hLn ?_
  refine r_aload_n X eL_law_415 rfl ?_
  refine r_iload_n X eL_law_416 rfl ?_
  refine r_iconst X eL_law_417 (nI 2) (by decide) ?_
  refine r_iadd X eL_law_418 (nI (i + 2)) (addN rfl) ?_
  refine r_sld X hX ha hz eL_law_419 (by omega) hLn ?_
  refine lc_56 X hc hs eL_law_420 (c_X6_seam _ G b 88 w1 (by decide) lw P n sg im kf hM1 hC.bits (xs (i + 1)) (xs (i + 2))) (by decide) (by decide) h1 rfl (Nat.le_of_ble_eq_true rfl) (fun r2 w2 hp => ?_)
  obtain ⟨rfl, hM2, u2⟩ := hp
  have hC2 := hC1.fr (fun j a1 => u2 j (Or.inl a1))
  refine r_icmp_eq (tgt := 728) X eL_law_423 (by decide) rfl rfl (fun _ => ?_) (fun c => absurd rfl c)
  exact K _ w2 hC2 hM2
set_option maxHeartbeats 4000000 in
set_option maxRecDepth 100000 in
theorem law_10 (X : CX κ G cL_law 4 RL cx 20) (hz : κ.2.1.1.heap.size = b) (hX : va_X a Ln xs κ.2.1.1 κ.2.1.1.heap) (ha : a < b) (hLn : Ln ≤ 2048) (hc : k ≤ κ.1.2.2.2.cells) (hs : sl ≤ κ.1.2.2.2.slots) (hi : i + 4 ≤ Ln) (hC : sysC G b w S) (hM : sysM G b w S) (K : ∀ (S2 : Sg) (w2 : Wd), sysC G b w2 S2 → sysM G b w2 S2 → V κ G b (88, k, sl) w2 728 [some (.ref a), some (.ref (b + 0)), some (.ref (b + 77)), some (.int (nI i))] []) : V κ G b (88, k, sl) w 428 [some (.ref a), some (.ref (b + 0)), some (.ref (b + 77)), some (.int (nI i))] [] := by
  obtain ⟨lw, P, n, sg, im, kf⟩ := S
  obtain ⟨fs0, h0⟩ := hC.cell
  refine r_aload_n X eL_law_428 rfl ?_
  refine r_aload_n X eL_law_429 rfl ?_
  refine r_iload_n X eL_law_430 rfl ?_
  refine r_iconst X eL_law_431 (nI 1) (by decide) ?_
  refine r_iadd X eL_law_432 (nI (i + 1)) (addN rfl) ?_
  refine r_sld X hX ha hz eL_law_433 (by omega) hLn ?_
  refine r_aload_n X eL_law_434 rfl ?_
  refine r_iload_n X eL_law_435 rfl ?_
  refine r_iconst X eL_law_436 (nI 2) (by decide) ?_
  refine r_iadd X eL_law_437 (nI (i + 2)) (addN rfl) ?_
  refine r_sld X hX ha hz eL_law_438 (by omega) hLn ?_
  refine lc_57 X hc hs eL_law_439 (c_X5_cost _ G b 88 w (by decide) lw P n sg im kf hC (xs (i + 1)) (xs (i + 2))) (by decide) (by decide) h0 rfl (Nat.le_of_ble_eq_true rfl) (fun r1 w1 hp => ?_)
  obtain ⟨rfl, hC1, u1⟩ := hp
  have hM1 := hM.fr (fun j a1 a2 => u1 j a1)
  obtain ⟨fs1, h1⟩ := hM1.cell
  refine r_aload_n X eL_law_442 rfl ?_
  refine r_aload_n X eL_law_443 rfl ?_
  refine r_iload_n X eL_law_444 rfl ?_
  refine r_iconst X eL_law_445 (nI 1) (by decide) ?_
  refine r_iadd X eL_law_446 (nI (i + 1)) (addN rfl) ?_
  refine r_sld X hX ha hz eL_law_447 (by omega) hLn ?_
  refine r_aload_n X eL_law_448 rfl ?_
  refine r_iload_n X eL_law_449 rfl ?_
  refine r_iconst X eL_law_450 (nI 2) (by decide) ?_
  refine r_iadd X eL_law_451 (nI (i + 2)) (addN rfl) ?_
  refine r_sld X hX ha hz eL_law_452 (by omega) hLn ?_
  refine lc_60 X hc hs eL_law_453 (c_X6_cost _ G b 88 w1 (by decide) lw P n sg im kf hM1 hC.bits (xs (i + 1)) (xs (i + 2))) (by decide) (by decide) h1 rfl (Nat.le_of_ble_eq_true rfl) (fun r2 w2 hp => ?_)
  obtain ⟨rfl, hM2, u2⟩ := hp
  have hC2 := hC1.fr (fun j a1 => u2 j (Or.inl a1))
  refine r_icmp_eq (tgt := 728) X eL_law_456 (by decide) rfl rfl (fun _ => ?_) (fun c => absurd rfl c)
  exact K _ w2 hC2 hM2
set_option maxHeartbeats 4000000 in
set_option maxRecDepth 100000 in
theorem law_11 (X : CX κ G cL_law 4 RL cx 20) (hz : κ.2.1.1.heap.size = b) (hX : va_X a Ln xs κ.2.1.1 κ.2.1.1.heap) (ha : a < b) (hLn : Ln ≤ 2048) (hc : k ≤ κ.1.2.2.2.cells) (hs : sl ≤ κ.1.2.2.2.slots) (hi : i + 4 ≤ Ln) (hC : sysC G b w S) (hM : sysM G b w S) (K : ∀ (S2 : Sg) (w2 : Wd), sysC G b w2 S2 → sysM G b w2 S2 → V κ G b (88, k, sl) w2 728 [some (.ref a), some (.ref (b + 0)), some (.ref (b + 77)), some (.int (nI i))] []) : V κ G b (88, k, sl) w 461 [some (.ref a), some (.ref (b + 0)), some (.ref (b + 77)), some (.int (nI i))] [] := by
  obtain ⟨lw, P, n, sg, im, kf⟩ := S
  obtain ⟨fs0, h0⟩ := hC.cell
  refine r_aload_n X eL_law_461 rfl ?_
  refine r_aload_n X eL_law_462 rfl ?_
  refine r_iload_n X eL_law_463 rfl ?_
  refine r_iconst X eL_law_464 (nI 1) (by decide) ?_
  refine r_iadd X eL_law_465 (nI (i + 1)) (addN rfl) ?_
  refine r_sld X hX ha hz eL_law_466 (by omega) hLn ?_
  refine lc_61 X hc hs eL_law_467 (c_X5_cut _ G b 88 w (by decide) lw P n sg im kf hC (xs (i + 1))) (by decide) (by decide) h0 rfl (Nat.le_of_ble_eq_true rfl) (fun r1 w1 hp => ?_)
  obtain ⟨rfl, hC1, u1⟩ := hp
  have hM1 := hM.fr (fun j a1 a2 => u1 j a1)
  obtain ⟨fs1, h1⟩ := hM1.cell
  refine r_aload_n X eL_law_470 rfl ?_
  refine r_aload_n X eL_law_471 rfl ?_
  refine r_iload_n X eL_law_472 rfl ?_
  refine r_iconst X eL_law_473 (nI 1) (by decide) ?_
  refine r_iadd X eL_law_474 (nI (i + 1)) (addN rfl) ?_
  refine r_sld X hX ha hz eL_law_475 (by omega) hLn ?_
  refine lc_64 X hc hs eL_law_476 (c_X6_cut _ G b 88 w1 (by decide) lw P n sg im kf hM1 hC.bits (xs (i + 1))) (by decide) (by decide) h1 rfl (Nat.le_of_ble_eq_true rfl) (fun r2 w2 hp => ?_)
  obtain ⟨rfl, hM2, u2⟩ := hp
  have hC2 := hC1.fr (fun j a1 => u2 j (Or.inl a1))
  refine r_icmp_eq (tgt := 728) X eL_law_479 (by decide) rfl rfl (fun _ => ?_) (fun c => absurd rfl c)
  exact K _ w2 hC2 hM2
set_option maxHeartbeats 4000000 in
set_option maxRecDepth 100000 in
theorem law_12 (X : CX κ G cL_law 4 RL cx 20) (hz : κ.2.1.1.heap.size = b) (hX : va_X a Ln xs κ.2.1.1 κ.2.1.1.heap) (ha : a < b) (hLn : Ln ≤ 2048) (hc : k ≤ κ.1.2.2.2.cells) (hs : sl ≤ κ.1.2.2.2.slots) (hi : i + 4 ≤ Ln) (hC : sysC G b w S) (hM : sysM G b w S) (K : ∀ (S2 : Sg) (w2 : Wd), sysC G b w2 S2 → sysM G b w2 S2 → V κ G b (88, k, sl) w2 728 [some (.ref a), some (.ref (b + 0)), some (.ref (b + 77)), some (.int (nI i))] []) : V κ G b (88, k, sl) w 484 [some (.ref a), some (.ref (b + 0)), some (.ref (b + 77)), some (.int (nI i))] [] := by
  obtain ⟨lw, P, n, sg, im, kf⟩ := S
  obtain ⟨fs0, h0⟩ := hC.cell
  refine r_aload_n X eL_law_484 rfl ?_
  refine r_aload_n X eL_law_485 rfl ?_
  refine r_iload_n X eL_law_486 rfl ?_
  refine r_iconst X eL_law_487 (nI 1) (by decide) ?_
  refine r_iadd X eL_law_488 (nI (i + 1)) (addN rfl) ?_
  refine r_sld X hX ha hz eL_law_489 (by omega) hLn ?_
  refine lc_65 X hc hs eL_law_490 (c_X5_add _ G b 88 w (by decide) lw P n sg im kf hC (xs (i + 1))) (by decide) (by decide) h0 rfl (Nat.le_of_ble_eq_true rfl) (fun r1 w1 hp => ?_)
  obtain ⟨rfl, hC1, u1⟩ := hp
  have hM1 := hM.fr (fun j a1 a2 => u1 j a1)
  obtain ⟨fs1, h1⟩ := hM1.cell
  refine r_aload_n X eL_law_493 rfl ?_
  refine r_aload_n X eL_law_494 rfl ?_
  refine r_iload_n X eL_law_495 rfl ?_
  refine r_iconst X eL_law_496 (nI 1) (by decide) ?_
  refine r_iadd X eL_law_497 (nI (i + 1)) (addN rfl) ?_
  refine r_sld X hX ha hz eL_law_498 (by omega) hLn ?_
  refine lc_68 X hc hs eL_law_499 (c_X6_add _ G b 88 w1 (by decide) lw P n sg im kf hM1 hC.bits (xs (i + 1))) (by decide) (by decide) h1 rfl (Nat.le_of_ble_eq_true rfl) (fun r2 w2 hp => ?_)
  obtain ⟨rfl, hM2, u2⟩ := hp
  have hC2 := hC1.fr (fun j a1 => u2 j (Or.inl a1))
  refine r_icmp_eq (tgt := 728) X eL_law_502 (by decide) rfl rfl (fun _ => ?_) (fun c => absurd rfl c)
  exact K _ w2 hC2 hM2
set_option maxHeartbeats 4000000 in
set_option maxRecDepth 100000 in
theorem law_13 (X : CX κ G cL_law 4 RL cx 20) (hz : κ.2.1.1.heap.size = b) (hX : va_X a Ln xs κ.2.1.1 κ.2.1.1.heap) (ha : a < b) (hLn : Ln ≤ 2048) (hc : k ≤ κ.1.2.2.2.cells) (hs : sl ≤ κ.1.2.2.2.slots) (hi : i + 4 ≤ Ln) (hC : sysC G b w S) (hM : sysM G b w S) (K : ∀ (S2 : Sg) (w2 : Wd), sysC G b w2 S2 → sysM G b w2 S2 → V κ G b (88, k, sl) w2 728 [some (.ref a), some (.ref (b + 0)), some (.ref (b + 77)), some (.int (nI i))] []) : V κ G b (88, k, sl) w 507 [some (.ref a), some (.ref (b + 0)), some (.ref (b + 77)), some (.int (nI i))] [] := by
  obtain ⟨lw, P, n, sg, im, kf⟩ := S
  obtain ⟨fs0, h0⟩ := hC.cell
  refine r_aload_n X eL_law_507 rfl ?_
  refine r_aload_n X eL_law_508 rfl ?_
  refine r_iload_n X eL_law_509 rfl ?_
  refine r_iconst X eL_law_510 (nI 1) (by decide) ?_
  refine r_iadd X eL_law_511 (nI (i + 1)) (addN rfl) ?_
  refine r_sld X hX ha hz eL_law_512 (by omega) hLn ?_
  refine r_aload_n X eL_law_513 rfl ?_
  refine r_iload_n X eL_law_514 rfl ?_
  refine r_iconst X eL_law_515 (nI 2) (by decide) ?_
  refine r_iadd X eL_law_516 (nI (i + 2)) (addN rfl) ?_
  refine r_sld X hX ha hz eL_law_517 (by omega) hLn ?_
  refine lc_69 X hc hs eL_law_518 (c_X5_least _ G b 88 w (by decide) lw P n sg im kf hC (xs (i + 1)) (xs (i + 2))) (by decide) (by decide) h0 rfl (Nat.le_of_ble_eq_true rfl) (fun r1 w1 hp => ?_)
  obtain ⟨rfl, hC1, u1⟩ := hp
  have hM1 := hM.fr (fun j a1 a2 => u1 j a1)
  obtain ⟨fs1, h1⟩ := hM1.cell
  refine r_aload_n X eL_law_521 rfl ?_
  refine r_aload_n X eL_law_522 rfl ?_
  refine r_iload_n X eL_law_523 rfl ?_
  refine r_iconst X eL_law_524 (nI 1) (by decide) ?_
  refine r_iadd X eL_law_525 (nI (i + 1)) (addN rfl) ?_
  refine r_sld X hX ha hz eL_law_526 (by omega) hLn ?_
  refine r_aload_n X eL_law_527 rfl ?_
  refine r_iload_n X eL_law_528 rfl ?_
  refine r_iconst X eL_law_529 (nI 2) (by decide) ?_
  refine r_iadd X eL_law_530 (nI (i + 2)) (addN rfl) ?_
  refine r_sld X hX ha hz eL_law_531 (by omega) hLn ?_
  refine lc_72 X hc hs eL_law_532 (c_X6_least _ G b 88 w1 (by decide) lw P n sg im kf hM1 hC.bits (xs (i + 1)) (xs (i + 2))) (by decide) (by decide) h1 rfl (Nat.le_of_ble_eq_true rfl) (fun r2 w2 hp => ?_)
  obtain ⟨rfl, hM2, u2⟩ := hp
  have hC2 := hC1.fr (fun j a1 => u2 j (Or.inl a1))
  refine r_icmp_eq (tgt := 728) X eL_law_535 (by decide) rfl rfl (fun _ => ?_) (fun c => absurd rfl c)
  exact K _ w2 hC2 hM2
set_option maxHeartbeats 4000000 in
set_option maxRecDepth 100000 in
theorem law_14 (X : CX κ G cL_law 4 RL cx 20) (hz : κ.2.1.1.heap.size = b) (hX : va_X a Ln xs κ.2.1.1 κ.2.1.1.heap) (ha : a < b) (hLn : Ln ≤ 2048) (hc : k ≤ κ.1.2.2.2.cells) (hs : sl ≤ κ.1.2.2.2.slots) (hi : i + 4 ≤ Ln) (hC : sysC G b w S) (hM : sysM G b w S) (K : ∀ (S2 : Sg) (w2 : Wd), sysC G b w2 S2 → sysM G b w2 S2 → V κ G b (88, k, sl) w2 728 [some (.ref a), some (.ref (b + 0)), some (.ref (b + 77)), some (.int (nI i))] []) : V κ G b (88, k, sl) w 540 [some (.ref a), some (.ref (b + 0)), some (.ref (b + 77)), some (.int (nI i))] [] := by
  obtain ⟨lw, P, n, sg, im, kf⟩ := S
  obtain ⟨fs0, h0⟩ := hC.cell
  refine r_aload_n X eL_law_540 rfl ?_
  refine r_aload_n X eL_law_541 rfl ?_
  refine r_iload_n X eL_law_542 rfl ?_
  refine r_iconst X eL_law_543 (nI 1) (by decide) ?_
  refine r_iadd X eL_law_544 (nI (i + 1)) (addN rfl) ?_
  refine r_sld X hX ha hz eL_law_545 (by omega) hLn ?_
  refine r_aload_n X eL_law_546 rfl ?_
  refine r_iload_n X eL_law_547 rfl ?_
  refine r_iconst X eL_law_548 (nI 2) (by decide) ?_
  refine r_iadd X eL_law_549 (nI (i + 2)) (addN rfl) ?_
  refine r_sld X hX ha hz eL_law_550 (by omega) hLn ?_
  refine r_aload_n X eL_law_551 rfl ?_
  refine r_iload_n X eL_law_552 rfl ?_
  refine r_iconst X eL_law_553 (nI 3) (by decide) ?_
  refine r_iadd X eL_law_554 (nI (i + 3)) (addN rfl) ?_
  refine r_sld X hX ha hz eL_law_555 (by omega) hLn ?_
  refine lc_73 X hc hs eL_law_556 (c_X5_best _ G b 88 w (by decide) lw P n sg im kf hC (xs (i + 1)) (xs (i + 2)) (xs (i + 3))) (by decide) (by decide) h0 rfl (Nat.le_of_ble_eq_true rfl) (fun r1 w1 hp => ?_)
  obtain ⟨rfl, hC1, u1⟩ := hp
  have hM1 := hM.fr (fun j a1 a2 => u1 j a1)
  obtain ⟨fs1, h1⟩ := hM1.cell
  refine r_aload_n X eL_law_559 rfl ?_
  refine r_aload_n X eL_law_560 rfl ?_
  refine r_iload_n X eL_law_561 rfl ?_
  refine r_iconst X eL_law_562 (nI 1) (by decide) ?_
  refine r_iadd X eL_law_563 (nI (i + 1)) (addN rfl) ?_
  refine r_sld X hX ha hz eL_law_564 (by omega) hLn ?_
  refine r_aload_n X eL_law_565 rfl ?_
  refine r_iload_n X eL_law_566 rfl ?_
  refine r_iconst X eL_law_567 (nI 2) (by decide) ?_
  refine r_iadd X eL_law_568 (nI (i + 2)) (addN rfl) ?_
  refine r_sld X hX ha hz eL_law_569 (by omega) hLn ?_
  refine r_aload_n X eL_law_570 rfl ?_
  refine r_iload_n X eL_law_571 rfl ?_
  refine r_iconst X eL_law_572 (nI 3) (by decide) ?_
  refine r_iadd X eL_law_573 (nI (i + 3)) (addN rfl) ?_
  refine r_sld X hX ha hz eL_law_574 (by omega) hLn ?_
  refine lc_76 X hc hs eL_law_575 (c_X6_best _ G b 88 w1 (by decide) lw P n sg im kf hM1 hC.bits (xs (i + 1)) (xs (i + 2)) (xs (i + 3))) (by decide) (by decide) h1 rfl (Nat.le_of_ble_eq_true rfl) (fun r2 w2 hp => ?_)
  obtain ⟨rfl, hM2, u2⟩ := hp
  have hC2 := hC1.fr (fun j a1 => u2 j (Or.inl a1))
  refine r_icmp_eq (tgt := 728) X eL_law_578 (by decide) rfl rfl (fun _ => ?_) (fun c => absurd rfl c)
  exact K _ w2 hC2 hM2
set_option maxHeartbeats 4000000 in
set_option maxRecDepth 100000 in
theorem law_15 (X : CX κ G cL_law 4 RL cx 20) (hz : κ.2.1.1.heap.size = b) (hX : va_X a Ln xs κ.2.1.1 κ.2.1.1.heap) (ha : a < b) (hLn : Ln ≤ 2048) (hc : k ≤ κ.1.2.2.2.cells) (hs : sl ≤ κ.1.2.2.2.slots) (hi : i + 4 ≤ Ln) (hC : sysC G b w S) (hM : sysM G b w S) (K : ∀ (S2 : Sg) (w2 : Wd), sysC G b w2 S2 → sysM G b w2 S2 → V κ G b (88, k, sl) w2 728 [some (.ref a), some (.ref (b + 0)), some (.ref (b + 77)), some (.int (nI i))] []) : V κ G b (88, k, sl) w 583 [some (.ref a), some (.ref (b + 0)), some (.ref (b + 77)), some (.int (nI i))] [] := by
  obtain ⟨lw, P, n, sg, im, kf⟩ := S
  obtain ⟨fs0, h0⟩ := hC.cell
  refine r_aload_n X eL_law_583 rfl ?_
  refine r_aload_n X eL_law_584 rfl ?_
  refine r_iload_n X eL_law_585 rfl ?_
  refine r_iconst X eL_law_586 (nI 1) (by decide) ?_
  refine r_iadd X eL_law_587 (nI (i + 1)) (addN rfl) ?_
  refine r_sld X hX ha hz eL_law_588 (by omega) hLn ?_
  refine r_aload_n X eL_law_589 rfl ?_
  refine r_iload_n X eL_law_590 rfl ?_
  refine r_iconst X eL_law_591 (nI 2) (by decide) ?_
  refine r_iadd X eL_law_592 (nI (i + 2)) (addN rfl) ?_
  refine r_sld X hX ha hz eL_law_593 (by omega) hLn ?_
  refine r_aload_n X eL_law_594 rfl ?_
  refine r_iload_n X eL_law_595 rfl ?_
  refine r_iconst X eL_law_596 (nI 3) (by decide) ?_
  refine r_iadd X eL_law_597 (nI (i + 3)) (addN rfl) ?_
  refine r_sld X hX ha hz eL_law_598 (by omega) hLn ?_
  refine lc_77 X hc hs eL_law_599 (c_X5_table _ G b 88 w (by decide) lw P n sg im kf hC (xs (i + 1)) (xs (i + 2)) (xs (i + 3))) (by decide) (by decide) h0 rfl (Nat.le_of_ble_eq_true rfl) (fun r1 w1 hp => ?_)
  obtain ⟨rfl, hC1, u1⟩ := hp
  have hM1 := hM.fr (fun j a1 a2 => u1 j a1)
  obtain ⟨fs1, h1⟩ := hM1.cell
  refine r_aload_n X eL_law_602 rfl ?_
  refine r_aload_n X eL_law_603 rfl ?_
  refine r_iload_n X eL_law_604 rfl ?_
  refine r_iconst X eL_law_605 (nI 1) (by decide) ?_
  refine r_iadd X eL_law_606 (nI (i + 1)) (addN rfl) ?_
  refine r_sld X hX ha hz eL_law_607 (by omega) hLn ?_
  refine r_aload_n X eL_law_608 rfl ?_
  refine r_iload_n X eL_law_609 rfl ?_
  refine r_iconst X eL_law_610 (nI 2) (by decide) ?_
  refine r_iadd X eL_law_611 (nI (i + 2)) (addN rfl) ?_
  refine r_sld X hX ha hz eL_law_612 (by omega) hLn ?_
  refine r_aload_n X eL_law_613 rfl ?_
  refine r_iload_n X eL_law_614 rfl ?_
  refine r_iconst X eL_law_615 (nI 3) (by decide) ?_
  refine r_iadd X eL_law_616 (nI (i + 3)) (addN rfl) ?_
  refine r_sld X hX ha hz eL_law_617 (by omega) hLn ?_
  refine lc_80 X hc hs eL_law_618 (c_X6_table _ G b 88 w1 (by decide) lw P n sg im kf hM1 hC.bits (xs (i + 1)) (xs (i + 2)) (xs (i + 3))) (by decide) (by decide) h1 rfl (Nat.le_of_ble_eq_true rfl) (fun r2 w2 hp => ?_)
  obtain ⟨rfl, hM2, u2⟩ := hp
  have hC2 := hC1.fr (fun j a1 => u2 j (Or.inl a1))
  refine r_icmp_eq (tgt := 728) X eL_law_621 (by decide) rfl rfl (fun _ => ?_) (fun c => absurd rfl c)
  exact K _ w2 hC2 hM2
set_option maxHeartbeats 4000000 in
set_option maxRecDepth 100000 in
theorem law_16 (X : CX κ G cL_law 4 RL cx 20) (hz : κ.2.1.1.heap.size = b) (hX : va_X a Ln xs κ.2.1.1 κ.2.1.1.heap) (ha : a < b) (hLn : Ln ≤ 2048) (hc : k ≤ κ.1.2.2.2.cells) (hs : sl ≤ κ.1.2.2.2.slots) (hi : i + 4 ≤ Ln) (hC : sysC G b w S) (hM : sysM G b w S) (K : ∀ (S2 : Sg) (w2 : Wd), sysC G b w2 S2 → sysM G b w2 S2 → V κ G b (88, k, sl) w2 728 [some (.ref a), some (.ref (b + 0)), some (.ref (b + 77)), some (.int (nI i))] []) : V κ G b (88, k, sl) w 626 [some (.ref a), some (.ref (b + 0)), some (.ref (b + 77)), some (.int (nI i))] [] := by
  obtain ⟨lw, P, n, sg, im, kf⟩ := S
  obtain ⟨fs0, h0⟩ := hC.cell
  refine r_aload_n X eL_law_626 rfl ?_
  refine r_aload_n X eL_law_627 rfl ?_
  refine r_iload_n X eL_law_628 rfl ?_
  refine r_iconst X eL_law_629 (nI 1) (by decide) ?_
  refine r_iadd X eL_law_630 (nI (i + 1)) (addN rfl) ?_
  refine r_sld X hX ha hz eL_law_631 (by omega) hLn ?_
  refine r_aload_n X eL_law_632 rfl ?_
  refine r_iload_n X eL_law_633 rfl ?_
  refine r_iconst X eL_law_634 (nI 2) (by decide) ?_
  refine r_iadd X eL_law_635 (nI (i + 2)) (addN rfl) ?_
  refine r_sld X hX ha hz eL_law_636 (by omega) hLn ?_
  refine lc_81 X hc hs eL_law_637 (c_X5_go _ G b 88 w (by decide) lw P n sg im kf hC (xs (i + 1)) (xs (i + 2))) (by decide) (by decide) h0 rfl (Nat.le_of_ble_eq_true rfl) (fun r1 w1 hp => ?_)
  obtain ⟨rfl, hC1, u1⟩ := hp
  have hM1 := hM.fr (fun j a1 a2 => u1 j a1)
  obtain ⟨fs1, h1⟩ := hM1.cell
  refine r_aload_n X eL_law_640 rfl ?_
  refine r_aload_n X eL_law_641 rfl ?_
  refine r_iload_n X eL_law_642 rfl ?_
  refine r_iconst X eL_law_643 (nI 1) (by decide) ?_
  refine r_iadd X eL_law_644 (nI (i + 1)) (addN rfl) ?_
  refine r_sld X hX ha hz eL_law_645 (by omega) hLn ?_
  refine r_aload_n X eL_law_646 rfl ?_
  refine r_iload_n X eL_law_647 rfl ?_
  refine r_iconst X eL_law_648 (nI 2) (by decide) ?_
  refine r_iadd X eL_law_649 (nI (i + 2)) (addN rfl) ?_
  refine r_sld X hX ha hz eL_law_650 (by omega) hLn ?_
  refine lc_84 X hc hs eL_law_651 (c_X6_go _ G b 88 w1 (by decide) lw P n sg im kf hM1 hC.bits (xs (i + 1)) (xs (i + 2))) (by decide) (by decide) h1 rfl (Nat.le_of_ble_eq_true rfl) (fun r2 w2 hp => ?_)
  obtain ⟨rfl, hM2, u2⟩ := hp
  have hC2 := hC1.fr (fun j a1 => u2 j (Or.inl a1))
  refine r_icmp_eq (tgt := 728) X eL_law_654 (by decide) rfl rfl (fun _ => ?_) (fun c => absurd rfl c)
  exact K _ w2 hC2 hM2
set_option maxHeartbeats 4000000 in
set_option maxRecDepth 100000 in
theorem law_17 (X : CX κ G cL_law 4 RL cx 20) (hz : κ.2.1.1.heap.size = b) (hX : va_X a Ln xs κ.2.1.1 κ.2.1.1.heap) (ha : a < b) (hLn : Ln ≤ 2048) (hc : k ≤ κ.1.2.2.2.cells) (hs : sl ≤ κ.1.2.2.2.slots) (hi : i + 4 ≤ Ln) (hC : sysC G b w S) (hM : sysM G b w S) (K : ∀ (S2 : Sg) (w2 : Wd), sysC G b w2 S2 → sysM G b w2 S2 → V κ G b (88, k, sl) w2 728 [some (.ref a), some (.ref (b + 0)), some (.ref (b + 77)), some (.int (nI i))] []) : V κ G b (88, k, sl) w 659 [some (.ref a), some (.ref (b + 0)), some (.ref (b + 77)), some (.int (nI i))] [] := by
  obtain ⟨lw, P, n, sg, im, kf⟩ := S
  obtain ⟨fs0, h0⟩ := hC.cell
  refine r_aload_n X eL_law_659 rfl ?_
  refine r_aload_n X eL_law_660 rfl ?_
  refine r_iload_n X eL_law_661 rfl ?_
  refine r_iconst X eL_law_662 (nI 1) (by decide) ?_
  refine r_iadd X eL_law_663 (nI (i + 1)) (addN rfl) ?_
  refine r_sld X hX ha hz eL_law_664 (by omega) hLn ?_
  refine lc_85 X hc hs eL_law_665 (c_X5_image _ G b 88 w (by decide) lw P n sg im kf hC (xs (i + 1))) (by decide) (by decide) h0 rfl (Nat.le_of_ble_eq_true rfl) (fun r1 w1 hp => ?_)
  obtain ⟨rfl, hC1, u1⟩ := hp
  have hM1 := hM.fr (fun j a1 a2 => u1 j a1)
  obtain ⟨fs1, h1⟩ := hM1.cell
  refine r_aload_n X eL_law_668 rfl ?_
  refine r_aload_n X eL_law_669 rfl ?_
  refine r_iload_n X eL_law_670 rfl ?_
  refine r_iconst X eL_law_671 (nI 1) (by decide) ?_
  refine r_iadd X eL_law_672 (nI (i + 1)) (addN rfl) ?_
  refine r_sld X hX ha hz eL_law_673 (by omega) hLn ?_
  refine lc_88 X hc hs eL_law_674 (c_X6_image _ G b 88 w1 (by decide) lw P n sg im kf hM1 hC.bits (xs (i + 1))) (by decide) (by decide) h1 rfl (Nat.le_of_ble_eq_true rfl) (fun r2 w2 hp => ?_)
  obtain ⟨rfl, hM2, u2⟩ := hp
  have hC2 := hC1.fr (fun j a1 => u2 j (Or.inl a1))
  refine r_icmp_eq (tgt := 728) X eL_law_677 (by decide) rfl rfl (fun _ => ?_) (fun c => absurd rfl c)
  exact K _ w2 hC2 hM2
set_option maxHeartbeats 4000000 in
set_option maxRecDepth 100000 in
theorem law_18 (X : CX κ G cL_law 4 RL cx 20) (hz : κ.2.1.1.heap.size = b) (hX : va_X a Ln xs κ.2.1.1 κ.2.1.1.heap) (ha : a < b) (hLn : Ln ≤ 2048) (hc : k ≤ κ.1.2.2.2.cells) (hs : sl ≤ κ.1.2.2.2.slots) (hi : i + 4 ≤ Ln) (hC : sysC G b w S) (hM : sysM G b w S) (K : ∀ (S2 : Sg) (w2 : Wd), sysC G b w2 S2 → sysM G b w2 S2 → V κ G b (88, k, sl) w2 728 [some (.ref a), some (.ref (b + 0)), some (.ref (b + 77)), some (.int (nI i))] []) : V κ G b (88, k, sl) w 682 [some (.ref a), some (.ref (b + 0)), some (.ref (b + 77)), some (.int (nI i))] [] := by
  obtain ⟨lw, P, n, sg, im, kf⟩ := S
  obtain ⟨fs0, h0⟩ := hC.cell
  refine r_aload_n X eL_law_682 rfl ?_
  refine r_aload_n X eL_law_683 rfl ?_
  refine r_iload_n X eL_law_684 rfl ?_
  refine r_iconst X eL_law_685 (nI 1) (by decide) ?_
  refine r_iadd X eL_law_686 (nI (i + 1)) (addN rfl) ?_
  refine r_sld X hX ha hz eL_law_687 (by omega) hLn ?_
  refine lc_89 X hc hs eL_law_688 (c_X5_restore _ G b 88 w (by decide) lw P n sg im kf hC (xs (i + 1))) (by decide) (by decide) h0 rfl (Nat.le_of_ble_eq_true rfl) (fun r1 w1 hp => ?_)
  obtain ⟨rfl, hC1, u1⟩ := hp
  have hM1 := hM.fr (fun j a1 a2 => u1 j a1)
  obtain ⟨fs1, h1⟩ := hM1.cell
  refine r_aload_n X eL_law_691 rfl ?_
  refine r_aload_n X eL_law_692 rfl ?_
  refine r_iload_n X eL_law_693 rfl ?_
  refine r_iconst X eL_law_694 (nI 1) (by decide) ?_
  refine r_iadd X eL_law_695 (nI (i + 1)) (addN rfl) ?_
  refine r_sld X hX ha hz eL_law_696 (by omega) hLn ?_
  refine lc_92 X hc hs eL_law_697 (c_X6_restore _ G b 88 w1 (by decide) lw P n sg im kf hM1 hC.bits (xs (i + 1))) (by decide) (by decide) h1 rfl (Nat.le_of_ble_eq_true rfl) (fun r2 w2 hp => ?_)
  obtain ⟨rfl, hM2, u2⟩ := hp
  have hC2 := hC1.fr (fun j a1 => u2 j (Or.inl a1))
  refine r_icmp_eq (tgt := 728) X eL_law_700 (by decide) rfl rfl (fun _ => ?_) (fun c => absurd rfl c)
  exact K _ w2 hC2 hM2
set_option maxHeartbeats 4000000 in
set_option maxRecDepth 100000 in
theorem law_19 (X : CX κ G cL_law 4 RL cx 20) (hz : κ.2.1.1.heap.size = b) (hX : va_X a Ln xs κ.2.1.1 κ.2.1.1.heap) (ha : a < b) (hLn : Ln ≤ 2048) (hc : k ≤ κ.1.2.2.2.cells) (hs : sl ≤ κ.1.2.2.2.slots) (hi : i + 4 ≤ Ln) (hC : sysC G b w S) (hM : sysM G b w S) (K : ∀ (S2 : Sg) (w2 : Wd), sysC G b w2 S2 → sysM G b w2 S2 → V κ G b (88, k, sl) w2 728 [some (.ref a), some (.ref (b + 0)), some (.ref (b + 77)), some (.int (nI i))] []) : V κ G b (88, k, sl) w 705 [some (.ref a), some (.ref (b + 0)), some (.ref (b + 77)), some (.int (nI i))] [] := by
  obtain ⟨lw, P, n, sg, im, kf⟩ := S
  obtain ⟨fs0, h0⟩ := hC.cell
  refine r_aload_n X eL_law_705 rfl ?_
  refine r_aload_n X eL_law_706 rfl ?_
  refine r_iload_n X eL_law_707 rfl ?_
  refine r_iconst X eL_law_708 (nI 1) (by decide) ?_
  refine r_iadd X eL_law_709 (nI (i + 1)) (addN rfl) ?_
  refine r_sld X hX ha hz eL_law_710 (by omega) hLn ?_
  refine lc_93 X hc hs eL_law_711 (c_X5_count _ G b 88 w (by decide) lw P n sg im kf hC (xs (i + 1))) (by decide) (by decide) h0 rfl (Nat.le_of_ble_eq_true rfl) (fun r1 w1 hp => ?_)
  obtain ⟨rfl, hC1, u1⟩ := hp
  have hM1 := hM.fr (fun j a1 a2 => u1 j a1)
  obtain ⟨fs1, h1⟩ := hM1.cell
  refine r_aload_n X eL_law_714 rfl ?_
  refine r_aload_n X eL_law_715 rfl ?_
  refine r_iload_n X eL_law_716 rfl ?_
  refine r_iconst X eL_law_717 (nI 1) (by decide) ?_
  refine r_iadd X eL_law_718 (nI (i + 1)) (addN rfl) ?_
  refine r_sld X hX ha hz eL_law_719 (by omega) hLn ?_
  refine lc_96 X hc hs eL_law_720 (c_X6_count _ G b 88 w1 (by decide) lw P n sg im kf hM1 hC.bits (xs (i + 1))) (by decide) (by decide) h1 rfl (Nat.le_of_ble_eq_true rfl) (fun r2 w2 hp => ?_)
  obtain ⟨rfl, hM2, u2⟩ := hp
  have hC2 := hC1.fr (fun j a1 => u2 j (Or.inl a1))
  refine r_icmp_eq (tgt := 728) X eL_law_723 (by decide) rfl rfl (fun _ => ?_) (fun c => absurd rfl c)
  exact K _ w2 hC2 hM2
end CASES
