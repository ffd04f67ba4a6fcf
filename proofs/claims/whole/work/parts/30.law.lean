/-! the law -/
section LAW
variable {w : aW} {C : aIF} {S : aS} {mm t i : Nat} {Q : aQ}
set_option maxRecDepth 100000 in
set_option maxHeartbeats 4000000 in
theorem law_c0 (hL : aw_L w ≤ 3072) (hi : i + 6 ≤ aw_L w) (h : Inv C S mm t) (ht : t ≤ 512) (kk : ∀ (C2 : aIF) (S2 : aS) (m2 : Nat), Inv C2 S2 m2 (t + 1) → aRun w mL_law 721 [some (aO 0 0), some (aO 1 0), some (aO 40 0), some (aI (i : Int))] [] 0 105 (mem C2 S2) (rf m2) Q) : aRun w mL_law 124 [some (aO 0 0), some (aO 1 0), some (aO 40 0), some (aI (i : Int))] [] 0 105 (mem C S) (rf mm) Q := by
  refine aAload_n (pc' := 125) dL_law_124 rfl rfl ?_
  refine aAload_n (pc' := 126) dL_law_125 rfl rfl ?_
  refine aIload_n (pc' := 127) dL_law_126 rfl rfl ?_
  refine aIconst (pc' := 128) ⟨by decide, by decide⟩ dL_law_127 rfl ?_
  refine aIadd (pc' := 129) (by omega) (by omega) dL_law_128 rfl ?_
  refine aSld (pc' := 130) (j := i + 1) dL_law_129 (by omega) (by omega) rfl ?_
  refine aAload_n (pc' := 131) dL_law_130 rfl rfl ?_
  refine aIload_n (pc' := 132) dL_law_131 rfl rfl ?_
  refine aIconst (pc' := 133) ⟨by decide, by decide⟩ dL_law_132 rfl ?_
  refine aIadd (pc' := 134) (by omega) (by omega) dL_law_133 rfl ?_
  refine aSld (pc' := 135) (j := i + 2) dL_law_134 (by omega) (by omega) rfl ?_
  refine aAload_n (pc' := 136) dL_law_135 rfl rfl ?_
  refine aIload_n (pc' := 137) dL_law_136 rfl rfl ?_
  refine aIconst (pc' := 138) ⟨by decide, by decide⟩ dL_law_137 rfl ?_
  refine aIadd (pc' := 139) (by omega) (by omega) dL_law_138 rfl ?_
  refine aSld (pc' := 140) (j := i + 3) dL_law_139 (by omega) (by omega) rfl ?_
  refine aCallV (As := [aI (aw_xs w (i + 1)), aI (aw_xs w (i + 2)), aI (aw_xs w (i + 3))]) (rest := []) (k := 1) (i := 0) (c := 9) (pc' := 143) dL_law_140 lL_13 ⟨by decide, by decide⟩ npX9_row rfl (by decide) rfl (Nat.le_of_ble_eq_true rfl) (lv (by decide)) (by decide) (by decide +kernel) rfl ?_
  refine aMet_mono (opRow h) (fun r n I' R' q => ?_)
  obtain ⟨rfl, rfl, x, rfl, C2, rfl, q⟩ := q
  show aRun w mL_law 143 [some (aO 0 0), some (aO 1 0), some (aO 40 0), some (aI (i : Int))] [aI (x)] 0 105 (mem C2 S) (rf mm) Q
  refine aAload_n (pc' := 144) dL_law_143 rfl rfl ?_
  refine aAload_n (pc' := 145) dL_law_144 rfl rfl ?_
  refine aIload_n (pc' := 146) dL_law_145 rfl rfl ?_
  refine aIconst (pc' := 147) ⟨by decide, by decide⟩ dL_law_146 rfl ?_
  refine aIadd (pc' := 148) (by omega) (by omega) dL_law_147 rfl ?_
  refine aSld (pc' := 149) (j := i + 1) dL_law_148 (by omega) (by omega) rfl ?_
  refine aAload_n (pc' := 150) dL_law_149 rfl rfl ?_
  refine aIload_n (pc' := 151) dL_law_150 rfl rfl ?_
  refine aIconst (pc' := 152) ⟨by decide, by decide⟩ dL_law_151 rfl ?_
  refine aIadd (pc' := 153) (by omega) (by omega) dL_law_152 rfl ?_
  refine aSld (pc' := 154) (j := i + 2) dL_law_153 (by omega) (by omega) rfl ?_
  refine aAload_n (pc' := 155) dL_law_154 rfl rfl ?_
  refine aIload_n (pc' := 156) dL_law_155 rfl rfl ?_
  refine aIconst (pc' := 157) ⟨by decide, by decide⟩ dL_law_156 rfl ?_
  refine aIadd (pc' := 158) (by omega) (by omega) dL_law_157 rfl ?_
  refine aSld (pc' := 159) (j := i + 3) dL_law_158 (by omega) (by omega) rfl ?_
  refine aCallV (As := [aI (aw_xs w (i + 1)), aI (aw_xs w (i + 2)), aI (aw_xs w (i + 3))]) (rest := [aI (x)]) (k := 40) (i := 0) (c := 10) (pc' := 162) dL_law_159 lL_17 ⟨by decide, by decide⟩ npX10_row rfl (by decide) rfl (Nat.le_of_ble_eq_true rfl) (lv (by decide)) (by decide) (by decide +kernel) rfl ?_
  refine aMet_mono q (fun r n I' R' q => ?_)
  obtain ⟨rfl, rfl, y, rfl, S2, rfl, rfl, hv⟩ := q
  show aRun w mL_law 162 [some (aO 0 0), some (aO 1 0), some (aO 40 0), some (aI (i : Int))] [aI y, aI y] 0 105 (mem C2 S2) (rf mm) Q
  exact aIcmp_eq (tgt := 721) (pc' := 165) dL_law_162 (by decide) rfl (fun _ => kk _ _ _ hv) (fun z => absurd rfl z)
set_option maxRecDepth 100000 in
set_option maxHeartbeats 4000000 in
theorem law_c1 (hL : aw_L w ≤ 3072) (hi : i + 6 ≤ aw_L w) (h : Inv C S mm t) (ht : t ≤ 512) (kk : ∀ (C2 : aIF) (S2 : aS) (m2 : Nat), Inv C2 S2 m2 (t + 1) → aRun w mL_law 721 [some (aO 0 0), some (aO 1 0), some (aO 40 0), some (aI (i : Int))] [] 0 105 (mem C2 S2) (rf m2) Q) : aRun w mL_law 167 [some (aO 0 0), some (aO 1 0), some (aO 40 0), some (aI (i : Int))] [] 0 105 (mem C S) (rf mm) Q := by
  refine aAload_n (pc' := 168) dL_law_167 rfl rfl ?_
  refine aAload_n (pc' := 169) dL_law_168 rfl rfl ?_
  refine aIload_n (pc' := 170) dL_law_169 rfl rfl ?_
  refine aIconst (pc' := 171) ⟨by decide, by decide⟩ dL_law_170 rfl ?_
  refine aIadd (pc' := 172) (by omega) (by omega) dL_law_171 rfl ?_
  refine aSld (pc' := 173) (j := i + 1) dL_law_172 (by omega) (by omega) rfl ?_
  refine aCallV (As := [aI (aw_xs w (i + 1))]) (rest := []) (k := 1) (i := 0) (c := 9) (pc' := 176) dL_law_173 lL_18 ⟨by decide, by decide⟩ npX9_tear rfl (by decide) rfl (Nat.le_of_ble_eq_true rfl) (lv (by decide)) (by decide) (by decide +kernel) rfl ?_
  refine aMet_mono (opTear h) (fun r n I' R' q => ?_)
  obtain ⟨rfl, rfl, x, rfl, C2, rfl, q⟩ := q
  show aRun w mL_law 176 [some (aO 0 0), some (aO 1 0), some (aO 40 0), some (aI (i : Int))] [aI (x)] 0 105 (mem C2 S) (rf mm) Q
  refine aAload_n (pc' := 177) dL_law_176 rfl rfl ?_
  refine aAload_n (pc' := 178) dL_law_177 rfl rfl ?_
  refine aIload_n (pc' := 179) dL_law_178 rfl rfl ?_
  refine aIconst (pc' := 180) ⟨by decide, by decide⟩ dL_law_179 rfl ?_
  refine aIadd (pc' := 181) (by omega) (by omega) dL_law_180 rfl ?_
  refine aSld (pc' := 182) (j := i + 1) dL_law_181 (by omega) (by omega) rfl ?_
  refine aCallV (As := [aI (aw_xs w (i + 1))]) (rest := [aI (x)]) (k := 40) (i := 0) (c := 10) (pc' := 185) dL_law_182 lL_22 ⟨by decide, by decide⟩ npX10_tear rfl (by decide) rfl (Nat.le_of_ble_eq_true rfl) (lv (by decide)) (by decide) (by decide +kernel) rfl ?_
  refine aMet_mono q (fun r n I' R' q => ?_)
  obtain ⟨rfl, rfl, y, rfl, S2, rfl, rfl, hv⟩ := q
  show aRun w mL_law 185 [some (aO 0 0), some (aO 1 0), some (aO 40 0), some (aI (i : Int))] [aI y, aI y] 0 105 (mem C2 S2) (rf mm) Q
  exact aIcmp_eq (tgt := 721) (pc' := 188) dL_law_185 (by decide) rfl (fun _ => kk _ _ _ hv) (fun z => absurd rfl z)
set_option maxRecDepth 100000 in
set_option maxHeartbeats 4000000 in
theorem law_c2 (hL : aw_L w ≤ 3072) (hi : i + 6 ≤ aw_L w) (h : Inv C S mm t) (ht : t ≤ 512) (kk : ∀ (C2 : aIF) (S2 : aS) (m2 : Nat), Inv C2 S2 m2 (t + 1) → aRun w mL_law 721 [some (aO 0 0), some (aO 1 0), some (aO 40 0), some (aI (i : Int))] [] 0 105 (mem C2 S2) (rf m2) Q) : aRun w mL_law 190 [some (aO 0 0), some (aO 1 0), some (aO 40 0), some (aI (i : Int))] [] 0 105 (mem C S) (rf mm) Q := by
  refine aAload_n (pc' := 191) dL_law_190 rfl rfl ?_
  refine aAload_n (pc' := 192) dL_law_191 rfl rfl ?_
  refine aIload_n (pc' := 193) dL_law_192 rfl rfl ?_
  refine aIconst (pc' := 194) ⟨by decide, by decide⟩ dL_law_193 rfl ?_
  refine aIadd (pc' := 195) (by omega) (by omega) dL_law_194 rfl ?_
  refine aSld (pc' := 196) (j := i + 1) dL_law_195 (by omega) (by omega) rfl ?_
  refine aAload_n (pc' := 197) dL_law_196 rfl rfl ?_
  refine aIload_n (pc' := 198) dL_law_197 rfl rfl ?_
  refine aIconst (pc' := 199) ⟨by decide, by decide⟩ dL_law_198 rfl ?_
  refine aIadd (pc' := 200) (by omega) (by omega) dL_law_199 rfl ?_
  refine aSld (pc' := 201) (j := i + 2) dL_law_200 (by omega) (by omega) rfl ?_
  refine aAload_n (pc' := 202) dL_law_201 rfl rfl ?_
  refine aIload_n (pc' := 203) dL_law_202 rfl rfl ?_
  refine aIconst (pc' := 204) ⟨by decide, by decide⟩ dL_law_203 rfl ?_
  refine aIadd (pc' := 205) (by omega) (by omega) dL_law_204 rfl ?_
  refine aSld (pc' := 206) (j := i + 3) dL_law_205 (by omega) (by omega) rfl ?_
  refine aI2l (pc' := 207) dL_law_206 rfl ?_
  refine aBipush (pc' := 209) ⟨by decide, by decide⟩ dL_law_207 rfl ?_
  refine aLshl (pc' := 210) dL_law_209 rfl ?_
  refine aAload_n (pc' := 211) dL_law_210 rfl rfl ?_
  refine aIload_n (pc' := 212) dL_law_211 rfl rfl ?_
  refine aIconst (pc' := 213) ⟨by decide, by decide⟩ dL_law_212 rfl ?_
  refine aIadd (pc' := 214) (by omega) (by omega) dL_law_213 rfl ?_
  refine aSld (pc' := 215) (j := i + 4) dL_law_214 (by omega) (by omega) rfl ?_
  refine aI2l (pc' := 216) dL_law_215 rfl ?_
  refine aLdc2 (pc' := 219) qL_23 ⟨by decide, by decide⟩ dL_law_216 rfl ?_
  refine aLand (pc' := 220) dL_law_219 rfl ?_
  refine aLor (pc' := 221) dL_law_220 rfl ?_
  refine aCallV (As := [aI (aw_xs w (i + 1)), aI (aw_xs w (i + 2)), aL ((Int64.ofInt ((Int64.ofInt (aw_xs w (i + 3)) <<< ((Int32.ofInt 32).toInt64 &&& 63)).toInt) ||| Int64.ofInt ((Int64.ofInt (aw_xs w (i + 4)) &&& Int64.ofInt (4294967295)).toInt)).toInt)]) (rest := []) (k := 1) (i := 0) (c := 9) (pc' := 224) dL_law_221 lL_25 ⟨by decide, by decide⟩ npX9_write rfl (by decide) rfl (Nat.le_of_ble_eq_true rfl) (lv (by decide)) (by decide) (by decide +kernel) rfl ?_
  refine aMet_mono (opWrite h) (fun r n I' R' q => ?_)
  obtain ⟨rfl, rfl, x, rfl, C2, rfl, q⟩ := q
  show aRun w mL_law 224 [some (aO 0 0), some (aO 1 0), some (aO 40 0), some (aI (i : Int))] [aI (x)] 0 105 (mem C2 S) (rf mm) Q
  refine aAload_n (pc' := 225) dL_law_224 rfl rfl ?_
  refine aAload_n (pc' := 226) dL_law_225 rfl rfl ?_
  refine aIload_n (pc' := 227) dL_law_226 rfl rfl ?_
  refine aIconst (pc' := 228) ⟨by decide, by decide⟩ dL_law_227 rfl ?_
  refine aIadd (pc' := 229) (by omega) (by omega) dL_law_228 rfl ?_
  refine aSld (pc' := 230) (j := i + 1) dL_law_229 (by omega) (by omega) rfl ?_
  refine aAload_n (pc' := 231) dL_law_230 rfl rfl ?_
  refine aIload_n (pc' := 232) dL_law_231 rfl rfl ?_
  refine aIconst (pc' := 233) ⟨by decide, by decide⟩ dL_law_232 rfl ?_
  refine aIadd (pc' := 234) (by omega) (by omega) dL_law_233 rfl ?_
  refine aSld (pc' := 235) (j := i + 2) dL_law_234 (by omega) (by omega) rfl ?_
  refine aAload_n (pc' := 236) dL_law_235 rfl rfl ?_
  refine aIload_n (pc' := 237) dL_law_236 rfl rfl ?_
  refine aIconst (pc' := 238) ⟨by decide, by decide⟩ dL_law_237 rfl ?_
  refine aIadd (pc' := 239) (by omega) (by omega) dL_law_238 rfl ?_
  refine aSld (pc' := 240) (j := i + 3) dL_law_239 (by omega) (by omega) rfl ?_
  refine aI2l (pc' := 241) dL_law_240 rfl ?_
  refine aBipush (pc' := 243) ⟨by decide, by decide⟩ dL_law_241 rfl ?_
  refine aLshl (pc' := 244) dL_law_243 rfl ?_
  refine aAload_n (pc' := 245) dL_law_244 rfl rfl ?_
  refine aIload_n (pc' := 246) dL_law_245 rfl rfl ?_
  refine aIconst (pc' := 247) ⟨by decide, by decide⟩ dL_law_246 rfl ?_
  refine aIadd (pc' := 248) (by omega) (by omega) dL_law_247 rfl ?_
  refine aSld (pc' := 249) (j := i + 4) dL_law_248 (by omega) (by omega) rfl ?_
  refine aI2l (pc' := 250) dL_law_249 rfl ?_
  refine aLdc2 (pc' := 253) qL_23 ⟨by decide, by decide⟩ dL_law_250 rfl ?_
  refine aLand (pc' := 254) dL_law_253 rfl ?_
  refine aLor (pc' := 255) dL_law_254 rfl ?_
  refine aCallV (As := [aI (aw_xs w (i + 1)), aI (aw_xs w (i + 2)), aL ((Int64.ofInt ((Int64.ofInt (aw_xs w (i + 3)) <<< ((Int32.ofInt 32).toInt64 &&& 63)).toInt) ||| Int64.ofInt ((Int64.ofInt (aw_xs w (i + 4)) &&& Int64.ofInt (4294967295)).toInt)).toInt)]) (rest := [aI (x)]) (k := 40) (i := 0) (c := 10) (pc' := 258) dL_law_255 lL_29 ⟨by decide, by decide⟩ npX10_write rfl (by decide) rfl (Nat.le_of_ble_eq_true rfl) (lv (by decide)) (by decide) (by decide +kernel) rfl ?_
  refine aMet_mono q (fun r n I' R' q => ?_)
  obtain ⟨rfl, rfl, y, rfl, S2, rfl, rfl, hv⟩ := q
  show aRun w mL_law 258 [some (aO 0 0), some (aO 1 0), some (aO 40 0), some (aI (i : Int))] [aI y, aI y] 0 105 (mem C2 S2) (rf mm) Q
  exact aIcmp_eq (tgt := 721) (pc' := 261) dL_law_258 (by decide) rfl (fun _ => kk _ _ _ hv) (fun z => absurd rfl z)
set_option maxRecDepth 100000 in
set_option maxHeartbeats 4000000 in
theorem law_c3 (hL : aw_L w ≤ 3072) (hi : i + 6 ≤ aw_L w) (h : Inv C S mm t) (ht : t ≤ 512) (kk : ∀ (C2 : aIF) (S2 : aS) (m2 : Nat), Inv C2 S2 m2 (t + 1) → aRun w mL_law 721 [some (aO 0 0), some (aO 1 0), some (aO 40 0), some (aI (i : Int))] [] 0 105 (mem C2 S2) (rf m2) Q) : aRun w mL_law 263 [some (aO 0 0), some (aO 1 0), some (aO 40 0), some (aI (i : Int))] [] 0 105 (mem C S) (rf mm) Q := by
  refine aAload_n (pc' := 264) dL_law_263 rfl rfl ?_
  refine aAload_n (pc' := 265) dL_law_264 rfl rfl ?_
  refine aIload_n (pc' := 266) dL_law_265 rfl rfl ?_
  refine aIconst (pc' := 267) ⟨by decide, by decide⟩ dL_law_266 rfl ?_
  refine aIadd (pc' := 268) (by omega) (by omega) dL_law_267 rfl ?_
  refine aSld (pc' := 269) (j := i + 1) dL_law_268 (by omega) (by omega) rfl ?_
  refine aAload_n (pc' := 270) dL_law_269 rfl rfl ?_
  refine aIload_n (pc' := 271) dL_law_270 rfl rfl ?_
  refine aIconst (pc' := 272) ⟨by decide, by decide⟩ dL_law_271 rfl ?_
  refine aIadd (pc' := 273) (by omega) (by omega) dL_law_272 rfl ?_
  refine aSld (pc' := 274) (j := i + 2) dL_law_273 (by omega) (by omega) rfl ?_
  refine aTopI (fun hx2 => ?_)
  refine aAload_n (pc' := 275) dL_law_274 rfl rfl ?_
  refine aIload_n (pc' := 276) dL_law_275 rfl rfl ?_
  refine aIconst (pc' := 277) ⟨by decide, by decide⟩ dL_law_276 rfl ?_
  refine aIadd (pc' := 278) (by omega) (by omega) dL_law_277 rfl ?_
  refine aSld (pc' := 279) (j := i + 3) dL_law_278 (by omega) (by omega) rfl ?_
  refine aAload_n (pc' := 280) dL_law_279 rfl rfl ?_
  refine aIload_n (pc' := 281) dL_law_280 rfl rfl ?_
  refine aIconst (pc' := 282) ⟨by decide, by decide⟩ dL_law_281 rfl ?_
  refine aIadd (pc' := 283) (by omega) (by omega) dL_law_282 rfl ?_
  refine aSld (pc' := 284) (j := i + 4) dL_law_283 (by omega) (by omega) rfl ?_
  refine aTopI (fun hx4 => ?_)
  refine aAload_n (pc' := 285) dL_law_284 rfl rfl ?_
  refine aIload_n (pc' := 286) dL_law_285 rfl rfl ?_
  refine aIconst (pc' := 287) ⟨by decide, by decide⟩ dL_law_286 rfl ?_
  refine aIadd (pc' := 288) (by omega) (by omega) dL_law_287 rfl ?_
  refine aSld (pc' := 289) (j := i + 5) dL_law_288 (by omega) (by omega) rfl ?_
  refine aTopI (fun hx5 => ?_)
  refine aCallV (As := [aI (aw_xs w (i + 1)), aI (aw_xs w (i + 2)), aI (aw_xs w (i + 3)), aI (aw_xs w (i + 4)), aI (aw_xs w (i + 5))]) (rest := []) (k := 1) (i := 0) (c := 9) (pc' := 292) dL_law_289 lL_30 ⟨by decide, by decide⟩ npX9_paste rfl (by decide) rfl (Nat.le_of_ble_eq_true rfl) (lv (by decide)) (by decide) (by decide +kernel) rfl ?_
  refine aMet_mono (opPaste h hx2 hx4 hx5) (fun r n I' R' q => ?_)
  obtain ⟨rfl, rfl, x, rfl, C2, rfl, q⟩ := q
  show aRun w mL_law 292 [some (aO 0 0), some (aO 1 0), some (aO 40 0), some (aI (i : Int))] [aI (x)] 0 105 (mem C2 S) (rf mm) Q
  refine aAload_n (pc' := 293) dL_law_292 rfl rfl ?_
  refine aAload_n (pc' := 294) dL_law_293 rfl rfl ?_
  refine aIload_n (pc' := 295) dL_law_294 rfl rfl ?_
  refine aIconst (pc' := 296) ⟨by decide, by decide⟩ dL_law_295 rfl ?_
  refine aIadd (pc' := 297) (by omega) (by omega) dL_law_296 rfl ?_
  refine aSld (pc' := 298) (j := i + 1) dL_law_297 (by omega) (by omega) rfl ?_
  refine aAload_n (pc' := 299) dL_law_298 rfl rfl ?_
  refine aIload_n (pc' := 300) dL_law_299 rfl rfl ?_
  refine aIconst (pc' := 301) ⟨by decide, by decide⟩ dL_law_300 rfl ?_
  refine aIadd (pc' := 302) (by omega) (by omega) dL_law_301 rfl ?_
  refine aSld (pc' := 303) (j := i + 2) dL_law_302 (by omega) (by omega) rfl ?_
  refine aAload_n (pc' := 304) dL_law_303 rfl rfl ?_
  refine aIload_n (pc' := 305) dL_law_304 rfl rfl ?_
  refine aIconst (pc' := 306) ⟨by decide, by decide⟩ dL_law_305 rfl ?_
  refine aIadd (pc' := 307) (by omega) (by omega) dL_law_306 rfl ?_
  refine aSld (pc' := 308) (j := i + 3) dL_law_307 (by omega) (by omega) rfl ?_
  refine aAload_n (pc' := 309) dL_law_308 rfl rfl ?_
  refine aIload_n (pc' := 310) dL_law_309 rfl rfl ?_
  refine aIconst (pc' := 311) ⟨by decide, by decide⟩ dL_law_310 rfl ?_
  refine aIadd (pc' := 312) (by omega) (by omega) dL_law_311 rfl ?_
  refine aSld (pc' := 313) (j := i + 4) dL_law_312 (by omega) (by omega) rfl ?_
  refine aAload_n (pc' := 314) dL_law_313 rfl rfl ?_
  refine aIload_n (pc' := 315) dL_law_314 rfl rfl ?_
  refine aIconst (pc' := 316) ⟨by decide, by decide⟩ dL_law_315 rfl ?_
  refine aIadd (pc' := 317) (by omega) (by omega) dL_law_316 rfl ?_
  refine aSld (pc' := 318) (j := i + 5) dL_law_317 (by omega) (by omega) rfl ?_
  refine aCallV (As := [aI (aw_xs w (i + 1)), aI (aw_xs w (i + 2)), aI (aw_xs w (i + 3)), aI (aw_xs w (i + 4)), aI (aw_xs w (i + 5))]) (rest := [aI (x)]) (k := 40) (i := 0) (c := 10) (pc' := 321) dL_law_318 lL_34 ⟨by decide, by decide⟩ npX10_paste rfl (by decide) rfl (Nat.le_of_ble_eq_true rfl) (lv (by decide)) (by decide) (by decide +kernel) rfl ?_
  refine aMet_mono q (fun r n I' R' q => ?_)
  obtain ⟨rfl, rfl, y, rfl, S2, rfl, rfl, hv⟩ := q
  show aRun w mL_law 321 [some (aO 0 0), some (aO 1 0), some (aO 40 0), some (aI (i : Int))] [aI y, aI y] 0 105 (mem C2 S2) (rf mm) Q
  exact aIcmp_eq (tgt := 721) (pc' := 324) dL_law_321 (by decide) rfl (fun _ => kk _ _ _ hv) (fun z => absurd rfl z)
set_option maxRecDepth 100000 in
set_option maxHeartbeats 4000000 in
theorem law_c4 (hL : aw_L w ≤ 3072) (hi : i + 6 ≤ aw_L w) (h : Inv C S mm t) (ht : t ≤ 512) (kk : ∀ (C2 : aIF) (S2 : aS) (m2 : Nat), Inv C2 S2 m2 (t + 1) → aRun w mL_law 721 [some (aO 0 0), some (aO 1 0), some (aO 40 0), some (aI (i : Int))] [] 0 105 (mem C2 S2) (rf m2) Q) : aRun w mL_law 326 [some (aO 0 0), some (aO 1 0), some (aO 40 0), some (aI (i : Int))] [] 0 105 (mem C S) (rf mm) Q := by
  refine aAload_n (pc' := 327) dL_law_326 rfl rfl ?_
  refine aAload_n (pc' := 328) dL_law_327 rfl rfl ?_
  refine aIload_n (pc' := 329) dL_law_328 rfl rfl ?_
  refine aIconst (pc' := 330) ⟨by decide, by decide⟩ dL_law_329 rfl ?_
  refine aIadd (pc' := 331) (by omega) (by omega) dL_law_330 rfl ?_
  refine aSld (pc' := 332) (j := i + 1) dL_law_331 (by omega) (by omega) rfl ?_
  refine aAload_n (pc' := 333) dL_law_332 rfl rfl ?_
  refine aIload_n (pc' := 334) dL_law_333 rfl rfl ?_
  refine aIconst (pc' := 335) ⟨by decide, by decide⟩ dL_law_334 rfl ?_
  refine aIadd (pc' := 336) (by omega) (by omega) dL_law_335 rfl ?_
  refine aSld (pc' := 337) (j := i + 2) dL_law_336 (by omega) (by omega) rfl ?_
  refine aAload_n (pc' := 338) dL_law_337 rfl rfl ?_
  refine aIload_n (pc' := 339) dL_law_338 rfl rfl ?_
  refine aIconst (pc' := 340) ⟨by decide, by decide⟩ dL_law_339 rfl ?_
  refine aIadd (pc' := 341) (by omega) (by omega) dL_law_340 rfl ?_
  refine aSld (pc' := 342) (j := i + 3) dL_law_341 (by omega) (by omega) rfl ?_
  refine aAload_n (pc' := 343) dL_law_342 rfl rfl ?_
  refine aIload_n (pc' := 344) dL_law_343 rfl rfl ?_
  refine aIconst (pc' := 345) ⟨by decide, by decide⟩ dL_law_344 rfl ?_
  refine aIadd (pc' := 346) (by omega) (by omega) dL_law_345 rfl ?_
  refine aSld (pc' := 347) (j := i + 4) dL_law_346 (by omega) (by omega) rfl ?_
  refine aAload_n (pc' := 348) dL_law_347 rfl rfl ?_
  refine aIload_n (pc' := 349) dL_law_348 rfl rfl ?_
  refine aIconst (pc' := 350) ⟨by decide, by decide⟩ dL_law_349 rfl ?_
  refine aIadd (pc' := 351) (by omega) (by omega) dL_law_350 rfl ?_
  refine aSld (pc' := 352) (j := i + 5) dL_law_351 (by omega) (by omega) rfl ?_
  refine aCallV (As := [aI (aw_xs w (i + 1)), aI (aw_xs w (i + 2)), aI (aw_xs w (i + 3)), aI (aw_xs w (i + 4)), aI (aw_xs w (i + 5))]) (rest := []) (k := 1) (i := 0) (c := 9) (pc' := 355) dL_law_352 lL_35 ⟨by decide, by decide⟩ npX9_terms rfl (by decide) rfl (Nat.le_of_ble_eq_true rfl) (lv (by decide)) (by decide) (by decide +kernel) rfl ?_
  refine aMet_mono (opTerms h) (fun r n I' R' q => ?_)
  obtain ⟨rfl, rfl, x, rfl, C2, rfl, q⟩ := q
  show aRun w mL_law 355 [some (aO 0 0), some (aO 1 0), some (aO 40 0), some (aI (i : Int))] [aI (x)] 0 105 (mem C2 S) (rf mm) Q
  refine aAload_n (pc' := 356) dL_law_355 rfl rfl ?_
  refine aAload_n (pc' := 357) dL_law_356 rfl rfl ?_
  refine aIload_n (pc' := 358) dL_law_357 rfl rfl ?_
  refine aIconst (pc' := 359) ⟨by decide, by decide⟩ dL_law_358 rfl ?_
  refine aIadd (pc' := 360) (by omega) (by omega) dL_law_359 rfl ?_
  refine aSld (pc' := 361) (j := i + 1) dL_law_360 (by omega) (by omega) rfl ?_
  refine aAload_n (pc' := 362) dL_law_361 rfl rfl ?_
  refine aIload_n (pc' := 363) dL_law_362 rfl rfl ?_
  refine aIconst (pc' := 364) ⟨by decide, by decide⟩ dL_law_363 rfl ?_
  refine aIadd (pc' := 365) (by omega) (by omega) dL_law_364 rfl ?_
  refine aSld (pc' := 366) (j := i + 2) dL_law_365 (by omega) (by omega) rfl ?_
  refine aAload_n (pc' := 367) dL_law_366 rfl rfl ?_
  refine aIload_n (pc' := 368) dL_law_367 rfl rfl ?_
  refine aIconst (pc' := 369) ⟨by decide, by decide⟩ dL_law_368 rfl ?_
  refine aIadd (pc' := 370) (by omega) (by omega) dL_law_369 rfl ?_
  refine aSld (pc' := 371) (j := i + 3) dL_law_370 (by omega) (by omega) rfl ?_
  refine aAload_n (pc' := 372) dL_law_371 rfl rfl ?_
  refine aIload_n (pc' := 373) dL_law_372 rfl rfl ?_
  refine aIconst (pc' := 374) ⟨by decide, by decide⟩ dL_law_373 rfl ?_
  refine aIadd (pc' := 375) (by omega) (by omega) dL_law_374 rfl ?_
  refine aSld (pc' := 376) (j := i + 4) dL_law_375 (by omega) (by omega) rfl ?_
  refine aAload_n (pc' := 377) dL_law_376 rfl rfl ?_
  refine aIload_n (pc' := 378) dL_law_377 rfl rfl ?_
  refine aIconst (pc' := 379) ⟨by decide, by decide⟩ dL_law_378 rfl ?_
  refine aIadd (pc' := 380) (by omega) (by omega) dL_law_379 rfl ?_
  refine aSld (pc' := 381) (j := i + 5) dL_law_380 (by omega) (by omega) rfl ?_
  refine aCallV (As := [aI (aw_xs w (i + 1)), aI (aw_xs w (i + 2)), aI (aw_xs w (i + 3)), aI (aw_xs w (i + 4)), aI (aw_xs w (i + 5))]) (rest := [aI (x)]) (k := 40) (i := 0) (c := 10) (pc' := 384) dL_law_381 lL_38 ⟨by decide, by decide⟩ npX10_terms rfl (by decide) rfl (Nat.le_of_ble_eq_true rfl) (lv (by decide)) (by decide) (by decide +kernel) rfl ?_
  refine aMet_mono q (fun r n I' R' q => ?_)
  obtain ⟨rfl, rfl, y, rfl, S2, rfl, rfl, hv⟩ := q
  show aRun w mL_law 384 [some (aO 0 0), some (aO 1 0), some (aO 40 0), some (aI (i : Int))] [aI y, aI y] 0 105 (mem C2 S2) (rf mm) Q
  exact aIcmp_eq (tgt := 721) (pc' := 387) dL_law_384 (by decide) rfl (fun _ => kk _ _ _ hv) (fun z => absurd rfl z)
set_option maxRecDepth 100000 in
set_option maxHeartbeats 4000000 in
theorem law_c5 (hL : aw_L w ≤ 3072) (hi : i + 6 ≤ aw_L w) (h : Inv C S mm t) (ht : t ≤ 512) (kk : ∀ (C2 : aIF) (S2 : aS) (m2 : Nat), Inv C2 S2 m2 (t + 1) → aRun w mL_law 721 [some (aO 0 0), some (aO 1 0), some (aO 40 0), some (aI (i : Int))] [] 0 105 (mem C2 S2) (rf m2) Q) : aRun w mL_law 389 [some (aO 0 0), some (aO 1 0), some (aO 40 0), some (aI (i : Int))] [] 0 105 (mem C S) (rf mm) Q := by
  refine aAload_n (pc' := 390) dL_law_389 rfl rfl ?_
  refine aAload_n (pc' := 391) dL_law_390 rfl rfl ?_
  refine aIload_n (pc' := 392) dL_law_391 rfl rfl ?_
  refine aIconst (pc' := 393) ⟨by decide, by decide⟩ dL_law_392 rfl ?_
  refine aIadd (pc' := 394) (by omega) (by omega) dL_law_393 rfl ?_
  refine aSld (pc' := 395) (j := i + 1) dL_law_394 (by omega) (by omega) rfl ?_
  refine aAload_n (pc' := 396) dL_law_395 rfl rfl ?_
  refine aIload_n (pc' := 397) dL_law_396 rfl rfl ?_
  refine aIconst (pc' := 398) ⟨by decide, by decide⟩ dL_law_397 rfl ?_
  refine aIadd (pc' := 399) (by omega) (by omega) dL_law_398 rfl ?_
  refine aSld (pc' := 400) (j := i + 2) dL_law_399 (by omega) (by omega) rfl ?_
  refine aAload_n (pc' := 401) dL_law_400 rfl rfl ?_
  refine aIload_n (pc' := 402) dL_law_401 rfl rfl ?_
  refine aIconst (pc' := 403) ⟨by decide, by decide⟩ dL_law_402 rfl ?_
  refine aIadd (pc' := 404) (by omega) (by omega) dL_law_403 rfl ?_
  refine aSld (pc' := 405) (j := i + 3) dL_law_404 (by omega) (by omega) rfl ?_
  refine aAload_n (pc' := 406) dL_law_405 rfl rfl ?_
  refine aIload_n (pc' := 407) dL_law_406 rfl rfl ?_
  refine aIconst (pc' := 408) ⟨by decide, by decide⟩ dL_law_407 rfl ?_
  refine aIadd (pc' := 409) (by omega) (by omega) dL_law_408 rfl ?_
  refine aSld (pc' := 410) (j := i + 4) dL_law_409 (by omega) (by omega) rfl ?_
  refine aCallV (As := [aI (aw_xs w (i + 1)), aI (aw_xs w (i + 2)), aI (aw_xs w (i + 3)), aI (aw_xs w (i + 4))]) (rest := []) (k := 1) (i := 0) (c := 9) (pc' := 413) dL_law_410 lL_39 ⟨by decide, by decide⟩ npX9_program rfl (by decide) rfl (Nat.le_of_ble_eq_true rfl) (lv (by decide)) (by decide) (by decide +kernel) rfl ?_
  refine aMet_mono (opProgram h) (fun r n I' R' q => ?_)
  obtain ⟨rfl, rfl, x, rfl, C2, rfl, q⟩ := q
  show aRun w mL_law 413 [some (aO 0 0), some (aO 1 0), some (aO 40 0), some (aI (i : Int))] [aI (x)] 0 105 (mem C2 S) (rf mm) Q
  refine aAload_n (pc' := 414) dL_law_413 rfl rfl ?_
  refine aAload_n (pc' := 415) dL_law_414 rfl rfl ?_
  refine aIload_n (pc' := 416) dL_law_415 rfl rfl ?_
  refine aIconst (pc' := 417) ⟨by decide, by decide⟩ dL_law_416 rfl ?_
  refine aIadd (pc' := 418) (by omega) (by omega) dL_law_417 rfl ?_
  refine aSld (pc' := 419) (j := i + 1) dL_law_418 (by omega) (by omega) rfl ?_
  refine aAload_n (pc' := 420) dL_law_419 rfl rfl ?_
  refine aIload_n (pc' := 421) dL_law_420 rfl rfl ?_
  refine aIconst (pc' := 422) ⟨by decide, by decide⟩ dL_law_421 rfl ?_
  refine aIadd (pc' := 423) (by omega) (by omega) dL_law_422 rfl ?_
  refine aSld (pc' := 424) (j := i + 2) dL_law_423 (by omega) (by omega) rfl ?_
  refine aAload_n (pc' := 425) dL_law_424 rfl rfl ?_
  refine aIload_n (pc' := 426) dL_law_425 rfl rfl ?_
  refine aIconst (pc' := 427) ⟨by decide, by decide⟩ dL_law_426 rfl ?_
  refine aIadd (pc' := 428) (by omega) (by omega) dL_law_427 rfl ?_
  refine aSld (pc' := 429) (j := i + 3) dL_law_428 (by omega) (by omega) rfl ?_
  refine aAload_n (pc' := 430) dL_law_429 rfl rfl ?_
  refine aIload_n (pc' := 431) dL_law_430 rfl rfl ?_
  refine aIconst (pc' := 432) ⟨by decide, by decide⟩ dL_law_431 rfl ?_
  refine aIadd (pc' := 433) (by omega) (by omega) dL_law_432 rfl ?_
  refine aSld (pc' := 434) (j := i + 4) dL_law_433 (by omega) (by omega) rfl ?_
  refine aCallV (As := [aI (aw_xs w (i + 1)), aI (aw_xs w (i + 2)), aI (aw_xs w (i + 3)), aI (aw_xs w (i + 4))]) (rest := [aI (x)]) (k := 40) (i := 0) (c := 10) (pc' := 437) dL_law_434 lL_43 ⟨by decide, by decide⟩ npX10_program rfl (by decide) rfl (Nat.le_of_ble_eq_true rfl) (lv (by decide)) (by decide) (by decide +kernel) rfl ?_
  refine aMet_mono q (fun r n I' R' q => ?_)
  obtain ⟨rfl, rfl, y, rfl, S2, rfl, rfl, hv⟩ := q
  show aRun w mL_law 437 [some (aO 0 0), some (aO 1 0), some (aO 40 0), some (aI (i : Int))] [aI y, aI y] 0 105 (mem C2 S2) (rf mm) Q
  exact aIcmp_eq (tgt := 721) (pc' := 440) dL_law_437 (by decide) rfl (fun _ => kk _ _ _ hv) (fun z => absurd rfl z)
set_option maxRecDepth 100000 in
set_option maxHeartbeats 4000000 in
theorem law_c6 (hL : aw_L w ≤ 3072) (hi : i + 6 ≤ aw_L w) (h : Inv C S mm t) (ht : t ≤ 512) (kk : ∀ (C2 : aIF) (S2 : aS) (m2 : Nat), Inv C2 S2 m2 (t + 1) → aRun w mL_law 721 [some (aO 0 0), some (aO 1 0), some (aO 40 0), some (aI (i : Int))] [] 0 105 (mem C2 S2) (rf m2) Q) : aRun w mL_law 442 [some (aO 0 0), some (aO 1 0), some (aO 40 0), some (aI (i : Int))] [] 0 105 (mem C S) (rf mm) Q := by
  refine aAload_n (pc' := 443) dL_law_442 rfl rfl ?_
  refine aCallV (As := []) (rest := []) (k := 1) (i := 0) (c := 9) (pc' := 446) dL_law_443 lL_44 ⟨by decide, by decide⟩ npX9_clear rfl (by decide) rfl (Nat.le_of_ble_eq_true rfl) (lv (by decide)) (by decide) (by decide +kernel) rfl ?_
  refine aMet_mono (opClear h) (fun r n I' R' q => ?_)
  obtain ⟨rfl, rfl, x, rfl, C2, rfl, q⟩ := q
  show aRun w mL_law 446 [some (aO 0 0), some (aO 1 0), some (aO 40 0), some (aI (i : Int))] [aI (x)] 0 105 (mem C2 S) (rf mm) Q
  refine aAload_n (pc' := 447) dL_law_446 rfl rfl ?_
  refine aCallV (As := []) (rest := [aI (x)]) (k := 40) (i := 0) (c := 10) (pc' := 450) dL_law_447 lL_48 ⟨by decide, by decide⟩ npX10_clear rfl (by decide) rfl (Nat.le_of_ble_eq_true rfl) (lv (by decide)) (by decide) (by decide +kernel) rfl ?_
  refine aMet_mono q (fun r n I' R' q => ?_)
  obtain ⟨rfl, rfl, y, rfl, S2, rfl, rfl, hv⟩ := q
  show aRun w mL_law 450 [some (aO 0 0), some (aO 1 0), some (aO 40 0), some (aI (i : Int))] [aI y, aI y] 0 105 (mem C2 S2) (rf mm) Q
  exact aIcmp_eq (tgt := 721) (pc' := 453) dL_law_450 (by decide) rfl (fun _ => kk _ _ _ hv) (fun z => absurd rfl z)
set_option maxRecDepth 100000 in
set_option maxHeartbeats 4000000 in
theorem law_c7 (hL : aw_L w ≤ 3072) (hi : i + 6 ≤ aw_L w) (h : Inv C S mm t) (ht : t ≤ 512) (kk : ∀ (C2 : aIF) (S2 : aS) (m2 : Nat), Inv C2 S2 m2 (t + 1) → aRun w mL_law 721 [some (aO 0 0), some (aO 1 0), some (aO 40 0), some (aI (i : Int))] [] 0 105 (mem C2 S2) (rf m2) Q) : aRun w mL_law 455 [some (aO 0 0), some (aO 1 0), some (aO 40 0), some (aI (i : Int))] [] 0 105 (mem C S) (rf mm) Q := by
  refine aAload_n (pc' := 456) dL_law_455 rfl rfl ?_
  refine aAload_n (pc' := 457) dL_law_456 rfl rfl ?_
  refine aIload_n (pc' := 458) dL_law_457 rfl rfl ?_
  refine aIconst (pc' := 459) ⟨by decide, by decide⟩ dL_law_458 rfl ?_
  refine aIadd (pc' := 460) (by omega) (by omega) dL_law_459 rfl ?_
  refine aSld (pc' := 461) (j := i + 1) dL_law_460 (by omega) (by omega) rfl ?_
  refine aAload_n (pc' := 462) dL_law_461 rfl rfl ?_
  refine aIload_n (pc' := 463) dL_law_462 rfl rfl ?_
  refine aIconst (pc' := 464) ⟨by decide, by decide⟩ dL_law_463 rfl ?_
  refine aIadd (pc' := 465) (by omega) (by omega) dL_law_464 rfl ?_
  refine aSld (pc' := 466) (j := i + 2) dL_law_465 (by omega) (by omega) rfl ?_
  refine aCallV (As := [aI (aw_xs w (i + 1)), aI (aw_xs w (i + 2))]) (rest := []) (k := 1) (i := 0) (c := 9) (pc' := 469) dL_law_466 lL_49 ⟨by decide, by decide⟩ npX9_time rfl (by decide) rfl (Nat.le_of_ble_eq_true rfl) (lv (by decide)) (by decide) (by decide +kernel) rfl ?_
  refine aMet_mono (opTime h) (fun r n I' R' q => ?_)
  obtain ⟨rfl, rfl, x, rfl, C2, rfl, q⟩ := q
  show aRun w mL_law 469 [some (aO 0 0), some (aO 1 0), some (aO 40 0), some (aI (i : Int))] [aI (x)] 0 105 (mem C2 S) (rf mm) Q
  refine aAload_n (pc' := 470) dL_law_469 rfl rfl ?_
  refine aAload_n (pc' := 471) dL_law_470 rfl rfl ?_
  refine aIload_n (pc' := 472) dL_law_471 rfl rfl ?_
  refine aIconst (pc' := 473) ⟨by decide, by decide⟩ dL_law_472 rfl ?_
  refine aIadd (pc' := 474) (by omega) (by omega) dL_law_473 rfl ?_
  refine aSld (pc' := 475) (j := i + 1) dL_law_474 (by omega) (by omega) rfl ?_
  refine aAload_n (pc' := 476) dL_law_475 rfl rfl ?_
  refine aIload_n (pc' := 477) dL_law_476 rfl rfl ?_
  refine aIconst (pc' := 478) ⟨by decide, by decide⟩ dL_law_477 rfl ?_
  refine aIadd (pc' := 479) (by omega) (by omega) dL_law_478 rfl ?_
  refine aSld (pc' := 480) (j := i + 2) dL_law_479 (by omega) (by omega) rfl ?_
  refine aCallV (As := [aI (aw_xs w (i + 1)), aI (aw_xs w (i + 2))]) (rest := [aI (x)]) (k := 40) (i := 0) (c := 10) (pc' := 483) dL_law_480 lL_53 ⟨by decide, by decide⟩ npX10_time rfl (by decide) rfl (Nat.le_of_ble_eq_true rfl) (lv (by decide)) (by decide) (by decide +kernel) rfl ?_
  refine aMet_mono q (fun r n I' R' q => ?_)
  obtain ⟨rfl, rfl, y, rfl, S2, rfl, rfl, hv⟩ := q
  show aRun w mL_law 483 [some (aO 0 0), some (aO 1 0), some (aO 40 0), some (aI (i : Int))] [aI y, aI y] 0 105 (mem C2 S2) (rf mm) Q
  exact aIcmp_eq (tgt := 721) (pc' := 486) dL_law_483 (by decide) rfl (fun _ => kk _ _ _ hv) (fun z => absurd rfl z)
set_option maxRecDepth 100000 in
set_option maxHeartbeats 4000000 in
theorem law_c8 (hL : aw_L w ≤ 3072) (hi : i + 6 ≤ aw_L w) (h : Inv C S mm t) (ht : t ≤ 512) (kk : ∀ (C2 : aIF) (S2 : aS) (m2 : Nat), Inv C2 S2 m2 (t + 1) → aRun w mL_law 721 [some (aO 0 0), some (aO 1 0), some (aO 40 0), some (aI (i : Int))] [] 0 105 (mem C2 S2) (rf m2) Q) : aRun w mL_law 488 [some (aO 0 0), some (aO 1 0), some (aO 40 0), some (aI (i : Int))] [] 0 105 (mem C S) (rf mm) Q := by
  refine aAload_n (pc' := 489) dL_law_488 rfl rfl ?_
  refine aAload_n (pc' := 490) dL_law_489 rfl rfl ?_
  refine aIload_n (pc' := 491) dL_law_490 rfl rfl ?_
  refine aIconst (pc' := 492) ⟨by decide, by decide⟩ dL_law_491 rfl ?_
  refine aIadd (pc' := 493) (by omega) (by omega) dL_law_492 rfl ?_
  refine aSld (pc' := 494) (j := i + 1) dL_law_493 (by omega) (by omega) rfl ?_
  refine aCallV (As := [aI (aw_xs w (i + 1))]) (rest := []) (k := 1) (i := 0) (c := 9) (pc' := 497) dL_law_494 lL_54 ⟨by decide, by decide⟩ npX9_need rfl (by decide) rfl (Nat.le_of_ble_eq_true rfl) (lv (by decide)) (by decide) (by decide +kernel) rfl ?_
  refine aMet_mono (opNeed h) (fun r n I' R' q => ?_)
  obtain ⟨rfl, rfl, x, rfl, C2, rfl, q⟩ := q
  show aRun w mL_law 497 [some (aO 0 0), some (aO 1 0), some (aO 40 0), some (aI (i : Int))] [aI (x)] 0 105 (mem C2 S) (rf mm) Q
  refine aAload_n (pc' := 498) dL_law_497 rfl rfl ?_
  refine aAload_n (pc' := 499) dL_law_498 rfl rfl ?_
  refine aIload_n (pc' := 500) dL_law_499 rfl rfl ?_
  refine aIconst (pc' := 501) ⟨by decide, by decide⟩ dL_law_500 rfl ?_
  refine aIadd (pc' := 502) (by omega) (by omega) dL_law_501 rfl ?_
  refine aSld (pc' := 503) (j := i + 1) dL_law_502 (by omega) (by omega) rfl ?_
  refine aCallV (As := [aI (aw_xs w (i + 1))]) (rest := [aI (x)]) (k := 40) (i := 0) (c := 10) (pc' := 506) dL_law_503 lL_58 ⟨by decide, by decide⟩ npX10_need rfl (by decide) rfl (Nat.le_of_ble_eq_true rfl) (lv (by decide)) (by decide) (by decide +kernel) rfl ?_
  refine aMet_mono q (fun r n I' R' q => ?_)
  obtain ⟨rfl, rfl, y, rfl, S2, rfl, rfl, hv⟩ := q
  show aRun w mL_law 506 [some (aO 0 0), some (aO 1 0), some (aO 40 0), some (aI (i : Int))] [aI y, aI y] 0 105 (mem C2 S2) (rf mm) Q
  exact aIcmp_eq (tgt := 721) (pc' := 509) dL_law_506 (by decide) rfl (fun _ => kk _ _ _ hv) (fun z => absurd rfl z)
set_option maxRecDepth 100000 in
set_option maxHeartbeats 4000000 in
theorem law_c9 (hL : aw_L w ≤ 3072) (hi : i + 6 ≤ aw_L w) (h : Inv C S mm t) (ht : t ≤ 512) (kk : ∀ (C2 : aIF) (S2 : aS) (m2 : Nat), Inv C2 S2 m2 (t + 1) → aRun w mL_law 721 [some (aO 0 0), some (aO 1 0), some (aO 40 0), some (aI (i : Int))] [] 0 105 (mem C2 S2) (rf m2) Q) : aRun w mL_law 511 [some (aO 0 0), some (aO 1 0), some (aO 40 0), some (aI (i : Int))] [] 0 105 (mem C S) (rf mm) Q := by
  refine aAload_n (pc' := 512) dL_law_511 rfl rfl ?_
  refine aAload_n (pc' := 513) dL_law_512 rfl rfl ?_
  refine aIload_n (pc' := 514) dL_law_513 rfl rfl ?_
  refine aIconst (pc' := 515) ⟨by decide, by decide⟩ dL_law_514 rfl ?_
  refine aIadd (pc' := 516) (by omega) (by omega) dL_law_515 rfl ?_
  refine aSld (pc' := 517) (j := i + 1) dL_law_516 (by omega) (by omega) rfl ?_
  refine aCallV (As := [aI (aw_xs w (i + 1))]) (rest := []) (k := 1) (i := 0) (c := 9) (pc' := 520) dL_law_517 lL_59 ⟨by decide, by decide⟩ npX9_falls rfl (by decide) rfl (Nat.le_of_ble_eq_true rfl) (lv (by decide)) (by decide) (by decide +kernel) rfl ?_
  refine aMet_mono (opFalls h) (fun r n I' R' q => ?_)
  obtain ⟨rfl, rfl, x, rfl, C2, rfl, q⟩ := q
  show aRun w mL_law 520 [some (aO 0 0), some (aO 1 0), some (aO 40 0), some (aI (i : Int))] [aI (x)] 0 105 (mem C2 S) (rf mm) Q
  refine aAload_n (pc' := 521) dL_law_520 rfl rfl ?_
  refine aAload_n (pc' := 522) dL_law_521 rfl rfl ?_
  refine aIload_n (pc' := 523) dL_law_522 rfl rfl ?_
  refine aIconst (pc' := 524) ⟨by decide, by decide⟩ dL_law_523 rfl ?_
  refine aIadd (pc' := 525) (by omega) (by omega) dL_law_524 rfl ?_
  refine aSld (pc' := 526) (j := i + 1) dL_law_525 (by omega) (by omega) rfl ?_
  refine aCallV (As := [aI (aw_xs w (i + 1))]) (rest := [aI (x)]) (k := 40) (i := 0) (c := 10) (pc' := 529) dL_law_526 lL_62 ⟨by decide, by decide⟩ npX10_falls rfl (by decide) rfl (Nat.le_of_ble_eq_true rfl) (lv (by decide)) (by decide) (by decide +kernel) rfl ?_
  refine aMet_mono q (fun r n I' R' q => ?_)
  obtain ⟨rfl, rfl, y, rfl, S2, rfl, rfl, hv⟩ := q
  show aRun w mL_law 529 [some (aO 0 0), some (aO 1 0), some (aO 40 0), some (aI (i : Int))] [aI y, aI y] 0 105 (mem C2 S2) (rf mm) Q
  exact aIcmp_eq (tgt := 721) (pc' := 532) dL_law_529 (by decide) rfl (fun _ => kk _ _ _ hv) (fun z => absurd rfl z)
set_option maxRecDepth 100000 in
set_option maxHeartbeats 4000000 in
theorem law_c10 (hL : aw_L w ≤ 3072) (hi : i + 6 ≤ aw_L w) (h : Inv C S mm t) (ht : t ≤ 512) (kk : ∀ (C2 : aIF) (S2 : aS) (m2 : Nat), Inv C2 S2 m2 (t + 1) → aRun w mL_law 721 [some (aO 0 0), some (aO 1 0), some (aO 40 0), some (aI (i : Int))] [] 0 105 (mem C2 S2) (rf m2) Q) : aRun w mL_law 534 [some (aO 0 0), some (aO 1 0), some (aO 40 0), some (aI (i : Int))] [] 0 105 (mem C S) (rf mm) Q := by
  refine aAload_n (pc' := 535) dL_law_534 rfl rfl ?_
  refine aCallV (As := []) (rest := []) (k := 1) (i := 0) (c := 9) (pc' := 538) dL_law_535 lL_63 ⟨by decide, by decide⟩ npX9_deal rfl (by decide) rfl (Nat.le_of_ble_eq_true rfl) (lv (by decide)) (by decide) (by decide +kernel) rfl ?_
  refine aMet_mono (opDeal h) (fun r n I' R' q => ?_)
  obtain ⟨rfl, rfl, x, rfl, C2, rfl, q⟩ := q
  show aRun w mL_law 538 [some (aO 0 0), some (aO 1 0), some (aO 40 0), some (aI (i : Int))] [aI (x)] 0 105 (mem C2 S) (rf mm) Q
  refine aAload_n (pc' := 539) dL_law_538 rfl rfl ?_
  refine aCallV (As := []) (rest := [aI (x)]) (k := 40) (i := 0) (c := 10) (pc' := 542) dL_law_539 lL_66 ⟨by decide, by decide⟩ npX10_deal rfl (by decide) rfl (Nat.le_of_ble_eq_true rfl) (lv (by decide)) (by decide) (by decide +kernel) rfl ?_
  refine aMet_mono q (fun r n I' R' q => ?_)
  obtain ⟨rfl, rfl, y, rfl, S2, rfl, rfl, hv⟩ := q
  show aRun w mL_law 542 [some (aO 0 0), some (aO 1 0), some (aO 40 0), some (aI (i : Int))] [aI y, aI y] 0 105 (mem C2 S2) (rf mm) Q
  exact aIcmp_eq (tgt := 721) (pc' := 545) dL_law_542 (by decide) rfl (fun _ => kk _ _ _ hv) (fun z => absurd rfl z)
set_option maxRecDepth 100000 in
set_option maxHeartbeats 4000000 in
theorem law_c11 (hL : aw_L w ≤ 3072) (hi : i + 6 ≤ aw_L w) (h : Inv C S mm t) (ht : t ≤ 512) (kk : ∀ (C2 : aIF) (S2 : aS) (m2 : Nat), Inv C2 S2 m2 (t + 1) → aRun w mL_law 721 [some (aO 0 0), some (aO 1 0), some (aO 40 0), some (aI (i : Int))] [] 0 105 (mem C2 S2) (rf m2) Q) : aRun w mL_law 547 [some (aO 0 0), some (aO 1 0), some (aO 40 0), some (aI (i : Int))] [] 0 105 (mem C S) (rf mm) Q := by
  refine aAload_n (pc' := 548) dL_law_547 rfl rfl ?_
  refine aCallV (As := []) (rest := []) (k := 1) (i := 0) (c := 9) (pc' := 551) dL_law_548 lL_67 ⟨by decide, by decide⟩ npX9_best rfl (by decide) rfl (Nat.le_of_ble_eq_true rfl) (lv (by decide)) (by decide) (by decide +kernel) rfl ?_
  refine aMet_mono (opBest h) (fun r n I' R' q => ?_)
  obtain ⟨rfl, rfl, x, rfl, C2, rfl, q⟩ := q
  show aRun w mL_law 551 [some (aO 0 0), some (aO 1 0), some (aO 40 0), some (aI (i : Int))] [aI (x)] 0 105 (mem C2 S) (rf mm) Q
  refine aAload_n (pc' := 552) dL_law_551 rfl rfl ?_
  refine aCallV (As := []) (rest := [aI (x)]) (k := 40) (i := 0) (c := 10) (pc' := 555) dL_law_552 lL_70 ⟨by decide, by decide⟩ npX10_best rfl (by decide) rfl (Nat.le_of_ble_eq_true rfl) (lv (by decide)) (by decide) (by decide +kernel) rfl ?_
  refine aMet_mono q (fun r n I' R' q => ?_)
  obtain ⟨rfl, rfl, y, rfl, S2, rfl, rfl, hv⟩ := q
  show aRun w mL_law 555 [some (aO 0 0), some (aO 1 0), some (aO 40 0), some (aI (i : Int))] [aI y, aI y] 0 105 (mem C2 S2) (rf mm) Q
  exact aIcmp_eq (tgt := 721) (pc' := 558) dL_law_555 (by decide) rfl (fun _ => kk _ _ _ hv) (fun z => absurd rfl z)
set_option maxRecDepth 100000 in
set_option maxHeartbeats 4000000 in
theorem law_c12 (hL : aw_L w ≤ 3072) (hi : i + 6 ≤ aw_L w) (h : Inv C S mm t) (ht : t ≤ 512) (kk : ∀ (C2 : aIF) (S2 : aS) (m2 : Nat), Inv C2 S2 m2 (t + 1) → aRun w mL_law 721 [some (aO 0 0), some (aO 1 0), some (aO 40 0), some (aI (i : Int))] [] 0 105 (mem C2 S2) (rf m2) Q) : aRun w mL_law 560 [some (aO 0 0), some (aO 1 0), some (aO 40 0), some (aI (i : Int))] [] 0 105 (mem C S) (rf mm) Q := by
  refine aAload_n (pc' := 561) dL_law_560 rfl rfl ?_
  refine aAload_n (pc' := 562) dL_law_561 rfl rfl ?_
  refine aIload_n (pc' := 563) dL_law_562 rfl rfl ?_
  refine aIconst (pc' := 564) ⟨by decide, by decide⟩ dL_law_563 rfl ?_
  refine aIadd (pc' := 565) (by omega) (by omega) dL_law_564 rfl ?_
  refine aSld (pc' := 566) (j := i + 1) dL_law_565 (by omega) (by omega) rfl ?_
  refine aCallV (As := [aI (aw_xs w (i + 1))]) (rest := []) (k := 1) (i := 0) (c := 9) (pc' := 569) dL_law_566 lL_71 ⟨by decide, by decide⟩ npX9_share rfl (by decide) rfl (Nat.le_of_ble_eq_true rfl) (lv (by decide)) (by decide) (by decide +kernel) rfl ?_
  refine aMet_mono (opShare h) (fun r n I' R' q => ?_)
  obtain ⟨rfl, rfl, x, rfl, C2, rfl, q⟩ := q
  show aRun w mL_law 569 [some (aO 0 0), some (aO 1 0), some (aO 40 0), some (aI (i : Int))] [aI (x)] 0 105 (mem C2 S) (rf mm) Q
  refine aAload_n (pc' := 570) dL_law_569 rfl rfl ?_
  refine aAload_n (pc' := 571) dL_law_570 rfl rfl ?_
  refine aIload_n (pc' := 572) dL_law_571 rfl rfl ?_
  refine aIconst (pc' := 573) ⟨by decide, by decide⟩ dL_law_572 rfl ?_
  refine aIadd (pc' := 574) (by omega) (by omega) dL_law_573 rfl ?_
  refine aSld (pc' := 575) (j := i + 1) dL_law_574 (by omega) (by omega) rfl ?_
  refine aCallV (As := [aI (aw_xs w (i + 1))]) (rest := [aI (x)]) (k := 40) (i := 0) (c := 10) (pc' := 578) dL_law_575 lL_74 ⟨by decide, by decide⟩ npX10_share rfl (by decide) rfl (Nat.le_of_ble_eq_true rfl) (lv (by decide)) (by decide) (by decide +kernel) rfl ?_
  refine aMet_mono q (fun r n I' R' q => ?_)
  obtain ⟨rfl, rfl, y, rfl, S2, rfl, rfl, hv⟩ := q
  show aRun w mL_law 578 [some (aO 0 0), some (aO 1 0), some (aO 40 0), some (aI (i : Int))] [aI y, aI y] 0 105 (mem C2 S2) (rf mm) Q
  exact aIcmp_eq (tgt := 721) (pc' := 581) dL_law_578 (by decide) rfl (fun _ => kk _ _ _ hv) (fun z => absurd rfl z)
set_option maxRecDepth 100000 in
set_option maxHeartbeats 4000000 in
theorem law_c13 (hL : aw_L w ≤ 3072) (hi : i + 6 ≤ aw_L w) (h : Inv C S mm t) (ht : t ≤ 512) (kk : ∀ (C2 : aIF) (S2 : aS) (m2 : Nat), Inv C2 S2 m2 (t + 1) → aRun w mL_law 721 [some (aO 0 0), some (aO 1 0), some (aO 40 0), some (aI (i : Int))] [] 0 105 (mem C2 S2) (rf m2) Q) : aRun w mL_law 583 [some (aO 0 0), some (aO 1 0), some (aO 40 0), some (aI (i : Int))] [] 0 105 (mem C S) (rf mm) Q := by
  refine aAload_n (pc' := 584) dL_law_583 rfl rfl ?_
  refine aCallV (As := []) (rest := []) (k := 1) (i := 0) (c := 9) (pc' := 587) dL_law_584 lL_75 ⟨by decide, by decide⟩ npX9_begin rfl (by decide) rfl (Nat.le_of_ble_eq_true rfl) (lv (by decide)) (by decide) (by decide +kernel) rfl ?_
  refine aMet_mono (opBegin h) (fun r n I' R' q => ?_)
  obtain ⟨rfl, rfl, x, rfl, C2, rfl, q⟩ := q
  show aRun w mL_law 587 [some (aO 0 0), some (aO 1 0), some (aO 40 0), some (aI (i : Int))] [aI (x)] 0 105 (mem C2 S) (rf mm) Q
  refine aAload_n (pc' := 588) dL_law_587 rfl rfl ?_
  refine aCallV (As := []) (rest := [aI (x)]) (k := 40) (i := 0) (c := 10) (pc' := 591) dL_law_588 lL_79 ⟨by decide, by decide⟩ npX10_begin rfl (by decide) rfl (Nat.le_of_ble_eq_true rfl) (lv (by decide)) (by decide) (by decide +kernel) rfl ?_
  refine aMet_mono q (fun r n I' R' q => ?_)
  obtain ⟨rfl, rfl, y, rfl, S2, rfl, rfl, hv⟩ := q
  show aRun w mL_law 591 [some (aO 0 0), some (aO 1 0), some (aO 40 0), some (aI (i : Int))] [aI y, aI y] 0 105 (mem C2 S2) (rf mm) Q
  exact aIcmp_eq (tgt := 721) (pc' := 594) dL_law_591 (by decide) rfl (fun _ => kk _ _ _ hv) (fun z => absurd rfl z)
set_option maxRecDepth 100000 in
set_option maxHeartbeats 4000000 in
theorem law_c14 (hL : aw_L w ≤ 3072) (hi : i + 6 ≤ aw_L w) (h : Inv C S mm t) (ht : t ≤ 512) (kk : ∀ (C2 : aIF) (S2 : aS) (m2 : Nat), Inv C2 S2 m2 (t + 1) → aRun w mL_law 721 [some (aO 0 0), some (aO 1 0), some (aO 40 0), some (aI (i : Int))] [] 0 105 (mem C2 S2) (rf m2) Q) : aRun w mL_law 596 [some (aO 0 0), some (aO 1 0), some (aO 40 0), some (aI (i : Int))] [] 0 105 (mem C S) (rf mm) Q := by
  refine aAload_n (pc' := 597) dL_law_596 rfl rfl ?_
  refine aCallV (As := []) (rest := []) (k := 1) (i := 0) (c := 9) (pc' := 600) dL_law_597 lL_80 ⟨by decide, by decide⟩ npX9_stop rfl (by decide) rfl (Nat.le_of_ble_eq_true rfl) (lv (by decide)) (by decide) (by decide +kernel) rfl ?_
  refine aMet_mono (opStop h) (fun r n I' R' q => ?_)
  obtain ⟨rfl, rfl, x, rfl, C2, rfl, q⟩ := q
  show aRun w mL_law 600 [some (aO 0 0), some (aO 1 0), some (aO 40 0), some (aI (i : Int))] [aI (x)] 0 105 (mem C2 S) (rf mm) Q
  refine aAload_n (pc' := 601) dL_law_600 rfl rfl ?_
  refine aCallV (As := []) (rest := [aI (x)]) (k := 40) (i := 0) (c := 10) (pc' := 604) dL_law_601 lL_83 ⟨by decide, by decide⟩ npX10_stop rfl (by decide) rfl (Nat.le_of_ble_eq_true rfl) (lv (by decide)) (by decide) (by decide +kernel) rfl ?_
  refine aMet_mono q (fun r n I' R' q => ?_)
  obtain ⟨rfl, rfl, y, rfl, S2, rfl, rfl, hv⟩ := q
  show aRun w mL_law 604 [some (aO 0 0), some (aO 1 0), some (aO 40 0), some (aI (i : Int))] [aI y, aI y] 0 105 (mem C2 S2) (rf mm) Q
  exact aIcmp_eq (tgt := 721) (pc' := 607) dL_law_604 (by decide) rfl (fun _ => kk _ _ _ hv) (fun z => absurd rfl z)
set_option maxRecDepth 100000 in
set_option maxHeartbeats 4000000 in
theorem law_c15 (hL : aw_L w ≤ 3072) (hi : i + 6 ≤ aw_L w) (h : Inv C S mm t) (ht : t ≤ 512) (kk : ∀ (C2 : aIF) (S2 : aS) (m2 : Nat), Inv C2 S2 m2 (t + 1) → aRun w mL_law 721 [some (aO 0 0), some (aO 1 0), some (aO 40 0), some (aI (i : Int))] [] 0 105 (mem C2 S2) (rf m2) Q) : aRun w mL_law 609 [some (aO 0 0), some (aO 1 0), some (aO 40 0), some (aI (i : Int))] [] 0 105 (mem C S) (rf mm) Q := by
  refine aAload_n (pc' := 610) dL_law_609 rfl rfl ?_
  refine aAload_n (pc' := 611) dL_law_610 rfl rfl ?_
  refine aIload_n (pc' := 612) dL_law_611 rfl rfl ?_
  refine aIconst (pc' := 613) ⟨by decide, by decide⟩ dL_law_612 rfl ?_
  refine aIadd (pc' := 614) (by omega) (by omega) dL_law_613 rfl ?_
  refine aSld (pc' := 615) (j := i + 1) dL_law_614 (by omega) (by omega) rfl ?_
  refine aCallV (As := [aI (aw_xs w (i + 1))]) (rest := []) (k := 1) (i := 0) (c := 9) (pc' := 618) dL_law_615 lL_84 ⟨by decide, by decide⟩ npX9_run rfl (by decide) rfl (Nat.le_of_ble_eq_true rfl) (lv (by decide)) (by decide) (by decide +kernel) rfl ?_
  refine aMet_mono (opRun h (by omega)) (fun r n I' R' q => ?_)
  obtain ⟨rfl, rfl, x, rfl, C2, rfl, q⟩ := q
  show aRun w mL_law 618 [some (aO 0 0), some (aO 1 0), some (aO 40 0), some (aI (i : Int))] [aI (x)] 0 105 (mem C2 S) (rf mm) Q
  refine aAload_n (pc' := 619) dL_law_618 rfl rfl ?_
  refine aAload_n (pc' := 620) dL_law_619 rfl rfl ?_
  refine aIload_n (pc' := 621) dL_law_620 rfl rfl ?_
  refine aIconst (pc' := 622) ⟨by decide, by decide⟩ dL_law_621 rfl ?_
  refine aIadd (pc' := 623) (by omega) (by omega) dL_law_622 rfl ?_
  refine aSld (pc' := 624) (j := i + 1) dL_law_623 (by omega) (by omega) rfl ?_
  refine aCallV (As := [aI (aw_xs w (i + 1))]) (rest := [aI (x)]) (k := 40) (i := 0) (c := 10) (pc' := 627) dL_law_624 lL_87 ⟨by decide, by decide⟩ npX10_run rfl (by decide) rfl (Nat.le_of_ble_eq_true rfl) (lv (by decide)) (by decide) (by decide +kernel) rfl ?_
  refine aMet_mono q (fun r n I' R' q => ?_)
  obtain ⟨rfl, rfl, y, rfl, S2, rfl, rfl, hv⟩ := q
  show aRun w mL_law 627 [some (aO 0 0), some (aO 1 0), some (aO 40 0), some (aI (i : Int))] [aI y, aI y] 0 105 (mem C2 S2) (rf mm) Q
  exact aIcmp_eq (tgt := 721) (pc' := 630) dL_law_627 (by decide) rfl (fun _ => kk _ _ _ hv) (fun z => absurd rfl z)
set_option maxRecDepth 100000 in
set_option maxHeartbeats 4000000 in
theorem law_c16 (hL : aw_L w ≤ 3072) (hi : i + 6 ≤ aw_L w) (h : Inv C S mm t) (ht : t ≤ 512) (kk : ∀ (C2 : aIF) (S2 : aS) (m2 : Nat), Inv C2 S2 m2 (t + 1) → aRun w mL_law 721 [some (aO 0 0), some (aO 1 0), some (aO 40 0), some (aI (i : Int))] [] 0 105 (mem C2 S2) (rf m2) Q) : aRun w mL_law 632 [some (aO 0 0), some (aO 1 0), some (aO 40 0), some (aI (i : Int))] [] 0 105 (mem C S) (rf mm) Q := by
  refine aAload_n (pc' := 633) dL_law_632 rfl rfl ?_
  refine aAload_n (pc' := 634) dL_law_633 rfl rfl ?_
  refine aIload_n (pc' := 635) dL_law_634 rfl rfl ?_
  refine aIconst (pc' := 636) ⟨by decide, by decide⟩ dL_law_635 rfl ?_
  refine aIadd (pc' := 637) (by omega) (by omega) dL_law_636 rfl ?_
  refine aSld (pc' := 638) (j := i + 1) dL_law_637 (by omega) (by omega) rfl ?_
  refine aAload_n (pc' := 639) dL_law_638 rfl rfl ?_
  refine aIload_n (pc' := 640) dL_law_639 rfl rfl ?_
  refine aIconst (pc' := 641) ⟨by decide, by decide⟩ dL_law_640 rfl ?_
  refine aIadd (pc' := 642) (by omega) (by omega) dL_law_641 rfl ?_
  refine aSld (pc' := 643) (j := i + 2) dL_law_642 (by omega) (by omega) rfl ?_
  refine aCallV (As := [aI (aw_xs w (i + 1)), aI (aw_xs w (i + 2))]) (rest := []) (k := 1) (i := 0) (c := 9) (pc' := 646) dL_law_643 lL_88 ⟨by decide, by decide⟩ npX9_of rfl (by decide) rfl (Nat.le_of_ble_eq_true rfl) (lv (by decide)) (by decide) (by decide +kernel) rfl ?_
  refine aMet_mono (opOf h) (fun r n I' R' q => ?_)
  obtain ⟨rfl, rfl, x, rfl, C2, rfl, q⟩ := q
  show aRun w mL_law 646 [some (aO 0 0), some (aO 1 0), some (aO 40 0), some (aI (i : Int))] [aI (x)] 0 105 (mem C2 S) (rf mm) Q
  refine aAload_n (pc' := 647) dL_law_646 rfl rfl ?_
  refine aAload_n (pc' := 648) dL_law_647 rfl rfl ?_
  refine aIload_n (pc' := 649) dL_law_648 rfl rfl ?_
  refine aIconst (pc' := 650) ⟨by decide, by decide⟩ dL_law_649 rfl ?_
  refine aIadd (pc' := 651) (by omega) (by omega) dL_law_650 rfl ?_
  refine aSld (pc' := 652) (j := i + 1) dL_law_651 (by omega) (by omega) rfl ?_
  refine aAload_n (pc' := 653) dL_law_652 rfl rfl ?_
  refine aIload_n (pc' := 654) dL_law_653 rfl rfl ?_
  refine aIconst (pc' := 655) ⟨by decide, by decide⟩ dL_law_654 rfl ?_
  refine aIadd (pc' := 656) (by omega) (by omega) dL_law_655 rfl ?_
  refine aSld (pc' := 657) (j := i + 2) dL_law_656 (by omega) (by omega) rfl ?_
  refine aCallV (As := [aI (aw_xs w (i + 1)), aI (aw_xs w (i + 2))]) (rest := [aI (x)]) (k := 40) (i := 0) (c := 10) (pc' := 660) dL_law_657 lL_91 ⟨by decide, by decide⟩ npX10_of rfl (by decide) rfl (Nat.le_of_ble_eq_true rfl) (lv (by decide)) (by decide) (by decide +kernel) rfl ?_
  refine aMet_mono q (fun r n I' R' q => ?_)
  obtain ⟨rfl, rfl, y, rfl, S2, rfl, rfl, hv⟩ := q
  show aRun w mL_law 660 [some (aO 0 0), some (aO 1 0), some (aO 40 0), some (aI (i : Int))] [aI y, aI y] 0 105 (mem C2 S2) (rf mm) Q
  exact aIcmp_eq (tgt := 721) (pc' := 663) dL_law_660 (by decide) rfl (fun _ => kk _ _ _ hv) (fun z => absurd rfl z)
set_option maxRecDepth 100000 in
set_option maxHeartbeats 4000000 in
theorem law_c17 (hL : aw_L w ≤ 3072) (hi : i + 6 ≤ aw_L w) (h : Inv C S mm t) (ht : t ≤ 512) (kk : ∀ (C2 : aIF) (S2 : aS) (m2 : Nat), Inv C2 S2 m2 (t + 1) → aRun w mL_law 721 [some (aO 0 0), some (aO 1 0), some (aO 40 0), some (aI (i : Int))] [] 0 105 (mem C2 S2) (rf m2) Q) : aRun w mL_law 665 [some (aO 0 0), some (aO 1 0), some (aO 40 0), some (aI (i : Int))] [] 0 105 (mem C S) (rf mm) Q := by
  refine aAload_n (pc' := 666) dL_law_665 rfl rfl ?_
  refine aAload_n (pc' := 667) dL_law_666 rfl rfl ?_
  refine aIload_n (pc' := 668) dL_law_667 rfl rfl ?_
  refine aIconst (pc' := 669) ⟨by decide, by decide⟩ dL_law_668 rfl ?_
  refine aIadd (pc' := 670) (by omega) (by omega) dL_law_669 rfl ?_
  refine aSld (pc' := 671) (j := i + 1) dL_law_670 (by omega) (by omega) rfl ?_
  refine aCallV (As := [aI (aw_xs w (i + 1))]) (rest := []) (k := 1) (i := 0) (c := 9) (pc' := 674) dL_law_671 lL_92 ⟨by decide, by decide⟩ npX9_count rfl (by decide) rfl (Nat.le_of_ble_eq_true rfl) (lv (by decide)) (by decide) (by decide +kernel) rfl ?_
  refine aMet_mono (opCount h) (fun r n I' R' q => ?_)
  obtain ⟨rfl, rfl, x, rfl, C2, rfl, q⟩ := q
  show aRun w mL_law 674 [some (aO 0 0), some (aO 1 0), some (aO 40 0), some (aI (i : Int))] [aI (x)] 0 105 (mem C2 S) (rf mm) Q
  refine aAload_n (pc' := 675) dL_law_674 rfl rfl ?_
  refine aAload_n (pc' := 676) dL_law_675 rfl rfl ?_
  refine aIload_n (pc' := 677) dL_law_676 rfl rfl ?_
  refine aIconst (pc' := 678) ⟨by decide, by decide⟩ dL_law_677 rfl ?_
  refine aIadd (pc' := 679) (by omega) (by omega) dL_law_678 rfl ?_
  refine aSld (pc' := 680) (j := i + 1) dL_law_679 (by omega) (by omega) rfl ?_
  refine aCallV (As := [aI (aw_xs w (i + 1))]) (rest := [aI (x)]) (k := 40) (i := 0) (c := 10) (pc' := 683) dL_law_680 lL_95 ⟨by decide, by decide⟩ npX10_count rfl (by decide) rfl (Nat.le_of_ble_eq_true rfl) (lv (by decide)) (by decide) (by decide +kernel) rfl ?_
  refine aMet_mono q (fun r n I' R' q => ?_)
  obtain ⟨rfl, rfl, y, rfl, S2, rfl, rfl, hv⟩ := q
  show aRun w mL_law 683 [some (aO 0 0), some (aO 1 0), some (aO 40 0), some (aI (i : Int))] [aI y, aI y] 0 105 (mem C2 S2) (rf mm) Q
  exact aIcmp_eq (tgt := 721) (pc' := 686) dL_law_683 (by decide) rfl (fun _ => kk _ _ _ hv) (fun z => absurd rfl z)
set_option maxRecDepth 100000 in
set_option maxHeartbeats 4000000 in
theorem law_c18 (hL : aw_L w ≤ 3072) (hi : i + 6 ≤ aw_L w) (h : Inv C S mm t) (ht : t ≤ 512) (kk : ∀ (C2 : aIF) (S2 : aS) (m2 : Nat), Inv C2 S2 m2 (t + 1) → aRun w mL_law 721 [some (aO 0 0), some (aO 1 0), some (aO 40 0), some (aI (i : Int))] [] 0 105 (mem C2 S2) (rf m2) Q) : aRun w mL_law 688 [some (aO 0 0), some (aO 1 0), some (aO 40 0), some (aI (i : Int))] [] 0 105 (mem C S) (rf mm) Q := by
  refine aAload_n (pc' := 689) dL_law_688 rfl rfl ?_
  refine aAload_n (pc' := 690) dL_law_689 rfl rfl ?_
  refine aIload_n (pc' := 691) dL_law_690 rfl rfl ?_
  refine aIconst (pc' := 692) ⟨by decide, by decide⟩ dL_law_691 rfl ?_
  refine aIadd (pc' := 693) (by omega) (by omega) dL_law_692 rfl ?_
  refine aSld (pc' := 694) (j := i + 1) dL_law_693 (by omega) (by omega) rfl ?_
  refine aAload_n (pc' := 695) dL_law_694 rfl rfl ?_
  refine aIload_n (pc' := 696) dL_law_695 rfl rfl ?_
  refine aIconst (pc' := 697) ⟨by decide, by decide⟩ dL_law_696 rfl ?_
  refine aIadd (pc' := 698) (by omega) (by omega) dL_law_697 rfl ?_
  refine aSld (pc' := 699) (j := i + 2) dL_law_698 (by omega) (by omega) rfl ?_
  refine aCallV (As := [aI (aw_xs w (i + 1)), aI (aw_xs w (i + 2))]) (rest := []) (k := 1) (i := 0) (c := 9) (pc' := 702) dL_law_699 lL_96 ⟨by decide, by decide⟩ npX9_log rfl (by decide) rfl (Nat.le_of_ble_eq_true rfl) (lv (by decide)) (by decide) (by decide +kernel) rfl ?_
  refine aMet_mono (opLog h (by omega)) (fun r n I' R' q => ?_)
  obtain ⟨rfl, rfl, x, rfl, C2, rfl, q⟩ := q
  show aRun w mL_law 702 [some (aO 0 0), some (aO 1 0), some (aO 40 0), some (aI (i : Int))] [aI (x)] 0 105 (mem C2 S) (rf mm) Q
  refine aAload_n (pc' := 703) dL_law_702 rfl rfl ?_
  refine aAload_n (pc' := 704) dL_law_703 rfl rfl ?_
  refine aIload_n (pc' := 705) dL_law_704 rfl rfl ?_
  refine aIconst (pc' := 706) ⟨by decide, by decide⟩ dL_law_705 rfl ?_
  refine aIadd (pc' := 707) (by omega) (by omega) dL_law_706 rfl ?_
  refine aSld (pc' := 708) (j := i + 1) dL_law_707 (by omega) (by omega) rfl ?_
  refine aAload_n (pc' := 709) dL_law_708 rfl rfl ?_
  refine aIload_n (pc' := 710) dL_law_709 rfl rfl ?_
  refine aIconst (pc' := 711) ⟨by decide, by decide⟩ dL_law_710 rfl ?_
  refine aIadd (pc' := 712) (by omega) (by omega) dL_law_711 rfl ?_
  refine aSld (pc' := 713) (j := i + 2) dL_law_712 (by omega) (by omega) rfl ?_
  refine aCallV (As := [aI (aw_xs w (i + 1)), aI (aw_xs w (i + 2))]) (rest := [aI (x)]) (k := 40) (i := 0) (c := 10) (pc' := 716) dL_law_713 lL_99 ⟨by decide, by decide⟩ npX10_log rfl (by decide) rfl (Nat.le_of_ble_eq_true rfl) (lv (by decide)) (by decide) (by decide +kernel) rfl ?_
  refine aMet_mono q (fun r n I' R' q => ?_)
  obtain ⟨rfl, rfl, y, rfl, S2, rfl, rfl, hv⟩ := q
  show aRun w mL_law 716 [some (aO 0 0), some (aO 1 0), some (aO 40 0), some (aI (i : Int))] [aI y, aI y] 0 105 (mem C2 S2) (rf mm) Q
  exact aIcmp_eq (tgt := 721) (pc' := 719) dL_law_716 (by decide) rfl (fun _ => kk _ _ _ hv) (fun z => absurd rfl z)
theorem law_sw (hL : aw_L w ≤ 3072) (hi : i + 6 ≤ aw_L w) (h : Inv C S mm t) (ht : t ≤ 512) (kk : ∀ (C2 : aIF) (S2 : aS) (m2 : Nat), Inv C2 S2 m2 (t + 1) → aRun w mL_law 721 [some (aO 0 0), some (aO 1 0), some (aO 40 0), some (aI (i : Int))] [] 0 105 (mem C2 S2) (rf m2) Q) (v : Int) : aRun w mL_law 33 [some (aO 0 0), some (aO 1 0), some (aO 40 0), some (aI (i : Int))] [aI v] 0 105 (mem C S) (rf mm) Q := by
  rcases (show v = 0 ∨ v = 1 ∨ v = 2 ∨ v = 3 ∨ v = 4 ∨ v = 5 ∨ v = 6 ∨ v = 7 ∨ v = 8 ∨ v = 9 ∨ v = 10 ∨ v = 11 ∨ v = 12 ∨ v = 13 ∨ v = 14 ∨ v = 15 ∨ v = 16 ∨ v = 17 ∨ v = 18 ∨ (v < 0 ∨ 18 < v) by omega) with hc | hc | hc | hc | hc | hc | hc | hc | hc | hc | hc | hc | hc | hc | hc | hc | hc | hc | hc | hc
  · exact aTswIn (tgt := 124) dL_law_33 (by omega) (by omega) (by rw [hc]; rfl) (by decide) (law_c0 hL hi h ht kk)
  · exact aTswIn (tgt := 167) dL_law_33 (by omega) (by omega) (by rw [hc]; rfl) (by decide) (law_c1 hL hi h ht kk)
  · exact aTswIn (tgt := 190) dL_law_33 (by omega) (by omega) (by rw [hc]; rfl) (by decide) (law_c2 hL hi h ht kk)
  · exact aTswIn (tgt := 263) dL_law_33 (by omega) (by omega) (by rw [hc]; rfl) (by decide) (law_c3 hL hi h ht kk)
  · exact aTswIn (tgt := 326) dL_law_33 (by omega) (by omega) (by rw [hc]; rfl) (by decide) (law_c4 hL hi h ht kk)
  · exact aTswIn (tgt := 389) dL_law_33 (by omega) (by omega) (by rw [hc]; rfl) (by decide) (law_c5 hL hi h ht kk)
  · exact aTswIn (tgt := 442) dL_law_33 (by omega) (by omega) (by rw [hc]; rfl) (by decide) (law_c6 hL hi h ht kk)
  · exact aTswIn (tgt := 455) dL_law_33 (by omega) (by omega) (by rw [hc]; rfl) (by decide) (law_c7 hL hi h ht kk)
  · exact aTswIn (tgt := 488) dL_law_33 (by omega) (by omega) (by rw [hc]; rfl) (by decide) (law_c8 hL hi h ht kk)
  · exact aTswIn (tgt := 511) dL_law_33 (by omega) (by omega) (by rw [hc]; rfl) (by decide) (law_c9 hL hi h ht kk)
  · exact aTswIn (tgt := 534) dL_law_33 (by omega) (by omega) (by rw [hc]; rfl) (by decide) (law_c10 hL hi h ht kk)
  · exact aTswIn (tgt := 547) dL_law_33 (by omega) (by omega) (by rw [hc]; rfl) (by decide) (law_c11 hL hi h ht kk)
  · exact aTswIn (tgt := 560) dL_law_33 (by omega) (by omega) (by rw [hc]; rfl) (by decide) (law_c12 hL hi h ht kk)
  · exact aTswIn (tgt := 583) dL_law_33 (by omega) (by omega) (by rw [hc]; rfl) (by decide) (law_c13 hL hi h ht kk)
  · exact aTswIn (tgt := 596) dL_law_33 (by omega) (by omega) (by rw [hc]; rfl) (by decide) (law_c14 hL hi h ht kk)
  · exact aTswIn (tgt := 609) dL_law_33 (by omega) (by omega) (by rw [hc]; rfl) (by decide) (law_c15 hL hi h ht kk)
  · exact aTswIn (tgt := 632) dL_law_33 (by omega) (by omega) (by rw [hc]; rfl) (by decide) (law_c16 hL hi h ht kk)
  · exact aTswIn (tgt := 665) dL_law_33 (by omega) (by omega) (by rw [hc]; rfl) (by decide) (law_c17 hL hi h ht kk)
  · exact aTswIn (tgt := 688) dL_law_33 (by omega) (by omega) (by rw [hc]; rfl) (by decide) (law_c18 hL hi h ht kk)
  · exact aTswOut (tgt := 721) dL_law_33 hc (by decide) (kk _ _ _ (Inv_t (by omega) h))
end LAW
theorem law_18 {w : aW} {Q : aQ} (hL : aw_L w ≤ 3072) : ∀ (m t i : Nat) (C : aIF) (S : aS) (mm : Nat), i = 6 * t → aw_L w ≤ i + 6 * m → Inv C S mm t → aRun w mL_law 18 [some (aO 0 0), some (aO 1 0), some (aO 40 0), some (aI (i : Int))] [] 0 105 (mem C S) (rf mm) Q
  | m, t, i, C, S, mm, ei, hm, h => by
    by_cases hi : i + 6 ≤ aw_L w
    · cases m with
      | zero => omega
      | succ m =>
        refine aIload_n (pc' := 19) dL_law_18 rfl rfl ?_
        refine aAload_n (pc' := 20) dL_law_19 rfl rfl ?_
        refine aSlen (pc' := 21) dL_law_20 rfl ?_
        refine aBipush (pc' := 23) ⟨by decide, by decide⟩ dL_law_21 rfl ?_
        refine aIsub (pc' := 24) (by omega) (by omega) dL_law_23 rfl ?_
        refine aIcmp_gt (tgt := 727) (pc' := 27) dL_law_24 (by decide) rfl (fun z => absurd z (by omega)) (fun _ => ?_)
        refine aAload_n (pc' := 28) dL_law_27 rfl rfl ?_
        refine aIload_n (pc' := 29) dL_law_28 rfl rfl ?_
        refine aSld (pc' := 30) (j := i) dL_law_29 rfl (by omega) rfl ?_
        refine aBipush (pc' := 32) ⟨by decide, by decide⟩ dL_law_30 rfl ?_
        refine aIand (pc' := 33) dL_law_32 rfl ?_
        refine law_sw hL hi h (by omega) (fun C2 S2 m2 hv => ?_) _
        refine aIinc (pc' := 724) dL_law_721 rfl (by decide) ⟨by decide, by decide⟩ (by omega) (by omega) rfl (L' := [some (aO 0 0), some (aO 1 0), some (aO 40 0), some (aI ((i + 6 : Nat) : Int))]) (by rw [Int.natCast_add]; rfl) ?_
        refine aGoto (pc' := 18) dL_law_724 (by decide) ?_
        exact law_18 hL m (t + 1) (i + 6) C2 S2 m2 (by omega) (by omega) hv
    · refine aIload_n (pc' := 19) dL_law_18 rfl rfl ?_
      refine aAload_n (pc' := 20) dL_law_19 rfl rfl ?_
      refine aSlen (pc' := 21) dL_law_20 rfl ?_
      refine aBipush (pc' := 23) ⟨by decide, by decide⟩ dL_law_21 rfl ?_
      refine aIsub (pc' := 24) (by omega) (by omega) dL_law_23 rfl ?_
      refine aIcmp_gt (tgt := 727) (pc' := 27) dL_law_24 (by decide) rfl (fun _ => ?_) (fun z => absurd (by omega) z)
      refine aIconst (pc' := 728) ⟨by decide, by decide⟩ dL_law_727 rfl ?_
      exact aLawRet dL_law_728 rfl rfl rfl rfl (by decide) (by decide +kernel)
set_option maxRecDepth 100000 in
set_option maxHeartbeats 4000000 in
theorem law_0 {w : aW} {Q : aQ} (hL : aw_L w ≤ 3072) : aRun w mL_law 0 [some (aO 0 0), none, none, none] [] 0 0 zI zR Q := by
  have hF := aFr_0
  refine aNew (pc' := 3) (k := 1) (i := 0) (c := 9) dL_law_0 (by decide) rfl kL_7 newX9 iniX9 (by decide) (by decide) (fun j => (hF 1 0 j (fun h => absurd h.2 (by decide))).1) (fun j => (hF 1 0 j (fun h => absurd h.2 (by decide))).2) (by decide) (by decide +kernel) (by decide +kernel) rfl ?_
  have hF := aFr_mono hF
  refine aDup (pc' := 4) rfl dL_law_3 rfl ?_
  refine aCallI (As := []) (rest := [aO 1 0]) (k := 1) (i := 0) (pc' := 7) dL_law_4 lL_9 ⟨rfl, rfl⟩ ⟨by decide, by decide⟩ npX9_init (by decide) (by decide) (by decide +kernel) rfl ?_
  refine iX9_init_1_0 hF (fun hF => ?_)
  show aRun w mL_law 7 [some (aO 0 0), none, none, none] [aO 1 0] 0 72 _ _ Q
  refine aAstore_n (pc' := 8) dL_law_7 (by decide) rfl (L' := [some (aO 0 0), some (aO 1 0), none, none]) rfl ?_
  refine aNew (pc' := 11) (k := 40) (i := 0) (c := 10) dL_law_8 (by decide) rfl kL_10 newX10 iniX10 (by decide) (by decide) (fun j => (hF 40 0 j (fun h => absurd h.2 (by decide))).1) (fun j => (hF 40 0 j (fun h => absurd h.2 (by decide))).2) (by decide) (by decide +kernel) (by decide +kernel) rfl ?_
  have hF := aFr_mono hF
  refine aDup (pc' := 12) rfl dL_law_11 rfl ?_
  refine aCallI (As := []) (rest := [aO 40 0]) (k := 40) (i := 0) (pc' := 15) dL_law_12 lL_12 ⟨rfl, rfl⟩ ⟨by decide, by decide⟩ npX10_init (by decide) (by decide) (by decide +kernel) rfl ?_
  refine iX10_init_40_0 hF (fun hF => ?_)
  show aRun w mL_law 15 [some (aO 0 0), some (aO 1 0), none, none] [aO 40 0] 0 105 I1 R1 Q
  refine aAstore_n (pc' := 16) dL_law_15 (by decide) rfl (L' := [some (aO 0 0), some (aO 1 0), some (aO 40 0), none]) rfl ?_
  refine aIconst (pc' := 17) ⟨by decide, by decide⟩ dL_law_16 rfl ?_
  refine aIstore_n (pc' := 18) dL_law_17 (by decide) rfl (L' := [some (aO 0 0), some (aO 1 0), some (aO 40 0), some (aI ((0 : Nat) : Int))]) rfl ?_
  exact aRun_ext okI1 same1 (law_18 hL (aw_L w) 0 0 I1 S1 6 rfl (by omega) inv1)
