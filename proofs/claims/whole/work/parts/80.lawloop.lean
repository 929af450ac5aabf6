/-! THE LAW: its loop -/
theorem scI_r (E : Le) (i : Int) : inR (scI E i) := by
  obtain ⟨E1, E2, E3, b, L, xs⟩ := E
  exact inR_toInt _
theorem lc_0 {E : Le} {i : Int} {t : Sto} (h0 : 0 ≤ i) (h1 : i + 5 ≤ lnI E) (h2 : lnI E ≤ 320) (hJ : JI t) (nx : ∀ t2, JI t2 → GL E 724 [some (mP 200), some (mP 0), some (mP 31), some (mI i)] [] t2) : GL E 128 [some (mP 200), some (mP 0), some (mP 31), some (mI i)] [] t := by
  refine GL_aload_n (pc := 128) dL_law_128 rfl ?_
  refine GL_aload_n (pc := 129) dL_law_129 rfl ?_
  refine GL_iload_n (pc := 130) dL_law_130 rfl ?_
  refine GL_iconst (pc := 131) dL_law_131 (by decide) ?_
  refine GL_iadd (pc := 132) dL_law_132 (by omega) ?_
  refine GL_sld (pc := 133) dL_law_133 (by omega) ?_
  refine GL_aload_n (pc := 134) dL_law_134 rfl ?_
  refine GL_iload_n (pc := 135) dL_law_135 rfl ?_
  refine GL_iconst (pc := 136) dL_law_136 (by decide) ?_
  refine GL_iadd (pc := 137) dL_law_137 (by omega) ?_
  refine GL_sld (pc := 138) dL_law_138 (by omega) ?_
  obtain ⟨Qc, hc1, hc2⟩ := J_room hJ (scI E (i + 1)) (scI E (i + 2))
  refine GL_callV (pc := 139) (q := 0) (as := [mI (scI E (i + 1)), mI (scI E (i + 2))]) (rest := []) hc1 dL_law_139 mlL_X8_room rfl rfl rfl (by decide) (Nat.le_of_ble_eq_true rfl) (fun r t1 hq => ?_)
  obtain ⟨x, rfl, Qm, hm1, hm2⟩ := hc2 r t1 hq
  show GL E 142 _ [mI x] t1
  refine GL_aload_n (pc := 142) dL_law_142 rfl ?_
  refine GL_aload_n (pc := 143) dL_law_143 rfl ?_
  refine GL_iload_n (pc := 144) dL_law_144 rfl ?_
  refine GL_iconst (pc := 145) dL_law_145 (by decide) ?_
  refine GL_iadd (pc := 146) dL_law_146 (by omega) ?_
  refine GL_sld (pc := 147) dL_law_147 (by omega) ?_
  refine GL_aload_n (pc := 148) dL_law_148 rfl ?_
  refine GL_iload_n (pc := 149) dL_law_149 rfl ?_
  refine GL_iconst (pc := 150) dL_law_150 (by decide) ?_
  refine GL_iadd (pc := 151) dL_law_151 (by omega) ?_
  refine GL_sld (pc := 152) dL_law_152 (by omega) ?_
  refine GL_callV (pc := 153) (q := 31) (as := [mI (scI E (i + 1)), mI (scI E (i + 2))]) (rest := [mI x]) hm1 dL_law_153 mlL_X9_room rfl rfl rfl (by decide) (Nat.le_of_ble_eq_true rfl) (fun r2 t2 hq2 => ?_)
  obtain ⟨rfl, hJ2⟩ := hm2 r2 t2 hq2
  show GL E 156 _ [mI x, mI x] t2
  exact GL_icmp_eq (pc := 156) (tgt := 724) dL_law_156 rfl (fun _ => nx t2 hJ2) (fun h => absurd rfl h)
theorem lc_1 {E : Le} {i : Int} {t : Sto} (h0 : 0 ≤ i) (h1 : i + 5 ≤ lnI E) (h2 : lnI E ≤ 320) (hJ : JI t) (nx : ∀ t2, JI t2 → GL E 724 [some (mP 200), some (mP 0), some (mP 31), some (mI i)] [] t2) : GL E 161 [some (mP 200), some (mP 0), some (mP 31), some (mI i)] [] t := by
  by_cases h4 : scI E (i + 4) = 0
  · refine GL_aload_n (pc := 161) dL_law_161 rfl ?_
    refine GL_aload_n (pc := 162) dL_law_162 rfl ?_
    refine GL_iload_n (pc := 163) dL_law_163 rfl ?_
    refine GL_iconst (pc := 164) dL_law_164 (by decide) ?_
    refine GL_iadd (pc := 165) dL_law_165 (by omega) ?_
    refine GL_sld (pc := 166) dL_law_166 (by omega) ?_
    refine GL_aload_n (pc := 167) dL_law_167 rfl ?_
    refine GL_iload_n (pc := 168) dL_law_168 rfl ?_
    refine GL_iconst (pc := 169) dL_law_169 (by decide) ?_
    refine GL_iadd (pc := 170) dL_law_170 (by omega) ?_
    refine GL_sld (pc := 171) dL_law_171 (by omega) ?_
    refine GL_aload_n (pc := 172) dL_law_172 rfl ?_
    refine GL_iload_n (pc := 173) dL_law_173 rfl ?_
    refine GL_iconst (pc := 174) dL_law_174 (by decide) ?_
    refine GL_iadd (pc := 175) dL_law_175 (by omega) ?_
    refine GL_sld (pc := 176) dL_law_176 (by omega) ?_
    refine GL_aload_n (pc := 177) dL_law_177 rfl ?_
    refine GL_iload_n (pc := 178) dL_law_178 rfl ?_
    refine GL_iconst (pc := 179) dL_law_179 (by decide) ?_
    refine GL_iadd (pc := 180) dL_law_180 (by omega) ?_
    refine GL_sld (pc := 181) dL_law_181 (by omega) ?_
    refine GL_if_eq (pc := 182) (tgt := 189) dL_law_182 rfl (fun _ => ?_) (fun h => absurd h4 h)
    refine GL_iconst (pc := 189) dL_law_189 (by decide) ?_
    obtain ⟨Qc, hc1, hc2⟩ := J_exit hJ (scI E (i + 1)) (scI E (i + 2)) (scI E (i + 3)) (0) (Or.inl rfl)
    refine GL_callV (pc := 190) (q := 0) (as := [mI (scI E (i + 1)), mI (scI E (i + 2)), mI (scI E (i + 3)), mI (0)]) (rest := []) hc1 dL_law_190 mlL_X8_exit rfl rfl rfl (by decide) (Nat.le_of_ble_eq_true rfl) (fun r t1 hq => ?_)
    obtain ⟨x, rfl, Qm, hm1, hm2⟩ := hc2 r t1 hq
    show GL E 193 _ [mI x] t1
    refine GL_aload_n (pc := 193) dL_law_193 rfl ?_
    refine GL_aload_n (pc := 194) dL_law_194 rfl ?_
    refine GL_iload_n (pc := 195) dL_law_195 rfl ?_
    refine GL_iconst (pc := 196) dL_law_196 (by decide) ?_
    refine GL_iadd (pc := 197) dL_law_197 (by omega) ?_
    refine GL_sld (pc := 198) dL_law_198 (by omega) ?_
    refine GL_aload_n (pc := 199) dL_law_199 rfl ?_
    refine GL_iload_n (pc := 200) dL_law_200 rfl ?_
    refine GL_iconst (pc := 201) dL_law_201 (by decide) ?_
    refine GL_iadd (pc := 202) dL_law_202 (by omega) ?_
    refine GL_sld (pc := 203) dL_law_203 (by omega) ?_
    refine GL_aload_n (pc := 204) dL_law_204 rfl ?_
    refine GL_iload_n (pc := 205) dL_law_205 rfl ?_
    refine GL_iconst (pc := 206) dL_law_206 (by decide) ?_
    refine GL_iadd (pc := 207) dL_law_207 (by omega) ?_
    refine GL_sld (pc := 208) dL_law_208 (by omega) ?_
    refine GL_aload_n (pc := 209) dL_law_209 rfl ?_
    refine GL_iload_n (pc := 210) dL_law_210 rfl ?_
    refine GL_iconst (pc := 211) dL_law_211 (by decide) ?_
    refine GL_iadd (pc := 212) dL_law_212 (by omega) ?_
    refine GL_sld (pc := 213) dL_law_213 (by omega) ?_
    refine GL_if_eq (pc := 214) (tgt := 221) dL_law_214 rfl (fun _ => ?_) (fun h => absurd h4 h)
    refine GL_iconst (pc := 221) dL_law_221 (by decide) ?_
    refine GL_callV (pc := 222) (q := 31) (as := [mI (scI E (i + 1)), mI (scI E (i + 2)), mI (scI E (i + 3)), mI (0)]) (rest := [mI x]) hm1 dL_law_222 mlL_X9_exit rfl rfl rfl (by decide) (Nat.le_of_ble_eq_true rfl) (fun r2 t2 hq2 => ?_)
    obtain ⟨rfl, hJ2⟩ := hm2 r2 t2 hq2
    show GL E 225 _ [mI x, mI x] t2
    exact GL_icmp_eq (pc := 225) (tgt := 724) dL_law_225 rfl (fun _ => nx t2 hJ2) (fun h => absurd rfl h)
  · refine GL_aload_n (pc := 161) dL_law_161 rfl ?_
    refine GL_aload_n (pc := 162) dL_law_162 rfl ?_
    refine GL_iload_n (pc := 163) dL_law_163 rfl ?_
    refine GL_iconst (pc := 164) dL_law_164 (by decide) ?_
    refine GL_iadd (pc := 165) dL_law_165 (by omega) ?_
    refine GL_sld (pc := 166) dL_law_166 (by omega) ?_
    refine GL_aload_n (pc := 167) dL_law_167 rfl ?_
    refine GL_iload_n (pc := 168) dL_law_168 rfl ?_
    refine GL_iconst (pc := 169) dL_law_169 (by decide) ?_
    refine GL_iadd (pc := 170) dL_law_170 (by omega) ?_
    refine GL_sld (pc := 171) dL_law_171 (by omega) ?_
    refine GL_aload_n (pc := 172) dL_law_172 rfl ?_
    refine GL_iload_n (pc := 173) dL_law_173 rfl ?_
    refine GL_iconst (pc := 174) dL_law_174 (by decide) ?_
    refine GL_iadd (pc := 175) dL_law_175 (by omega) ?_
    refine GL_sld (pc := 176) dL_law_176 (by omega) ?_
    refine GL_aload_n (pc := 177) dL_law_177 rfl ?_
    refine GL_iload_n (pc := 178) dL_law_178 rfl ?_
    refine GL_iconst (pc := 179) dL_law_179 (by decide) ?_
    refine GL_iadd (pc := 180) dL_law_180 (by omega) ?_
    refine GL_sld (pc := 181) dL_law_181 (by omega) ?_
    refine GL_if_eq (pc := 182) (tgt := 189) dL_law_182 rfl (fun h => absurd h h4) (fun _ => ?_)
    refine GL_iconst (pc := 185) dL_law_185 (by decide) ?_
    refine GL_goto (pc := 186) (tgt := 190) dL_law_186 rfl ?_
    obtain ⟨Qc, hc1, hc2⟩ := J_exit hJ (scI E (i + 1)) (scI E (i + 2)) (scI E (i + 3)) (1) (Or.inr rfl)
    refine GL_callV (pc := 190) (q := 0) (as := [mI (scI E (i + 1)), mI (scI E (i + 2)), mI (scI E (i + 3)), mI (1)]) (rest := []) hc1 dL_law_190 mlL_X8_exit rfl rfl rfl (by decide) (Nat.le_of_ble_eq_true rfl) (fun r t1 hq => ?_)
    obtain ⟨x, rfl, Qm, hm1, hm2⟩ := hc2 r t1 hq
    show GL E 193 _ [mI x] t1
    refine GL_aload_n (pc := 193) dL_law_193 rfl ?_
    refine GL_aload_n (pc := 194) dL_law_194 rfl ?_
    refine GL_iload_n (pc := 195) dL_law_195 rfl ?_
    refine GL_iconst (pc := 196) dL_law_196 (by decide) ?_
    refine GL_iadd (pc := 197) dL_law_197 (by omega) ?_
    refine GL_sld (pc := 198) dL_law_198 (by omega) ?_
    refine GL_aload_n (pc := 199) dL_law_199 rfl ?_
    refine GL_iload_n (pc := 200) dL_law_200 rfl ?_
    refine GL_iconst (pc := 201) dL_law_201 (by decide) ?_
    refine GL_iadd (pc := 202) dL_law_202 (by omega) ?_
    refine GL_sld (pc := 203) dL_law_203 (by omega) ?_
    refine GL_aload_n (pc := 204) dL_law_204 rfl ?_
    refine GL_iload_n (pc := 205) dL_law_205 rfl ?_
    refine GL_iconst (pc := 206) dL_law_206 (by decide) ?_
    refine GL_iadd (pc := 207) dL_law_207 (by omega) ?_
    refine GL_sld (pc := 208) dL_law_208 (by omega) ?_
    refine GL_aload_n (pc := 209) dL_law_209 rfl ?_
    refine GL_iload_n (pc := 210) dL_law_210 rfl ?_
    refine GL_iconst (pc := 211) dL_law_211 (by decide) ?_
    refine GL_iadd (pc := 212) dL_law_212 (by omega) ?_
    refine GL_sld (pc := 213) dL_law_213 (by omega) ?_
    refine GL_if_eq (pc := 214) (tgt := 221) dL_law_214 rfl (fun h => absurd h h4) (fun _ => ?_)
    refine GL_iconst (pc := 217) dL_law_217 (by decide) ?_
    refine GL_goto (pc := 218) (tgt := 222) dL_law_218 rfl ?_
    refine GL_callV (pc := 222) (q := 31) (as := [mI (scI E (i + 1)), mI (scI E (i + 2)), mI (scI E (i + 3)), mI (1)]) (rest := [mI x]) hm1 dL_law_222 mlL_X9_exit rfl rfl rfl (by decide) (Nat.le_of_ble_eq_true rfl) (fun r2 t2 hq2 => ?_)
    obtain ⟨rfl, hJ2⟩ := hm2 r2 t2 hq2
    show GL E 225 _ [mI x, mI x] t2
    exact GL_icmp_eq (pc := 225) (tgt := 724) dL_law_225 rfl (fun _ => nx t2 hJ2) (fun h => absurd rfl h)
theorem lc_2 {E : Le} {i : Int} {t : Sto} (h0 : 0 ≤ i) (h1 : i + 5 ≤ lnI E) (h2 : lnI E ≤ 320) (hJ : JI t) (nx : ∀ t2, JI t2 → GL E 724 [some (mP 200), some (mP 0), some (mP 31), some (mI i)] [] t2) : GL E 230 [some (mP 200), some (mP 0), some (mP 31), some (mI i)] [] t := by
  refine GL_aload_n (pc := 230) dL_law_230 rfl ?_
  refine GL_aload_n (pc := 231) dL_law_231 rfl ?_
  refine GL_iload_n (pc := 232) dL_law_232 rfl ?_
  refine GL_iconst (pc := 233) dL_law_233 (by decide) ?_
  refine GL_iadd (pc := 234) dL_law_234 (by omega) ?_
  refine GL_sld (pc := 235) dL_law_235 (by omega) ?_
  obtain ⟨Qc, hc1, hc2⟩ := J_cut hJ (scI E (i + 1))
  refine GL_callV (pc := 236) (q := 0) (as := [mI (scI E (i + 1))]) (rest := []) hc1 dL_law_236 mlL_X8_cut rfl rfl rfl (by decide) (Nat.le_of_ble_eq_true rfl) (fun r t1 hq => ?_)
  obtain ⟨x, rfl, Qm, hm1, hm2⟩ := hc2 r t1 hq
  show GL E 239 _ [mI x] t1
  refine GL_aload_n (pc := 239) dL_law_239 rfl ?_
  refine GL_aload_n (pc := 240) dL_law_240 rfl ?_
  refine GL_iload_n (pc := 241) dL_law_241 rfl ?_
  refine GL_iconst (pc := 242) dL_law_242 (by decide) ?_
  refine GL_iadd (pc := 243) dL_law_243 (by omega) ?_
  refine GL_sld (pc := 244) dL_law_244 (by omega) ?_
  refine GL_callV (pc := 245) (q := 31) (as := [mI (scI E (i + 1))]) (rest := [mI x]) hm1 dL_law_245 mlL_X9_cut rfl rfl rfl (by decide) (Nat.le_of_ble_eq_true rfl) (fun r2 t2 hq2 => ?_)
  obtain ⟨rfl, hJ2⟩ := hm2 r2 t2 hq2
  show GL E 248 _ [mI x, mI x] t2
  exact GL_icmp_eq (pc := 248) (tgt := 724) dL_law_248 rfl (fun _ => nx t2 hJ2) (fun h => absurd rfl h)
theorem lc_3 {E : Le} {i : Int} {t : Sto} (h0 : 0 ≤ i) (h1 : i + 5 ≤ lnI E) (h2 : lnI E ≤ 320) (hJ : JI t) (nx : ∀ t2, JI t2 → GL E 724 [some (mP 200), some (mP 0), some (mP 31), some (mI i)] [] t2) : GL E 253 [some (mP 200), some (mP 0), some (mP 31), some (mI i)] [] t := by
  refine GL_aload_n (pc := 253) dL_law_253 rfl ?_
  refine GL_aload_n (pc := 254) dL_law_254 rfl ?_
  refine GL_iload_n (pc := 255) dL_law_255 rfl ?_
  refine GL_iconst (pc := 256) dL_law_256 (by decide) ?_
  refine GL_iadd (pc := 257) dL_law_257 (by omega) ?_
  refine GL_sld (pc := 258) dL_law_258 (by omega) ?_
  refine GL_aload_n (pc := 259) dL_law_259 rfl ?_
  refine GL_iload_n (pc := 260) dL_law_260 rfl ?_
  refine GL_iconst (pc := 261) dL_law_261 (by decide) ?_
  refine GL_iadd (pc := 262) dL_law_262 (by omega) ?_
  refine GL_sld (pc := 263) dL_law_263 (by omega) ?_
  refine GL_aload_n (pc := 264) dL_law_264 rfl ?_
  refine GL_iload_n (pc := 265) dL_law_265 rfl ?_
  refine GL_iconst (pc := 266) dL_law_266 (by decide) ?_
  refine GL_iadd (pc := 267) dL_law_267 (by omega) ?_
  refine GL_sld (pc := 268) dL_law_268 (by omega) ?_
  obtain ⟨Qc, hc1, hc2⟩ := J_play hJ (scI E (i + 1)) (scI E (i + 2)) (scI E (i + 3))
  refine GL_callV (pc := 269) (q := 0) (as := [mI (scI E (i + 1)), mI (scI E (i + 2)), mI (scI E (i + 3))]) (rest := []) hc1 dL_law_269 mlL_X8_play rfl rfl rfl (by decide) (Nat.le_of_ble_eq_true rfl) (fun r t1 hq => ?_)
  obtain ⟨x, rfl, Qm, hm1, hm2⟩ := hc2 r t1 hq
  show GL E 272 _ [mI x] t1
  refine GL_aload_n (pc := 272) dL_law_272 rfl ?_
  refine GL_aload_n (pc := 273) dL_law_273 rfl ?_
  refine GL_iload_n (pc := 274) dL_law_274 rfl ?_
  refine GL_iconst (pc := 275) dL_law_275 (by decide) ?_
  refine GL_iadd (pc := 276) dL_law_276 (by omega) ?_
  refine GL_sld (pc := 277) dL_law_277 (by omega) ?_
  refine GL_aload_n (pc := 278) dL_law_278 rfl ?_
  refine GL_iload_n (pc := 279) dL_law_279 rfl ?_
  refine GL_iconst (pc := 280) dL_law_280 (by decide) ?_
  refine GL_iadd (pc := 281) dL_law_281 (by omega) ?_
  refine GL_sld (pc := 282) dL_law_282 (by omega) ?_
  refine GL_aload_n (pc := 283) dL_law_283 rfl ?_
  refine GL_iload_n (pc := 284) dL_law_284 rfl ?_
  refine GL_iconst (pc := 285) dL_law_285 (by decide) ?_
  refine GL_iadd (pc := 286) dL_law_286 (by omega) ?_
  refine GL_sld (pc := 287) dL_law_287 (by omega) ?_
  refine GL_callV (pc := 288) (q := 31) (as := [mI (scI E (i + 1)), mI (scI E (i + 2)), mI (scI E (i + 3))]) (rest := [mI x]) hm1 dL_law_288 mlL_X9_play rfl rfl rfl (by decide) (Nat.le_of_ble_eq_true rfl) (fun r2 t2 hq2 => ?_)
  obtain ⟨rfl, hJ2⟩ := hm2 r2 t2 hq2
  show GL E 291 _ [mI x, mI x] t2
  exact GL_icmp_eq (pc := 291) (tgt := 724) dL_law_291 rfl (fun _ => nx t2 hJ2) (fun h => absurd rfl h)
theorem lc_4 {E : Le} {i : Int} {t : Sto} (h0 : 0 ≤ i) (h1 : i + 5 ≤ lnI E) (h2 : lnI E ≤ 320) (hJ : JI t) (nx : ∀ t2, JI t2 → GL E 724 [some (mP 200), some (mP 0), some (mP 31), some (mI i)] [] t2) : GL E 296 [some (mP 200), some (mP 0), some (mP 31), some (mI i)] [] t := by
  refine GL_aload_n (pc := 296) dL_law_296 rfl ?_
  refine GL_aload_n (pc := 297) dL_law_297 rfl ?_
  refine GL_iload_n (pc := 298) dL_law_298 rfl ?_
  refine GL_iconst (pc := 299) dL_law_299 (by decide) ?_
  refine GL_iadd (pc := 300) dL_law_300 (by omega) ?_
  refine GL_sld (pc := 301) dL_law_301 (by omega) ?_
  refine GL_aload_n (pc := 302) dL_law_302 rfl ?_
  refine GL_iload_n (pc := 303) dL_law_303 rfl ?_
  refine GL_iconst (pc := 304) dL_law_304 (by decide) ?_
  refine GL_iadd (pc := 305) dL_law_305 (by omega) ?_
  refine GL_sld (pc := 306) dL_law_306 (by omega) ?_
  obtain ⟨Qc, hc1, hc2⟩ := J_mark hJ (scI E (i + 1)) (scI E (i + 2))
  refine GL_callV (pc := 307) (q := 0) (as := [mI (scI E (i + 1)), mI (scI E (i + 2))]) (rest := []) hc1 dL_law_307 mlL_X8_mark rfl rfl rfl (by decide) (Nat.le_of_ble_eq_true rfl) (fun r t1 hq => ?_)
  obtain ⟨x, rfl, Qm, hm1, hm2⟩ := hc2 r t1 hq
  show GL E 310 _ [mI x] t1
  refine GL_aload_n (pc := 310) dL_law_310 rfl ?_
  refine GL_aload_n (pc := 311) dL_law_311 rfl ?_
  refine GL_iload_n (pc := 312) dL_law_312 rfl ?_
  refine GL_iconst (pc := 313) dL_law_313 (by decide) ?_
  refine GL_iadd (pc := 314) dL_law_314 (by omega) ?_
  refine GL_sld (pc := 315) dL_law_315 (by omega) ?_
  refine GL_aload_n (pc := 316) dL_law_316 rfl ?_
  refine GL_iload_n (pc := 317) dL_law_317 rfl ?_
  refine GL_iconst (pc := 318) dL_law_318 (by decide) ?_
  refine GL_iadd (pc := 319) dL_law_319 (by omega) ?_
  refine GL_sld (pc := 320) dL_law_320 (by omega) ?_
  refine GL_callV (pc := 321) (q := 31) (as := [mI (scI E (i + 1)), mI (scI E (i + 2))]) (rest := [mI x]) hm1 dL_law_321 mlL_X9_mark rfl rfl rfl (by decide) (Nat.le_of_ble_eq_true rfl) (fun r2 t2 hq2 => ?_)
  obtain ⟨rfl, hJ2⟩ := hm2 r2 t2 hq2
  show GL E 324 _ [mI x, mI x] t2
  exact GL_icmp_eq (pc := 324) (tgt := 724) dL_law_324 rfl (fun _ => nx t2 hJ2) (fun h => absurd rfl h)
theorem lc_5 {E : Le} {i : Int} {t : Sto} (h0 : 0 ≤ i) (h1 : i + 5 ≤ lnI E) (h2 : lnI E ≤ 320) (hJ : JI t) (nx : ∀ t2, JI t2 → GL E 724 [some (mP 200), some (mP 0), some (mP 31), some (mI i)] [] t2) : GL E 329 [some (mP 200), some (mP 0), some (mP 31), some (mI i)] [] t := by
  refine GL_aload_n (pc := 329) dL_law_329 rfl ?_
  refine GL_aload_n (pc := 330) dL_law_330 rfl ?_
  refine GL_iload_n (pc := 331) dL_law_331 rfl ?_
  refine GL_iconst (pc := 332) dL_law_332 (by decide) ?_
  refine GL_iadd (pc := 333) dL_law_333 (by omega) ?_
  refine GL_sld (pc := 334) dL_law_334 (by omega) ?_
  obtain ⟨Qc, hc1, hc2⟩ := J_alike hJ (scI E (i + 1))
  refine GL_callV (pc := 335) (q := 0) (as := [mI (scI E (i + 1))]) (rest := []) hc1 dL_law_335 mlL_X8_alike rfl rfl rfl (by decide) (Nat.le_of_ble_eq_true rfl) (fun r t1 hq => ?_)
  obtain ⟨x, rfl, Qm, hm1, hm2⟩ := hc2 r t1 hq
  show GL E 338 _ [mI x] t1
  refine GL_aload_n (pc := 338) dL_law_338 rfl ?_
  refine GL_aload_n (pc := 339) dL_law_339 rfl ?_
  refine GL_iload_n (pc := 340) dL_law_340 rfl ?_
  refine GL_iconst (pc := 341) dL_law_341 (by decide) ?_
  refine GL_iadd (pc := 342) dL_law_342 (by omega) ?_
  refine GL_sld (pc := 343) dL_law_343 (by omega) ?_
  refine GL_callV (pc := 344) (q := 31) (as := [mI (scI E (i + 1))]) (rest := [mI x]) hm1 dL_law_344 mlL_X9_alike rfl rfl rfl (by decide) (Nat.le_of_ble_eq_true rfl) (fun r2 t2 hq2 => ?_)
  obtain ⟨rfl, hJ2⟩ := hm2 r2 t2 hq2
  show GL E 347 _ [mI x, mI x] t2
  exact GL_icmp_eq (pc := 347) (tgt := 724) dL_law_347 rfl (fun _ => nx t2 hJ2) (fun h => absurd rfl h)
theorem lc_6 {E : Le} {i : Int} {t : Sto} (h0 : 0 ≤ i) (h1 : i + 5 ≤ lnI E) (h2 : lnI E ≤ 320) (hJ : JI t) (nx : ∀ t2, JI t2 → GL E 724 [some (mP 200), some (mP 0), some (mP 31), some (mI i)] [] t2) : GL E 352 [some (mP 200), some (mP 0), some (mP 31), some (mI i)] [] t := by
  refine GL_aload_n (pc := 352) dL_law_352 rfl ?_
  refine GL_aload_n (pc := 353) dL_law_353 rfl ?_
  refine GL_iload_n (pc := 354) dL_law_354 rfl ?_
  refine GL_iconst (pc := 355) dL_law_355 (by decide) ?_
  refine GL_iadd (pc := 356) dL_law_356 (by omega) ?_
  refine GL_sld (pc := 357) dL_law_357 (by omega) ?_
  refine GL_aload_n (pc := 358) dL_law_358 rfl ?_
  refine GL_iload_n (pc := 359) dL_law_359 rfl ?_
  refine GL_iconst (pc := 360) dL_law_360 (by decide) ?_
  refine GL_iadd (pc := 361) dL_law_361 (by omega) ?_
  refine GL_sld (pc := 362) dL_law_362 (by omega) ?_
  obtain ⟨Qc, hc1, hc2⟩ := J_link hJ (scI E (i + 1)) (scI E (i + 2))
  refine GL_callV (pc := 363) (q := 0) (as := [mI (scI E (i + 1)), mI (scI E (i + 2))]) (rest := []) hc1 dL_law_363 mlL_X8_link rfl rfl rfl (by decide) (Nat.le_of_ble_eq_true rfl) (fun r t1 hq => ?_)
  obtain ⟨x, rfl, Qm, hm1, hm2⟩ := hc2 r t1 hq
  show GL E 366 _ [mI x] t1
  refine GL_aload_n (pc := 366) dL_law_366 rfl ?_
  refine GL_aload_n (pc := 367) dL_law_367 rfl ?_
  refine GL_iload_n (pc := 368) dL_law_368 rfl ?_
  refine GL_iconst (pc := 369) dL_law_369 (by decide) ?_
  refine GL_iadd (pc := 370) dL_law_370 (by omega) ?_
  refine GL_sld (pc := 371) dL_law_371 (by omega) ?_
  refine GL_aload_n (pc := 372) dL_law_372 rfl ?_
  refine GL_iload_n (pc := 373) dL_law_373 rfl ?_
  refine GL_iconst (pc := 374) dL_law_374 (by decide) ?_
  refine GL_iadd (pc := 375) dL_law_375 (by omega) ?_
  refine GL_sld (pc := 376) dL_law_376 (by omega) ?_
  refine GL_callV (pc := 377) (q := 31) (as := [mI (scI E (i + 1)), mI (scI E (i + 2))]) (rest := [mI x]) hm1 dL_law_377 mlL_X9_link rfl rfl rfl (by decide) (Nat.le_of_ble_eq_true rfl) (fun r2 t2 hq2 => ?_)
  obtain ⟨rfl, hJ2⟩ := hm2 r2 t2 hq2
  show GL E 380 _ [mI x, mI x] t2
  exact GL_icmp_eq (pc := 380) (tgt := 724) dL_law_380 rfl (fun _ => nx t2 hJ2) (fun h => absurd rfl h)
theorem lc_7 {E : Le} {i : Int} {t : Sto} (h0 : 0 ≤ i) (h1 : i + 5 ≤ lnI E) (h2 : lnI E ≤ 320) (hJ : JI t) (nx : ∀ t2, JI t2 → GL E 724 [some (mP 200), some (mP 0), some (mP 31), some (mI i)] [] t2) : GL E 385 [some (mP 200), some (mP 0), some (mP 31), some (mI i)] [] t := by
  refine GL_aload_n (pc := 385) dL_law_385 rfl ?_
  refine GL_aload_n (pc := 386) dL_law_386 rfl ?_
  refine GL_iload_n (pc := 387) dL_law_387 rfl ?_
  refine GL_iconst (pc := 388) dL_law_388 (by decide) ?_
  refine GL_iadd (pc := 389) dL_law_389 (by omega) ?_
  refine GL_sld (pc := 390) dL_law_390 (by omega) ?_
  refine GL_aload_n (pc := 391) dL_law_391 rfl ?_
  refine GL_iload_n (pc := 392) dL_law_392 rfl ?_
  refine GL_iconst (pc := 393) dL_law_393 (by decide) ?_
  refine GL_iadd (pc := 394) dL_law_394 (by omega) ?_
  refine GL_sld (pc := 395) dL_law_395 (by omega) ?_
  obtain ⟨Qc, hc1, hc2⟩ := J_out hJ (scI E (i + 1)) (scI E (i + 2))
  refine GL_callV (pc := 396) (q := 0) (as := [mI (scI E (i + 1)), mI (scI E (i + 2))]) (rest := []) hc1 dL_law_396 mlL_X8_out rfl rfl rfl (by decide) (Nat.le_of_ble_eq_true rfl) (fun r t1 hq => ?_)
  obtain ⟨x, rfl, Qm, hm1, hm2⟩ := hc2 r t1 hq
  show GL E 399 _ [mI x] t1
  refine GL_aload_n (pc := 399) dL_law_399 rfl ?_
  refine GL_aload_n (pc := 400) dL_law_400 rfl ?_
  refine GL_iload_n (pc := 401) dL_law_401 rfl ?_
  refine GL_iconst (pc := 402) dL_law_402 (by decide) ?_
  refine GL_iadd (pc := 403) dL_law_403 (by omega) ?_
  refine GL_sld (pc := 404) dL_law_404 (by omega) ?_
  refine GL_aload_n (pc := 405) dL_law_405 rfl ?_
  refine GL_iload_n (pc := 406) dL_law_406 rfl ?_
  refine GL_iconst (pc := 407) dL_law_407 (by decide) ?_
  refine GL_iadd (pc := 408) dL_law_408 (by omega) ?_
  refine GL_sld (pc := 409) dL_law_409 (by omega) ?_
  refine GL_callV (pc := 410) (q := 31) (as := [mI (scI E (i + 1)), mI (scI E (i + 2))]) (rest := [mI x]) hm1 dL_law_410 mlL_X9_out rfl rfl rfl (by decide) (Nat.le_of_ble_eq_true rfl) (fun r2 t2 hq2 => ?_)
  obtain ⟨rfl, hJ2⟩ := hm2 r2 t2 hq2
  show GL E 413 _ [mI x, mI x] t2
  exact GL_icmp_eq (pc := 413) (tgt := 724) dL_law_413 rfl (fun _ => nx t2 hJ2) (fun h => absurd rfl h)
theorem lc_8 {E : Le} {i : Int} {t : Sto} (h0 : 0 ≤ i) (h1 : i + 5 ≤ lnI E) (h2 : lnI E ≤ 320) (hJ : JI t) (nx : ∀ t2, JI t2 → GL E 724 [some (mP 200), some (mP 0), some (mP 31), some (mI i)] [] t2) : GL E 418 [some (mP 200), some (mP 0), some (mP 31), some (mI i)] [] t := by
  refine GL_aload_n (pc := 418) dL_law_418 rfl ?_
  refine GL_aload_n (pc := 419) dL_law_419 rfl ?_
  refine GL_iload_n (pc := 420) dL_law_420 rfl ?_
  refine GL_iconst (pc := 421) dL_law_421 (by decide) ?_
  refine GL_iadd (pc := 422) dL_law_422 (by omega) ?_
  refine GL_sld (pc := 423) dL_law_423 (by omega) ?_
  obtain ⟨Qc, hc1, hc2⟩ := J_part hJ (scI E (i + 1))
  refine GL_callV (pc := 424) (q := 0) (as := [mI (scI E (i + 1))]) (rest := []) hc1 dL_law_424 mlL_X8_part rfl rfl rfl (by decide) (Nat.le_of_ble_eq_true rfl) (fun r t1 hq => ?_)
  obtain ⟨x, rfl, Qm, hm1, hm2⟩ := hc2 r t1 hq
  show GL E 427 _ [mI x] t1
  refine GL_aload_n (pc := 427) dL_law_427 rfl ?_
  refine GL_aload_n (pc := 428) dL_law_428 rfl ?_
  refine GL_iload_n (pc := 429) dL_law_429 rfl ?_
  refine GL_iconst (pc := 430) dL_law_430 (by decide) ?_
  refine GL_iadd (pc := 431) dL_law_431 (by omega) ?_
  refine GL_sld (pc := 432) dL_law_432 (by omega) ?_
  refine GL_callV (pc := 433) (q := 31) (as := [mI (scI E (i + 1))]) (rest := [mI x]) hm1 dL_law_433 mlL_X9_part rfl rfl rfl (by decide) (Nat.le_of_ble_eq_true rfl) (fun r2 t2 hq2 => ?_)
  obtain ⟨rfl, hJ2⟩ := hm2 r2 t2 hq2
  show GL E 436 _ [mI x, mI x] t2
  exact GL_icmp_eq (pc := 436) (tgt := 724) dL_law_436 rfl (fun _ => nx t2 hJ2) (fun h => absurd rfl h)
theorem lc_9 {E : Le} {i : Int} {t : Sto} (h0 : 0 ≤ i) (h1 : i + 5 ≤ lnI E) (h2 : lnI E ≤ 320) (hJ : JI t) (nx : ∀ t2, JI t2 → GL E 724 [some (mP 200), some (mP 0), some (mP 31), some (mI i)] [] t2) : GL E 441 [some (mP 200), some (mP 0), some (mP 31), some (mI i)] [] t := by
  refine GL_aload_n (pc := 441) dL_law_441 rfl ?_
  refine GL_aload_n (pc := 442) dL_law_442 rfl ?_
  refine GL_iload_n (pc := 443) dL_law_443 rfl ?_
  refine GL_iconst (pc := 444) dL_law_444 (by decide) ?_
  refine GL_iadd (pc := 445) dL_law_445 (by omega) ?_
  refine GL_sld (pc := 446) dL_law_446 (by omega) ?_
  obtain ⟨Qc, hc1, hc2⟩ := J_draw hJ (scI E (i + 1))
  refine GL_callV (pc := 447) (q := 0) (as := [mI (scI E (i + 1))]) (rest := []) hc1 dL_law_447 mlL_X8_draw rfl rfl rfl (by decide) (Nat.le_of_ble_eq_true rfl) (fun r t1 hq => ?_)
  obtain ⟨x, rfl, Qm, hm1, hm2⟩ := hc2 r t1 hq
  show GL E 450 _ [mI x] t1
  refine GL_aload_n (pc := 450) dL_law_450 rfl ?_
  refine GL_aload_n (pc := 451) dL_law_451 rfl ?_
  refine GL_iload_n (pc := 452) dL_law_452 rfl ?_
  refine GL_iconst (pc := 453) dL_law_453 (by decide) ?_
  refine GL_iadd (pc := 454) dL_law_454 (by omega) ?_
  refine GL_sld (pc := 455) dL_law_455 (by omega) ?_
  refine GL_callV (pc := 456) (q := 31) (as := [mI (scI E (i + 1))]) (rest := [mI x]) hm1 dL_law_456 mlL_X9_draw rfl rfl rfl (by decide) (Nat.le_of_ble_eq_true rfl) (fun r2 t2 hq2 => ?_)
  obtain ⟨rfl, hJ2⟩ := hm2 r2 t2 hq2
  show GL E 459 _ [mI x, mI x] t2
  exact GL_icmp_eq (pc := 459) (tgt := 724) dL_law_459 rfl (fun _ => nx t2 hJ2) (fun h => absurd rfl h)
theorem lc_10 {E : Le} {i : Int} {t : Sto} (h0 : 0 ≤ i) (h1 : i + 5 ≤ lnI E) (h2 : lnI E ≤ 320) (hJ : JI t) (nx : ∀ t2, JI t2 → GL E 724 [some (mP 200), some (mP 0), some (mP 31), some (mI i)] [] t2) : GL E 464 [some (mP 200), some (mP 0), some (mP 31), some (mI i)] [] t := by
  refine GL_aload_n (pc := 464) dL_law_464 rfl ?_
  obtain ⟨Qc, hc1, hc2⟩ := J_grow hJ 
  refine GL_callV (pc := 465) (q := 0) (as := []) (rest := []) hc1 dL_law_465 mlL_X8_grow rfl rfl rfl (by decide) (Nat.le_of_ble_eq_true rfl) (fun r t1 hq => ?_)
  obtain ⟨x, rfl, Qm, hm1, hm2⟩ := hc2 r t1 hq
  show GL E 468 _ [mI x] t1
  refine GL_aload_n (pc := 468) dL_law_468 rfl ?_
  refine GL_callV (pc := 469) (q := 31) (as := []) (rest := [mI x]) hm1 dL_law_469 mlL_X9_grow rfl rfl rfl (by decide) (Nat.le_of_ble_eq_true rfl) (fun r2 t2 hq2 => ?_)
  obtain ⟨rfl, hJ2⟩ := hm2 r2 t2 hq2
  show GL E 472 _ [mI x, mI x] t2
  exact GL_icmp_eq (pc := 472) (tgt := 724) dL_law_472 rfl (fun _ => nx t2 hJ2) (fun h => absurd rfl h)
theorem lc_11 {E : Le} {i : Int} {t : Sto} (h0 : 0 ≤ i) (h1 : i + 5 ≤ lnI E) (h2 : lnI E ≤ 320) (hJ : JI t) (nx : ∀ t2, JI t2 → GL E 724 [some (mP 200), some (mP 0), some (mP 31), some (mI i)] [] t2) : GL E 477 [some (mP 200), some (mP 0), some (mP 31), some (mI i)] [] t := by
  refine GL_aload_n (pc := 477) dL_law_477 rfl ?_
  refine GL_aload_n (pc := 478) dL_law_478 rfl ?_
  refine GL_iload_n (pc := 479) dL_law_479 rfl ?_
  refine GL_iconst (pc := 480) dL_law_480 (by decide) ?_
  refine GL_iadd (pc := 481) dL_law_481 (by omega) ?_
  refine GL_sld (pc := 482) dL_law_482 (by omega) ?_
  obtain ⟨Qc, hc1, hc2⟩ := J_least hJ (scI E (i + 1))
  refine GL_callV (pc := 483) (q := 0) (as := [mI (scI E (i + 1))]) (rest := []) hc1 dL_law_483 mlL_X8_least rfl rfl rfl (by decide) (Nat.le_of_ble_eq_true rfl) (fun r t1 hq => ?_)
  obtain ⟨x, rfl, Qm, hm1, hm2⟩ := hc2 r t1 hq
  show GL E 486 _ [mI x] t1
  refine GL_aload_n (pc := 486) dL_law_486 rfl ?_
  refine GL_aload_n (pc := 487) dL_law_487 rfl ?_
  refine GL_iload_n (pc := 488) dL_law_488 rfl ?_
  refine GL_iconst (pc := 489) dL_law_489 (by decide) ?_
  refine GL_iadd (pc := 490) dL_law_490 (by omega) ?_
  refine GL_sld (pc := 491) dL_law_491 (by omega) ?_
  refine GL_callV (pc := 492) (q := 31) (as := [mI (scI E (i + 1))]) (rest := [mI x]) hm1 dL_law_492 mlL_X9_least rfl rfl rfl (by decide) (Nat.le_of_ble_eq_true rfl) (fun r2 t2 hq2 => ?_)
  obtain ⟨rfl, hJ2⟩ := hm2 r2 t2 hq2
  show GL E 495 _ [mI x, mI x] t2
  exact GL_icmp_eq (pc := 495) (tgt := 724) dL_law_495 rfl (fun _ => nx t2 hJ2) (fun h => absurd rfl h)
theorem lc_12 {E : Le} {i : Int} {t : Sto} (h0 : 0 ≤ i) (h1 : i + 5 ≤ lnI E) (h2 : lnI E ≤ 320) (hJ : JI t) (nx : ∀ t2, JI t2 → GL E 724 [some (mP 200), some (mP 0), some (mP 31), some (mI i)] [] t2) : GL E 500 [some (mP 200), some (mP 0), some (mP 31), some (mI i)] [] t := by
  refine GL_aload_n (pc := 500) dL_law_500 rfl ?_
  obtain ⟨Qc, hc1, hc2⟩ := J_steps hJ 
  refine GL_callV (pc := 501) (q := 0) (as := []) (rest := []) hc1 dL_law_501 mlL_X8_steps rfl rfl rfl (by decide) (Nat.le_of_ble_eq_true rfl) (fun r t1 hq => ?_)
  obtain ⟨x, rfl, Qm, hm1, hm2⟩ := hc2 r t1 hq
  show GL E 504 _ [mI x] t1
  refine GL_aload_n (pc := 504) dL_law_504 rfl ?_
  refine GL_callV (pc := 505) (q := 31) (as := []) (rest := [mI x]) hm1 dL_law_505 mlL_X9_steps rfl rfl rfl (by decide) (Nat.le_of_ble_eq_true rfl) (fun r2 t2 hq2 => ?_)
  obtain ⟨rfl, hJ2⟩ := hm2 r2 t2 hq2
  show GL E 508 _ [mI x, mI x] t2
  exact GL_icmp_eq (pc := 508) (tgt := 724) dL_law_508 rfl (fun _ => nx t2 hJ2) (fun h => absurd rfl h)
theorem lc_13 {E : Le} {i : Int} {t : Sto} (h0 : 0 ≤ i) (h1 : i + 5 ≤ lnI E) (h2 : lnI E ≤ 320) (hJ : JI t) (nx : ∀ t2, JI t2 → GL E 724 [some (mP 200), some (mP 0), some (mP 31), some (mI i)] [] t2) : GL E 513 [some (mP 200), some (mP 0), some (mP 31), some (mI i)] [] t := by
  refine GL_aload_n (pc := 513) dL_law_513 rfl ?_
  refine GL_aload_n (pc := 514) dL_law_514 rfl ?_
  refine GL_iload_n (pc := 515) dL_law_515 rfl ?_
  refine GL_iconst (pc := 516) dL_law_516 (by decide) ?_
  refine GL_iadd (pc := 517) dL_law_517 (by omega) ?_
  refine GL_sld (pc := 518) dL_law_518 (by omega) ?_
  refine GL_aload_n (pc := 519) dL_law_519 rfl ?_
  refine GL_iload_n (pc := 520) dL_law_520 rfl ?_
  refine GL_iconst (pc := 521) dL_law_521 (by decide) ?_
  refine GL_iadd (pc := 522) dL_law_522 (by omega) ?_
  refine GL_sld (pc := 523) dL_law_523 (by omega) ?_
  obtain ⟨Qc, hc1, hc2⟩ := J_place hJ (scI E (i + 1)) (scI E (i + 2))
  refine GL_callV (pc := 524) (q := 0) (as := [mI (scI E (i + 1)), mI (scI E (i + 2))]) (rest := []) hc1 dL_law_524 mlL_X8_place rfl rfl rfl (by decide) (Nat.le_of_ble_eq_true rfl) (fun r t1 hq => ?_)
  obtain ⟨x, rfl, Qm, hm1, hm2⟩ := hc2 r t1 hq
  show GL E 527 _ [mI x] t1
  refine GL_aload_n (pc := 527) dL_law_527 rfl ?_
  refine GL_aload_n (pc := 528) dL_law_528 rfl ?_
  refine GL_iload_n (pc := 529) dL_law_529 rfl ?_
  refine GL_iconst (pc := 530) dL_law_530 (by decide) ?_
  refine GL_iadd (pc := 531) dL_law_531 (by omega) ?_
  refine GL_sld (pc := 532) dL_law_532 (by omega) ?_
  refine GL_aload_n (pc := 533) dL_law_533 rfl ?_
  refine GL_iload_n (pc := 534) dL_law_534 rfl ?_
  refine GL_iconst (pc := 535) dL_law_535 (by decide) ?_
  refine GL_iadd (pc := 536) dL_law_536 (by omega) ?_
  refine GL_sld (pc := 537) dL_law_537 (by omega) ?_
  refine GL_callV (pc := 538) (q := 31) (as := [mI (scI E (i + 1)), mI (scI E (i + 2))]) (rest := [mI x]) hm1 dL_law_538 mlL_X9_place rfl rfl rfl (by decide) (Nat.le_of_ble_eq_true rfl) (fun r2 t2 hq2 => ?_)
  obtain ⟨rfl, hJ2⟩ := hm2 r2 t2 hq2
  show GL E 541 _ [mI x, mI x] t2
  exact GL_icmp_eq (pc := 541) (tgt := 724) dL_law_541 rfl (fun _ => nx t2 hJ2) (fun h => absurd rfl h)
theorem lc_14 {E : Le} {i : Int} {t : Sto} (h0 : 0 ≤ i) (h1 : i + 5 ≤ lnI E) (h2 : lnI E ≤ 320) (hJ : JI t) (nx : ∀ t2, JI t2 → GL E 724 [some (mP 200), some (mP 0), some (mP 31), some (mI i)] [] t2) : GL E 546 [some (mP 200), some (mP 0), some (mP 31), some (mI i)] [] t := by
  refine GL_aload_n (pc := 546) dL_law_546 rfl ?_
  refine GL_aload_n (pc := 547) dL_law_547 rfl ?_
  refine GL_iload_n (pc := 548) dL_law_548 rfl ?_
  refine GL_iconst (pc := 549) dL_law_549 (by decide) ?_
  refine GL_iadd (pc := 550) dL_law_550 (by omega) ?_
  refine GL_sld (pc := 551) dL_law_551 (by omega) ?_
  obtain ⟨Qc, hc1, hc2⟩ := J_straight hJ (scI E (i + 1))
  refine GL_callV (pc := 552) (q := 0) (as := [mI (scI E (i + 1))]) (rest := []) hc1 dL_law_552 mlL_X8_straight rfl rfl rfl (by decide) (Nat.le_of_ble_eq_true rfl) (fun r t1 hq => ?_)
  obtain ⟨x, rfl, Qm, hm1, hm2⟩ := hc2 r t1 hq
  show GL E 555 _ [mI x] t1
  refine GL_aload_n (pc := 555) dL_law_555 rfl ?_
  refine GL_aload_n (pc := 556) dL_law_556 rfl ?_
  refine GL_iload_n (pc := 557) dL_law_557 rfl ?_
  refine GL_iconst (pc := 558) dL_law_558 (by decide) ?_
  refine GL_iadd (pc := 559) dL_law_559 (by omega) ?_
  refine GL_sld (pc := 560) dL_law_560 (by omega) ?_
  refine GL_callV (pc := 561) (q := 31) (as := [mI (scI E (i + 1))]) (rest := [mI x]) hm1 dL_law_561 mlL_X9_straight rfl rfl rfl (by decide) (Nat.le_of_ble_eq_true rfl) (fun r2 t2 hq2 => ?_)
  obtain ⟨rfl, hJ2⟩ := hm2 r2 t2 hq2
  show GL E 564 _ [mI x, mI x] t2
  exact GL_icmp_eq (pc := 564) (tgt := 724) dL_law_564 rfl (fun _ => nx t2 hJ2) (fun h => absurd rfl h)
theorem lc_15 {E : Le} {i : Int} {t : Sto} (h0 : 0 ≤ i) (h1 : i + 5 ≤ lnI E) (h2 : lnI E ≤ 320) (hJ : JI t) (nx : ∀ t2, JI t2 → GL E 724 [some (mP 200), some (mP 0), some (mP 31), some (mI i)] [] t2) : GL E 569 [some (mP 200), some (mP 0), some (mP 31), some (mI i)] [] t := by
  refine GL_aload_n (pc := 569) dL_law_569 rfl ?_
  obtain ⟨Qc, hc1, hc2⟩ := J_cost hJ 
  refine GL_callV (pc := 570) (q := 0) (as := []) (rest := []) hc1 dL_law_570 mlL_X8_cost rfl rfl rfl (by decide) (Nat.le_of_ble_eq_true rfl) (fun r t1 hq => ?_)
  obtain ⟨x, rfl, Qm, hm1, hm2⟩ := hc2 r t1 hq
  show GL E 573 _ [mI x] t1
  refine GL_aload_n (pc := 573) dL_law_573 rfl ?_
  refine GL_callV (pc := 574) (q := 31) (as := []) (rest := [mI x]) hm1 dL_law_574 mlL_X9_cost rfl rfl rfl (by decide) (Nat.le_of_ble_eq_true rfl) (fun r2 t2 hq2 => ?_)
  obtain ⟨rfl, hJ2⟩ := hm2 r2 t2 hq2
  show GL E 577 _ [mI x, mI x] t2
  exact GL_icmp_eq (pc := 577) (tgt := 724) dL_law_577 rfl (fun _ => nx t2 hJ2) (fun h => absurd rfl h)
theorem lc_16 {E : Le} {i : Int} {t : Sto} (h0 : 0 ≤ i) (h1 : i + 5 ≤ lnI E) (h2 : lnI E ≤ 320) (hJ : JI t) (nx : ∀ t2, JI t2 → GL E 724 [some (mP 200), some (mP 0), some (mP 31), some (mI i)] [] t2) : GL E 582 [some (mP 200), some (mP 0), some (mP 31), some (mI i)] [] t := by
  refine GL_aload_n (pc := 582) dL_law_582 rfl ?_
  refine GL_aload_n (pc := 583) dL_law_583 rfl ?_
  refine GL_iload_n (pc := 584) dL_law_584 rfl ?_
  refine GL_iconst (pc := 585) dL_law_585 (by decide) ?_
  refine GL_iadd (pc := 586) dL_law_586 (by omega) ?_
  refine GL_sld (pc := 587) dL_law_587 (by omega) ?_
  refine GL_aload_n (pc := 588) dL_law_588 rfl ?_
  refine GL_iload_n (pc := 589) dL_law_589 rfl ?_
  refine GL_iconst (pc := 590) dL_law_590 (by decide) ?_
  refine GL_iadd (pc := 591) dL_law_591 (by omega) ?_
  refine GL_sld (pc := 592) dL_law_592 (by omega) ?_
  obtain ⟨Qc, hc1, hc2⟩ := J_far hJ (scI E (i + 1)) (scI E (i + 2))
  refine GL_callV (pc := 593) (q := 0) (as := [mI (scI E (i + 1)), mI (scI E (i + 2))]) (rest := []) hc1 dL_law_593 mlL_X8_far rfl rfl rfl (by decide) (Nat.le_of_ble_eq_true rfl) (fun r t1 hq => ?_)
  obtain ⟨x, rfl, Qm, hm1, hm2⟩ := hc2 r t1 hq
  show GL E 596 _ [mI x] t1
  refine GL_aload_n (pc := 596) dL_law_596 rfl ?_
  refine GL_aload_n (pc := 597) dL_law_597 rfl ?_
  refine GL_iload_n (pc := 598) dL_law_598 rfl ?_
  refine GL_iconst (pc := 599) dL_law_599 (by decide) ?_
  refine GL_iadd (pc := 600) dL_law_600 (by omega) ?_
  refine GL_sld (pc := 601) dL_law_601 (by omega) ?_
  refine GL_aload_n (pc := 602) dL_law_602 rfl ?_
  refine GL_iload_n (pc := 603) dL_law_603 rfl ?_
  refine GL_iconst (pc := 604) dL_law_604 (by decide) ?_
  refine GL_iadd (pc := 605) dL_law_605 (by omega) ?_
  refine GL_sld (pc := 606) dL_law_606 (by omega) ?_
  refine GL_callV (pc := 607) (q := 31) (as := [mI (scI E (i + 1)), mI (scI E (i + 2))]) (rest := [mI x]) hm1 dL_law_607 mlL_X9_far rfl rfl rfl (by decide) (Nat.le_of_ble_eq_true rfl) (fun r2 t2 hq2 => ?_)
  obtain ⟨rfl, hJ2⟩ := hm2 r2 t2 hq2
  show GL E 610 _ [mI x, mI x] t2
  exact GL_icmp_eq (pc := 610) (tgt := 724) dL_law_610 rfl (fun _ => nx t2 hJ2) (fun h => absurd rfl h)
theorem lc_17 {E : Le} {i : Int} {t : Sto} (h0 : 0 ≤ i) (h1 : i + 5 ≤ lnI E) (h2 : lnI E ≤ 320) (hJ : JI t) (nx : ∀ t2, JI t2 → GL E 724 [some (mP 200), some (mP 0), some (mP 31), some (mI i)] [] t2) : GL E 615 [some (mP 200), some (mP 0), some (mP 31), some (mI i)] [] t := by
  refine GL_aload_n (pc := 615) dL_law_615 rfl ?_
  refine GL_aload_n (pc := 616) dL_law_616 rfl ?_
  refine GL_iload_n (pc := 617) dL_law_617 rfl ?_
  refine GL_iconst (pc := 618) dL_law_618 (by decide) ?_
  refine GL_iadd (pc := 619) dL_law_619 (by omega) ?_
  refine GL_sld (pc := 620) dL_law_620 (by omega) ?_
  refine GL_aload_n (pc := 621) dL_law_621 rfl ?_
  refine GL_iload_n (pc := 622) dL_law_622 rfl ?_
  refine GL_iconst (pc := 623) dL_law_623 (by decide) ?_
  refine GL_iadd (pc := 624) dL_law_624 (by omega) ?_
  refine GL_sld (pc := 625) dL_law_625 (by omega) ?_
  refine GL_aload_n (pc := 626) dL_law_626 rfl ?_
  refine GL_iload_n (pc := 627) dL_law_627 rfl ?_
  refine GL_iconst (pc := 628) dL_law_628 (by decide) ?_
  refine GL_iadd (pc := 629) dL_law_629 (by omega) ?_
  refine GL_sld (pc := 630) dL_law_630 (by omega) ?_
  obtain ⟨Qc, hc1, hc2⟩ := J_step hJ (scI E (i + 1)) (scI E (i + 2)) (scI E (i + 3))
  refine GL_callV (pc := 631) (q := 0) (as := [mI (scI E (i + 1)), mI (scI E (i + 2)), mI (scI E (i + 3))]) (rest := []) hc1 dL_law_631 mlL_X8_step rfl rfl rfl (by decide) (Nat.le_of_ble_eq_true rfl) (fun r t1 hq => ?_)
  obtain ⟨x, rfl, Qm, hm1, hm2⟩ := hc2 r t1 hq
  show GL E 634 _ [mI x] t1
  refine GL_aload_n (pc := 634) dL_law_634 rfl ?_
  refine GL_aload_n (pc := 635) dL_law_635 rfl ?_
  refine GL_iload_n (pc := 636) dL_law_636 rfl ?_
  refine GL_iconst (pc := 637) dL_law_637 (by decide) ?_
  refine GL_iadd (pc := 638) dL_law_638 (by omega) ?_
  refine GL_sld (pc := 639) dL_law_639 (by omega) ?_
  refine GL_aload_n (pc := 640) dL_law_640 rfl ?_
  refine GL_iload_n (pc := 641) dL_law_641 rfl ?_
  refine GL_iconst (pc := 642) dL_law_642 (by decide) ?_
  refine GL_iadd (pc := 643) dL_law_643 (by omega) ?_
  refine GL_sld (pc := 644) dL_law_644 (by omega) ?_
  refine GL_aload_n (pc := 645) dL_law_645 rfl ?_
  refine GL_iload_n (pc := 646) dL_law_646 rfl ?_
  refine GL_iconst (pc := 647) dL_law_647 (by decide) ?_
  refine GL_iadd (pc := 648) dL_law_648 (by omega) ?_
  refine GL_sld (pc := 649) dL_law_649 (by omega) ?_
  refine GL_callV (pc := 650) (q := 31) (as := [mI (scI E (i + 1)), mI (scI E (i + 2)), mI (scI E (i + 3))]) (rest := [mI x]) hm1 dL_law_650 mlL_X9_step rfl rfl rfl (by decide) (Nat.le_of_ble_eq_true rfl) (fun r2 t2 hq2 => ?_)
  obtain ⟨rfl, hJ2⟩ := hm2 r2 t2 hq2
  show GL E 653 _ [mI x, mI x] t2
  exact GL_icmp_eq (pc := 653) (tgt := 724) dL_law_653 rfl (fun _ => nx t2 hJ2) (fun h => absurd rfl h)
theorem lc_18 {E : Le} {i : Int} {t : Sto} (h0 : 0 ≤ i) (h1 : i + 5 ≤ lnI E) (h2 : lnI E ≤ 320) (hJ : JI t) (nx : ∀ t2, JI t2 → GL E 724 [some (mP 200), some (mP 0), some (mP 31), some (mI i)] [] t2) : GL E 658 [some (mP 200), some (mP 0), some (mP 31), some (mI i)] [] t := by
  refine GL_aload_n (pc := 658) dL_law_658 rfl ?_
  refine GL_aload_n (pc := 659) dL_law_659 rfl ?_
  refine GL_iload_n (pc := 660) dL_law_660 rfl ?_
  refine GL_iconst (pc := 661) dL_law_661 (by decide) ?_
  refine GL_iadd (pc := 662) dL_law_662 (by omega) ?_
  refine GL_sld (pc := 663) dL_law_663 (by omega) ?_
  refine GL_aload_n (pc := 664) dL_law_664 rfl ?_
  refine GL_iload_n (pc := 665) dL_law_665 rfl ?_
  refine GL_iconst (pc := 666) dL_law_666 (by decide) ?_
  refine GL_iadd (pc := 667) dL_law_667 (by omega) ?_
  refine GL_sld (pc := 668) dL_law_668 (by omega) ?_
  refine GL_aload_n (pc := 669) dL_law_669 rfl ?_
  refine GL_iload_n (pc := 670) dL_law_670 rfl ?_
  refine GL_iconst (pc := 671) dL_law_671 (by decide) ?_
  refine GL_iadd (pc := 672) dL_law_672 (by omega) ?_
  refine GL_sld (pc := 673) dL_law_673 (by omega) ?_
  obtain ⟨Qc, hc1, hc2⟩ := J_sign hJ (scI E (i + 1)) (scI E (i + 2)) (scI E (i + 3)) (scI_r E _).2 (scI_r E _).2
  refine GL_callV (pc := 674) (q := 0) (as := [mI (scI E (i + 1)), mI (scI E (i + 2)), mI (scI E (i + 3))]) (rest := []) hc1 dL_law_674 mlL_X8_sign rfl rfl rfl (by decide) (Nat.le_of_ble_eq_true rfl) (fun r t1 hq => ?_)
  obtain ⟨x, rfl, Qm, hm1, hm2⟩ := hc2 r t1 hq
  show GL E 677 _ [mI x] t1
  refine GL_aload_n (pc := 677) dL_law_677 rfl ?_
  refine GL_aload_n (pc := 678) dL_law_678 rfl ?_
  refine GL_iload_n (pc := 679) dL_law_679 rfl ?_
  refine GL_iconst (pc := 680) dL_law_680 (by decide) ?_
  refine GL_iadd (pc := 681) dL_law_681 (by omega) ?_
  refine GL_sld (pc := 682) dL_law_682 (by omega) ?_
  refine GL_aload_n (pc := 683) dL_law_683 rfl ?_
  refine GL_iload_n (pc := 684) dL_law_684 rfl ?_
  refine GL_iconst (pc := 685) dL_law_685 (by decide) ?_
  refine GL_iadd (pc := 686) dL_law_686 (by omega) ?_
  refine GL_sld (pc := 687) dL_law_687 (by omega) ?_
  refine GL_aload_n (pc := 688) dL_law_688 rfl ?_
  refine GL_iload_n (pc := 689) dL_law_689 rfl ?_
  refine GL_iconst (pc := 690) dL_law_690 (by decide) ?_
  refine GL_iadd (pc := 691) dL_law_691 (by omega) ?_
  refine GL_sld (pc := 692) dL_law_692 (by omega) ?_
  refine GL_callV (pc := 693) (q := 31) (as := [mI (scI E (i + 1)), mI (scI E (i + 2)), mI (scI E (i + 3))]) (rest := [mI x]) hm1 dL_law_693 mlL_X9_sign rfl rfl rfl (by decide) (Nat.le_of_ble_eq_true rfl) (fun r2 t2 hq2 => ?_)
  obtain ⟨rfl, hJ2⟩ := hm2 r2 t2 hq2
  show GL E 696 _ [mI x, mI x] t2
  exact GL_icmp_eq (pc := 696) (tgt := 724) dL_law_696 rfl (fun _ => nx t2 hJ2) (fun h => absurd rfl h)
theorem lc_19 {E : Le} {i : Int} {t : Sto} (h0 : 0 ≤ i) (h1 : i + 5 ≤ lnI E) (h2 : lnI E ≤ 320) (hJ : JI t) (nx : ∀ t2, JI t2 → GL E 724 [some (mP 200), some (mP 0), some (mP 31), some (mI i)] [] t2) : GL E 701 [some (mP 200), some (mP 0), some (mP 31), some (mI i)] [] t := by
  refine GL_aload_n (pc := 701) dL_law_701 rfl ?_
  refine GL_aload_n (pc := 702) dL_law_702 rfl ?_
  refine GL_iload_n (pc := 703) dL_law_703 rfl ?_
  refine GL_iconst (pc := 704) dL_law_704 (by decide) ?_
  refine GL_iadd (pc := 705) dL_law_705 (by omega) ?_
  refine GL_sld (pc := 706) dL_law_706 (by omega) ?_
  obtain ⟨Qc, hc1, hc2⟩ := J_told hJ (scI E (i + 1))
  refine GL_callV (pc := 707) (q := 0) (as := [mI (scI E (i + 1))]) (rest := []) hc1 dL_law_707 mlL_X8_told rfl rfl rfl (by decide) (Nat.le_of_ble_eq_true rfl) (fun r t1 hq => ?_)
  obtain ⟨x, rfl, Qm, hm1, hm2⟩ := hc2 r t1 hq
  show GL E 710 _ [mI x] t1
  refine GL_aload_n (pc := 710) dL_law_710 rfl ?_
  refine GL_aload_n (pc := 711) dL_law_711 rfl ?_
  refine GL_iload_n (pc := 712) dL_law_712 rfl ?_
  refine GL_iconst (pc := 713) dL_law_713 (by decide) ?_
  refine GL_iadd (pc := 714) dL_law_714 (by omega) ?_
  refine GL_sld (pc := 715) dL_law_715 (by omega) ?_
  refine GL_callV (pc := 716) (q := 31) (as := [mI (scI E (i + 1))]) (rest := [mI x]) hm1 dL_law_716 mlL_X9_told rfl rfl rfl (by decide) (Nat.le_of_ble_eq_true rfl) (fun r2 t2 hq2 => ?_)
  obtain ⟨rfl, hJ2⟩ := hm2 r2 t2 hq2
  show GL E 719 _ [mI x, mI x] t2
  exact GL_icmp_eq (pc := 719) (tgt := 724) dL_law_719 rfl (fun _ => nx t2 hJ2) (fun h => absurd rfl h)
theorem law_loop {E : Le} (hl : 0 ≤ lnI E ∧ lnI E ≤ 320) : ∀ (n : Nat) (i : Int) (t : Sto), 0 ≤ i → i ≤ lnI E + 5 → lnI E - i ≤ (n : Int) → JI t → GL E 18 [some (mP 200), some (mP 0), some (mP 31), some (mI i)] [] t := by
  intro n
  induction n with
  | zero =>
    intro i t h0 h1 hn hJ
    refine GL_iload_n (pc := 18) dL_law_18 rfl ?_
    refine GL_aload_n (pc := 19) dL_law_19 rfl ?_
    refine GL_slen (pc := 20) dL_law_20 ?_
    refine GL_iconst (pc := 21) dL_law_21 (by decide) ?_
    refine GL_isub (pc := 22) dL_law_22 (by omega) ?_
    refine GL_icmp_gt (pc := 23) (tgt := 730) dL_law_23 rfl (fun _ => ?_) (fun h => by exfalso; omega)
    refine GL_iconst (pc := 730) dL_law_730 (by decide) ?_
    exact GL_true (pc := 731) dL_law_731
  | succ n ih =>
    intro i t h0 h1 hn hJ
    refine GL_iload_n (pc := 18) dL_law_18 rfl ?_
    refine GL_aload_n (pc := 19) dL_law_19 rfl ?_
    refine GL_slen (pc := 20) dL_law_20 ?_
    refine GL_iconst (pc := 21) dL_law_21 (by decide) ?_
    refine GL_isub (pc := 22) dL_law_22 (by omega) ?_
    refine GL_icmp_gt (pc := 23) (tgt := 730) dL_law_23 rfl (fun _ => ?_) (fun h => ?_)
    · refine GL_iconst (pc := 730) dL_law_730 (by decide) ?_
      exact GL_true (pc := 731) dL_law_731
    · have nx : ∀ t2, JI t2 → GL E 724 [some (mP 200), some (mP 0), some (mP 31), some (mI i)] [] t2 := by
        intro t2 hJ2
        refine GL_iinc (pc := 724) dL_law_724 rfl rfl (by omega) ?_
        refine GL_goto (pc := 727) (tgt := 18) dL_law_727 rfl ?_
        exact ih (i + 5) t2 (by omega) (by omega) (by omega) hJ2
      have h5 : i + 5 ≤ lnI E := by omega
      refine GL_aload_n (pc := 26) dL_law_26 rfl ?_
      refine GL_iload_n (pc := 27) dL_law_27 rfl ?_
      refine GL_sld (pc := 28) dL_law_28 (by omega) ?_
      refine GL_bipush (pc := 29) (x := 31) dL_law_29 rfl (by decide) ?_
      refine GL_iand (pc := 31) dL_law_31 ?_
      generalize (Int32.ofInt (scI E i) &&& Int32.ofInt 31).toInt = v
      rcases (show v = 0 ∨ v = 1 ∨ v = 2 ∨ v = 3 ∨ v = 4 ∨ v = 5 ∨ v = 6 ∨ v = 7 ∨ v = 8 ∨ v = 9 ∨ v = 10 ∨ v = 11 ∨ v = 12 ∨ v = 13 ∨ v = 14 ∨ v = 15 ∨ v = 16 ∨ v = 17 ∨ v = 18 ∨ v = 19 ∨ (v < 0 ∨ 19 < v) by omega) with hv | hv | hv | hv | hv | hv | hv | hv | hv | hv | hv | hv | hv | hv | hv | hv | hv | hv | hv | hv | hv
      · subst hv; exact GL_tableAt (pc := 32) (off := 96) (tgt := 128) dL_law_32 (by decide) rfl rfl (lc_0 h0 h5 hl.2 hJ nx)
      · subst hv; exact GL_tableAt (pc := 32) (off := 129) (tgt := 161) dL_law_32 (by decide) rfl rfl (lc_1 h0 h5 hl.2 hJ nx)
      · subst hv; exact GL_tableAt (pc := 32) (off := 198) (tgt := 230) dL_law_32 (by decide) rfl rfl (lc_2 h0 h5 hl.2 hJ nx)
      · subst hv; exact GL_tableAt (pc := 32) (off := 221) (tgt := 253) dL_law_32 (by decide) rfl rfl (lc_3 h0 h5 hl.2 hJ nx)
      · subst hv; exact GL_tableAt (pc := 32) (off := 264) (tgt := 296) dL_law_32 (by decide) rfl rfl (lc_4 h0 h5 hl.2 hJ nx)
      · subst hv; exact GL_tableAt (pc := 32) (off := 297) (tgt := 329) dL_law_32 (by decide) rfl rfl (lc_5 h0 h5 hl.2 hJ nx)
      · subst hv; exact GL_tableAt (pc := 32) (off := 320) (tgt := 352) dL_law_32 (by decide) rfl rfl (lc_6 h0 h5 hl.2 hJ nx)
      · subst hv; exact GL_tableAt (pc := 32) (off := 353) (tgt := 385) dL_law_32 (by decide) rfl rfl (lc_7 h0 h5 hl.2 hJ nx)
      · subst hv; exact GL_tableAt (pc := 32) (off := 386) (tgt := 418) dL_law_32 (by decide) rfl rfl (lc_8 h0 h5 hl.2 hJ nx)
      · subst hv; exact GL_tableAt (pc := 32) (off := 409) (tgt := 441) dL_law_32 (by decide) rfl rfl (lc_9 h0 h5 hl.2 hJ nx)
      · subst hv; exact GL_tableAt (pc := 32) (off := 432) (tgt := 464) dL_law_32 (by decide) rfl rfl (lc_10 h0 h5 hl.2 hJ nx)
      · subst hv; exact GL_tableAt (pc := 32) (off := 445) (tgt := 477) dL_law_32 (by decide) rfl rfl (lc_11 h0 h5 hl.2 hJ nx)
      · subst hv; exact GL_tableAt (pc := 32) (off := 468) (tgt := 500) dL_law_32 (by decide) rfl rfl (lc_12 h0 h5 hl.2 hJ nx)
      · subst hv; exact GL_tableAt (pc := 32) (off := 481) (tgt := 513) dL_law_32 (by decide) rfl rfl (lc_13 h0 h5 hl.2 hJ nx)
      · subst hv; exact GL_tableAt (pc := 32) (off := 514) (tgt := 546) dL_law_32 (by decide) rfl rfl (lc_14 h0 h5 hl.2 hJ nx)
      · subst hv; exact GL_tableAt (pc := 32) (off := 537) (tgt := 569) dL_law_32 (by decide) rfl rfl (lc_15 h0 h5 hl.2 hJ nx)
      · subst hv; exact GL_tableAt (pc := 32) (off := 550) (tgt := 582) dL_law_32 (by decide) rfl rfl (lc_16 h0 h5 hl.2 hJ nx)
      · subst hv; exact GL_tableAt (pc := 32) (off := 583) (tgt := 615) dL_law_32 (by decide) rfl rfl (lc_17 h0 h5 hl.2 hJ nx)
      · subst hv; exact GL_tableAt (pc := 32) (off := 626) (tgt := 658) dL_law_32 (by decide) rfl rfl (lc_18 h0 h5 hl.2 hJ nx)
      · subst hv; exact GL_tableAt (pc := 32) (off := 669) (tgt := 701) dL_law_32 (by decide) rfl rfl (lc_19 h0 h5 hl.2 hJ nx)
      · exact GL_tableOut (pc := 32) (tgt := 724) dL_law_32 hv rfl (nx t hJ)
