theorem jl_two {P : Prop} {r s x y : Int} (r1 : P → r = x) (r2 : ¬ P → r = y) (s1 : P → s = x) (s2 : ¬ P → s = y) : r = s := by
  by_cases z : P
  · exact (r1 z).trans (s1 z).symm
  · exact (r2 z).trans (s2 z).symm
theorem jl_rain {X : jv_M} {n0 : Nat} {sc : Int → Int} {i : Int} {h : List jv_E} (hX : jl_X X n0 sc) (hn : n0 ≤ 2560) (hsc : ∀ k, jq_rg (sc k)) (hi : 0 ≤ i ∧ i + 5 ≤ n0) (hI : jI h) (kk : ∀ h', jI h' → jv_J X cL_law RL 15 962 [some (.ref 2000), some (.ref 0), some (.ref 97), some (.int (jv_i i))] [] h') : jv_J X cL_law RL 15 128 [some (.ref 2000), some (.ref 0), some (.ref 97), some (.int (jv_i i))] [] h := by
  have I9 := hI
  obtain ⟨t0, d0, rr, lv, cu, si, st, at_, wr, da, ra, wa, ht, b, o, iR, iP, iC, iS, iT, iD, iW⟩ := hI
  obtain ⟨n, ys, ms, ds, en, w, m, hR, hpos⟩ := iR
  subst en
  refine jv_aload_n dL_law_128 rfl ?_
  refine jv_aload_n dL_law_129 rfl ?_
  refine jv_iload_n dL_law_130 rfl ?_
  refine jv_iconst dL_law_131 ?_
  refine jv_iadd dL_law_132 ?_
  refine jl_sld dL_law_133 hX (by omega) hn ?_
  refine jv_aload_n dL_law_134 rfl ?_
  refine jv_iload_n dL_law_135 rfl ?_
  refine jv_iconst dL_law_136 ?_
  refine jv_iadd dL_law_137 ?_
  refine jl_sld dL_law_138 hX (by omega) hn ?_
  refine jv_aload_n dL_law_139 rfl ?_
  refine jv_iload_n dL_law_140 rfl ?_
  refine jv_iconst dL_law_141 ?_
  refine jv_iadd dL_law_142 ?_
  refine jl_sld dL_law_143 hX (by omega) hn ?_
  refine jv_cV dL_law_144 jm_L_13 rfl b rfl (ct_X7_rain 0 b w hR (hsc _) (hsc _) (hsc _) (fun ok h1 w1 f1 => ?_) (fun no => ?_))
  · have o1 := (f1 97 (by omega)).trans o
    have m1 := jw_MR_g (fun i p q => f1 i (by omega)) m
    refine jv_aload_n dL_law_147 rfl ?_
    refine jv_aload_n dL_law_148 rfl ?_
    refine jv_iload_n dL_law_149 rfl ?_
    refine jv_iconst dL_law_150 ?_
    refine jv_iadd dL_law_151 ?_
    refine jl_sld dL_law_152 hX (by omega) hn ?_
    refine jv_aload_n dL_law_153 rfl ?_
    refine jv_iload_n dL_law_154 rfl ?_
    refine jv_iconst dL_law_155 ?_
    refine jv_iadd dL_law_156 ?_
    refine jl_sld dL_law_157 hX (by omega) hn ?_
    refine jv_aload_n dL_law_158 rfl ?_
    refine jv_iload_n dL_law_159 rfl ?_
    refine jv_iconst dL_law_160 ?_
    refine jv_iadd dL_law_161 ?_
    refine jl_sld dL_law_162 hX (by omega) hn ?_
    refine jv_cV dL_law_163 jm_L_17 rfl o1 rfl (ct_X8_rain 0 o1 m1 hR (hsc _) (hsc _) (hsc _) (fun _ h2 o2 m2 f2 => ?_) (fun no => absurd ok no))
    refine jl_icmp 962 dL_law_166 rfl ?_
    have g : ∀ i, ¬ (1 ≤ i ∧ i ≤ 4) ∧ ¬ (97 ≤ i ∧ i ≤ 100) → h2[i]? = h[i]? := fun i p => (f2 i (by simp; omega)).trans (f1 i (by omega))
    exact kk h2 ⟨t0, d0, _, lv, cu, si, st, at_, wr, da, ra, wa, ht, (g 0 (by omega)).trans b, o2, ⟨n + 1, _, _, _, by omega, jw_R_g (fun i p q => f2 i (by simp; omega)) w1, m2, jq_R_up hR ok, jq_pos_up hpos (by have := ok.2.1; omega)⟩, jI_P_g (fun i p => g i (by omega)) iP, jI_C_g (fun i p => g i (by omega)) iC, jI_S_g (fun i p => g i (by omega)) iS, jI_T_g ht (fun i p => g i (by omega)) iT, jI_D_g (fun i p => g i (by omega)) iD, jI_W_g (fun i p => g i (by omega)) iW⟩
  · refine jv_aload_n dL_law_147 rfl ?_
    refine jv_aload_n dL_law_148 rfl ?_
    refine jv_iload_n dL_law_149 rfl ?_
    refine jv_iconst dL_law_150 ?_
    refine jv_iadd dL_law_151 ?_
    refine jl_sld dL_law_152 hX (by omega) hn ?_
    refine jv_aload_n dL_law_153 rfl ?_
    refine jv_iload_n dL_law_154 rfl ?_
    refine jv_iconst dL_law_155 ?_
    refine jv_iadd dL_law_156 ?_
    refine jl_sld dL_law_157 hX (by omega) hn ?_
    refine jv_aload_n dL_law_158 rfl ?_
    refine jv_iload_n dL_law_159 rfl ?_
    refine jv_iconst dL_law_160 ?_
    refine jv_iadd dL_law_161 ?_
    refine jl_sld dL_law_162 hX (by omega) hn ?_
    refine jv_cV dL_law_163 jm_L_17 rfl o rfl (ct_X8_rain 0 o m hR (hsc _) (hsc _) (hsc _) (fun ok => absurd ok no) (fun _ => ?_))
    refine jl_icmp 962 dL_law_166 rfl ?_
    exact kk h I9
theorem jl_volume {X : jv_M} {n0 : Nat} {sc : Int → Int} {i : Int} {h : List jv_E} (hX : jl_X X n0 sc) (hn : n0 ≤ 2560) (hsc : ∀ k, jq_rg (sc k)) (hi : 0 ≤ i ∧ i + 5 ≤ n0) (hI : jI h) (kk : ∀ h', jI h' → jv_J X cL_law RL 15 962 [some (.ref 2000), some (.ref 0), some (.ref 97), some (.int (jv_i i))] [] h') : jv_J X cL_law RL 15 171 [some (.ref 2000), some (.ref 0), some (.ref 97), some (.int (jv_i i))] [] h := by
  have I9 := hI
  obtain ⟨t0, d0, rr, lv, cu, si, st, at_, wr, da, ra, wa, ht, b, o, iR, iP, iC, iS, iT, iD, iW⟩ := hI
  obtain ⟨n, ys, ms, ds, en, w, m, hR, hpos⟩ := iR
  subst en
  refine jv_aload_n dL_law_171 rfl ?_
  refine jv_aload_n dL_law_172 rfl ?_
  refine jv_iload_n dL_law_173 rfl ?_
  refine jv_iconst dL_law_174 ?_
  refine jv_iadd dL_law_175 ?_
  refine jl_sld dL_law_176 hX (by omega) hn ?_
  refine jv_aload_n dL_law_177 rfl ?_
  refine jv_iload_n dL_law_178 rfl ?_
  refine jv_iconst dL_law_179 ?_
  refine jv_iadd dL_law_180 ?_
  refine jl_sld dL_law_181 hX (by omega) hn ?_
  refine jv_aload_n dL_law_182 rfl ?_
  refine jv_iload_n dL_law_183 rfl ?_
  refine jv_iconst dL_law_184 ?_
  refine jv_iadd dL_law_185 ?_
  refine jl_sld dL_law_186 hX (by omega) hn ?_
  refine jv_cV dL_law_187 jm_L_18 rfl b rfl (ct_X7_volume 0 b w hR (hsc _) (hsc _) (hsc _) ?_)
  refine jv_aload_n dL_law_190 rfl ?_
  refine jv_aload_n dL_law_191 rfl ?_
  refine jv_iload_n dL_law_192 rfl ?_
  refine jv_iconst dL_law_193 ?_
  refine jv_iadd dL_law_194 ?_
  refine jl_sld dL_law_195 hX (by omega) hn ?_
  refine jv_aload_n dL_law_196 rfl ?_
  refine jv_iload_n dL_law_197 rfl ?_
  refine jv_iconst dL_law_198 ?_
  refine jv_iadd dL_law_199 ?_
  refine jl_sld dL_law_200 hX (by omega) hn ?_
  refine jv_aload_n dL_law_201 rfl ?_
  refine jv_iload_n dL_law_202 rfl ?_
  refine jv_iconst dL_law_203 ?_
  refine jv_iadd dL_law_204 ?_
  refine jl_sld dL_law_205 hX (by omega) hn ?_
  refine jv_cV dL_law_206 jm_L_22 rfl o rfl (ct_X8_volume 0 o m hR (hsc _) (hsc _) (hsc _) ?_)
  refine jl_lcmp 962 dL_law_209 dL_law_210 rfl ?_
  exact kk h I9
theorem jl_by {X : jv_M} {n0 : Nat} {sc : Int → Int} {i : Int} {h : List jv_E} (hX : jl_X X n0 sc) (hn : n0 ≤ 2560) (hsc : ∀ k, jq_rg (sc k)) (hi : 0 ≤ i ∧ i + 5 ≤ n0) (hI : jI h) (kk : ∀ h', jI h' → jv_J X cL_law RL 15 962 [some (.ref 2000), some (.ref 0), some (.ref 97), some (.int (jv_i i))] [] h') : jv_J X cL_law RL 15 215 [some (.ref 2000), some (.ref 0), some (.ref 97), some (.int (jv_i i))] [] h := by
  have I9 := hI
  obtain ⟨t0, d0, rr, lv, cu, si, st, at_, wr, da, ra, wa, ht, b, o, iR, iP, iC, iS, iT, iD, iW⟩ := hI
  obtain ⟨n, ys, ms, ds, en, w, m, hR, hpos⟩ := iR
  subst en
  refine jv_aload_n dL_law_215 rfl ?_
  refine jv_aload_n dL_law_216 rfl ?_
  refine jv_iload_n dL_law_217 rfl ?_
  refine jv_iconst dL_law_218 ?_
  refine jv_iadd dL_law_219 ?_
  refine jl_sld dL_law_220 hX (by omega) hn ?_
  refine jv_aload_n dL_law_221 rfl ?_
  refine jv_iload_n dL_law_222 rfl ?_
  refine jv_iconst dL_law_223 ?_
  refine jv_iadd dL_law_224 ?_
  refine jl_sld dL_law_225 hX (by omega) hn ?_
  refine jv_aload_n dL_law_226 rfl ?_
  refine jv_iload_n dL_law_227 rfl ?_
  refine jv_iconst dL_law_228 ?_
  refine jv_iadd dL_law_229 ?_
  refine jl_sld dL_law_230 hX (by omega) hn ?_
  refine jv_cV dL_law_231 jm_L_23 rfl b rfl (ct_X7_by 0 b w hR (hsc _) (hsc _) (hsc _) ?_)
  refine jv_aload_n dL_law_234 rfl ?_
  refine jv_aload_n dL_law_235 rfl ?_
  refine jv_iload_n dL_law_236 rfl ?_
  refine jv_iconst dL_law_237 ?_
  refine jv_iadd dL_law_238 ?_
  refine jl_sld dL_law_239 hX (by omega) hn ?_
  refine jv_aload_n dL_law_240 rfl ?_
  refine jv_iload_n dL_law_241 rfl ?_
  refine jv_iconst dL_law_242 ?_
  refine jv_iadd dL_law_243 ?_
  refine jl_sld dL_law_244 hX (by omega) hn ?_
  refine jv_aload_n dL_law_245 rfl ?_
  refine jv_iload_n dL_law_246 rfl ?_
  refine jv_iconst dL_law_247 ?_
  refine jv_iadd dL_law_248 ?_
  refine jl_sld dL_law_249 hX (by omega) hn ?_
  refine jv_cV dL_law_250 jm_L_26 rfl o rfl (ct_X8_by 0 o m hR (hsc _) (hsc _) (hsc _) ?_)
  refine jl_icmp 962 dL_law_253 rfl ?_
  exact kk h I9
theorem jl_outflow {X : jv_M} {n0 : Nat} {sc : Int → Int} {i : Int} {h : List jv_E} (hX : jl_X X n0 sc) (hn : n0 ≤ 2560) (hsc : ∀ k, jq_rg (sc k)) (hi : 0 ≤ i ∧ i + 5 ≤ n0) (hI : jI h) (kk : ∀ h', jI h' → jv_J X cL_law RL 15 962 [some (.ref 2000), some (.ref 0), some (.ref 97), some (.int (jv_i i))] [] h') : jv_J X cL_law RL 15 258 [some (.ref 2000), some (.ref 0), some (.ref 97), some (.int (jv_i i))] [] h := by
  have I9 := hI
  obtain ⟨t0, d0, rr, lv, cu, si, st, at_, wr, da, ra, wa, ht, b, o, iR, iP, iC, iS, iT, iD, iW⟩ := hI
  obtain ⟨n, ys, ms, ds, en, w, m, hR, hpos⟩ := iR
  subst en
  refine jv_aload_n dL_law_258 rfl ?_
  refine jv_aload_n dL_law_259 rfl ?_
  refine jv_iload_n dL_law_260 rfl ?_
  refine jv_iconst dL_law_261 ?_
  refine jv_iadd dL_law_262 ?_
  refine jl_sld dL_law_263 hX (by omega) hn ?_
  refine jv_aload_n dL_law_264 rfl ?_
  refine jv_iload_n dL_law_265 rfl ?_
  refine jv_iconst dL_law_266 ?_
  refine jv_iadd dL_law_267 ?_
  refine jl_sld dL_law_268 hX (by omega) hn ?_
  refine jv_aload_n dL_law_269 rfl ?_
  refine jv_iload_n dL_law_270 rfl ?_
  refine jv_iconst dL_law_271 ?_
  refine jv_iadd dL_law_272 ?_
  refine jl_sld dL_law_273 hX (by omega) hn ?_
  refine jv_i2l dL_law_274 ?_ (hsc _)
  refine jv_bipush dL_law_275 ?_
  refine jl_lshl dL_law_277 ?_
  refine jv_aload_n dL_law_278 rfl ?_
  refine jv_iload_n dL_law_279 rfl ?_
  refine jv_iconst dL_law_280 ?_
  refine jv_iadd dL_law_281 ?_
  refine jl_sld dL_law_282 hX (by omega) hn ?_
  refine jv_i2l dL_law_283 ?_ (hsc _)
  refine jv_ldc2 dL_law_284 jk_L_27 ?_
  refine jl_land dL_law_287 ?_
  refine jl_lor dL_law_288 ?_
  refine jv_cV dL_law_289 jm_L_29 rfl b rfl (ct_X7_outflow 0 b w hR (hsc _) (hsc _) (jl_lg_in _ _) ?_)
  refine jv_aload_n dL_law_292 rfl ?_
  refine jv_aload_n dL_law_293 rfl ?_
  refine jv_iload_n dL_law_294 rfl ?_
  refine jv_iconst dL_law_295 ?_
  refine jv_iadd dL_law_296 ?_
  refine jl_sld dL_law_297 hX (by omega) hn ?_
  refine jv_aload_n dL_law_298 rfl ?_
  refine jv_iload_n dL_law_299 rfl ?_
  refine jv_iconst dL_law_300 ?_
  refine jv_iadd dL_law_301 ?_
  refine jl_sld dL_law_302 hX (by omega) hn ?_
  refine jv_aload_n dL_law_303 rfl ?_
  refine jv_iload_n dL_law_304 rfl ?_
  refine jv_iconst dL_law_305 ?_
  refine jv_iadd dL_law_306 ?_
  refine jl_sld dL_law_307 hX (by omega) hn ?_
  refine jv_i2l dL_law_308 ?_ (hsc _)
  refine jv_bipush dL_law_309 ?_
  refine jl_lshl dL_law_311 ?_
  refine jv_aload_n dL_law_312 rfl ?_
  refine jv_iload_n dL_law_313 rfl ?_
  refine jv_iconst dL_law_314 ?_
  refine jv_iadd dL_law_315 ?_
  refine jl_sld dL_law_316 hX (by omega) hn ?_
  refine jv_i2l dL_law_317 ?_ (hsc _)
  refine jv_ldc2 dL_law_318 jk_L_27 ?_
  refine jl_land dL_law_321 ?_
  refine jl_lor dL_law_322 ?_
  refine jv_cV dL_law_323 jm_L_33 rfl o rfl (ct_X8_outflow 0 o m hR hpos (hsc _) (hsc _) (jl_lg_in _ _) ?_)
  refine jl_icmp 962 dL_law_326 rfl ?_
  exact kk h I9
theorem jl_level {X : jv_M} {n0 : Nat} {sc : Int → Int} {i : Int} {h : List jv_E} (hX : jl_X X n0 sc) (hn : n0 ≤ 2560) (hsc : ∀ k, jq_rg (sc k)) (hi : 0 ≤ i ∧ i + 5 ≤ n0) (hI : jI h) (kk : ∀ h', jI h' → jv_J X cL_law RL 15 962 [some (.ref 2000), some (.ref 0), some (.ref 97), some (.int (jv_i i))] [] h') : jv_J X cL_law RL 15 331 [some (.ref 2000), some (.ref 0), some (.ref 97), some (.int (jv_i i))] [] h := by
  have I9 := hI
  obtain ⟨t0, d0, rr, lv, cu, si, st, at_, wr, da, ra, wa, ht, b, o, iR, iP, iC, iS, iT, iD, iW⟩ := hI
  obtain ⟨n, f, ar, co, en, w, m, hP⟩ := iP
  subst en
  refine jv_aload_n dL_law_331 rfl ?_
  refine jv_aload_n dL_law_332 rfl ?_
  refine jv_iload_n dL_law_333 rfl ?_
  refine jv_iconst dL_law_334 ?_
  refine jv_iadd dL_law_335 ?_
  refine jl_sld dL_law_336 hX (by omega) hn ?_
  refine jv_aload_n dL_law_337 rfl ?_
  refine jv_iload_n dL_law_338 rfl ?_
  refine jv_iconst dL_law_339 ?_
  refine jv_iadd dL_law_340 ?_
  refine jl_sld dL_law_341 hX (by omega) hn ?_
  refine jv_cV dL_law_342 jm_L_34 rfl b rfl (ct_X7_level 0 b w hP (hsc _) (hsc _) (fun ok h1 w1 f1 => ?_) (fun no => ?_))
  · have o1 := (f1 97 (by omega)).trans o
    have m1 := jw_MP_g (fun i p q => f1 i (by omega)) m
    refine jv_aload_n dL_law_345 rfl ?_
    refine jv_aload_n dL_law_346 rfl ?_
    refine jv_iload_n dL_law_347 rfl ?_
    refine jv_iconst dL_law_348 ?_
    refine jv_iadd dL_law_349 ?_
    refine jl_sld dL_law_350 hX (by omega) hn ?_
    refine jv_aload_n dL_law_351 rfl ?_
    refine jv_iload_n dL_law_352 rfl ?_
    refine jv_iconst dL_law_353 ?_
    refine jv_iadd dL_law_354 ?_
    refine jl_sld dL_law_355 hX (by omega) hn ?_
    refine jv_cV dL_law_356 jm_L_38 rfl o1 rfl (ct_X8_level 0 o1 m1 hP (hsc _) (hsc _) (fun _ h2 o2 m2 f2 => ?_) (fun no => absurd ok no))
    refine jl_icmp 962 dL_law_359 rfl ?_
    have g : ∀ i, ¬ (5 ≤ i ∧ i ≤ 8) ∧ ¬ (i = 97 ∨ i = 101 ∨ i = 102) → h2[i]? = h[i]? := fun i p => (f2 i (by simp; omega)).trans (f1 i (by omega))
    exact kk h2 ⟨t0, d0, rr, _, cu, si, st, at_, wr, da, ra, wa, ht, (g 0 (by omega)).trans b, o2, jI_R_g (fun i p => g i (by omega)) iR, ⟨n + 1, _, _, _, by omega, jw_P_g (fun i p q => f2 i (by simp; omega)) w1, m2, jq_P_up hP ok⟩, jI_C_g (fun i p => g i (by omega)) iC, jI_S_g (fun i p => g i (by omega)) iS, jI_T_g ht (fun i p => g i (by omega)) iT, jI_D_g (fun i p => g i (by omega)) iD, jI_W_g (fun i p => g i (by omega)) iW⟩
  · refine jv_aload_n dL_law_345 rfl ?_
    refine jv_aload_n dL_law_346 rfl ?_
    refine jv_iload_n dL_law_347 rfl ?_
    refine jv_iconst dL_law_348 ?_
    refine jv_iadd dL_law_349 ?_
    refine jl_sld dL_law_350 hX (by omega) hn ?_
    refine jv_aload_n dL_law_351 rfl ?_
    refine jv_iload_n dL_law_352 rfl ?_
    refine jv_iconst dL_law_353 ?_
    refine jv_iadd dL_law_354 ?_
    refine jl_sld dL_law_355 hX (by omega) hn ?_
    refine jv_cV dL_law_356 jm_L_38 rfl o rfl (ct_X8_level 0 o m hP (hsc _) (hsc _) (fun ok => absurd ok no) (fun _ => ?_))
    refine jl_icmp 962 dL_law_359 rfl ?_
    exact kk h I9
theorem jl_area {X : jv_M} {n0 : Nat} {sc : Int → Int} {i : Int} {h : List jv_E} (hX : jl_X X n0 sc) (hn : n0 ≤ 2560) (hsc : ∀ k, jq_rg (sc k)) (hi : 0 ≤ i ∧ i + 5 ≤ n0) (hI : jI h) (kk : ∀ h', jI h' → jv_J X cL_law RL 15 962 [some (.ref 2000), some (.ref 0), some (.ref 97), some (.int (jv_i i))] [] h') : jv_J X cL_law RL 15 364 [some (.ref 2000), some (.ref 0), some (.ref 97), some (.int (jv_i i))] [] h := by
  have I9 := hI
  obtain ⟨t0, d0, rr, lv, cu, si, st, at_, wr, da, ra, wa, ht, b, o, iR, iP, iC, iS, iT, iD, iW⟩ := hI
  obtain ⟨n, f, ar, co, en, w, m, hP⟩ := iP
  subst en
  refine jv_aload_n dL_law_364 rfl ?_
  refine jv_aload_n dL_law_365 rfl ?_
  refine jv_iload_n dL_law_366 rfl ?_
  refine jv_iconst dL_law_367 ?_
  refine jv_iadd dL_law_368 ?_
  refine jl_sld dL_law_369 hX (by omega) hn ?_
  refine jv_cV dL_law_370 jm_L_39 rfl b rfl (ct_X7_area 0 b w hP (hsc _) (fun r r1 r2 => ?_))
  refine jv_aload_n dL_law_373 rfl ?_
  refine jv_aload_n dL_law_374 rfl ?_
  refine jv_iload_n dL_law_375 rfl ?_
  refine jv_iconst dL_law_376 ?_
  refine jv_iadd dL_law_377 ?_
  refine jl_sld dL_law_378 hX (by omega) hn ?_
  refine jv_cV dL_law_379 jm_L_43 rfl o rfl (ct_X8_area 0 o m hP (hsc _) (fun s s1 s2 => ?_))
  refine jl_icmp 962 dL_law_382 (jl_two r1 r2 s1 s2) ?_
  exact kk h I9
theorem jl_content {X : jv_M} {n0 : Nat} {sc : Int → Int} {i : Int} {h : List jv_E} (hX : jl_X X n0 sc) (hn : n0 ≤ 2560) (hsc : ∀ k, jq_rg (sc k)) (hi : 0 ≤ i ∧ i + 5 ≤ n0) (hI : jI h) (kk : ∀ h', jI h' → jv_J X cL_law RL 15 962 [some (.ref 2000), some (.ref 0), some (.ref 97), some (.int (jv_i i))] [] h') : jv_J X cL_law RL 15 387 [some (.ref 2000), some (.ref 0), some (.ref 97), some (.int (jv_i i))] [] h := by
  have I9 := hI
  obtain ⟨t0, d0, rr, lv, cu, si, st, at_, wr, da, ra, wa, ht, b, o, iR, iP, iC, iS, iT, iD, iW⟩ := hI
  obtain ⟨n, f, ar, co, en, w, m, hP⟩ := iP
  subst en
  refine jv_aload_n dL_law_387 rfl ?_
  refine jv_aload_n dL_law_388 rfl ?_
  refine jv_iload_n dL_law_389 rfl ?_
  refine jv_iconst dL_law_390 ?_
  refine jv_iadd dL_law_391 ?_
  refine jl_sld dL_law_392 hX (by omega) hn ?_
  refine jv_cV dL_law_393 jm_L_44 rfl b rfl (ct_X7_content 0 b w hP (hsc _) (fun r r1 r2 => ?_))
  refine jv_aload_n dL_law_396 rfl ?_
  refine jv_aload_n dL_law_397 rfl ?_
  refine jv_iload_n dL_law_398 rfl ?_
  refine jv_iconst dL_law_399 ?_
  refine jv_iadd dL_law_400 ?_
  refine jl_sld dL_law_401 hX (by omega) hn ?_
  refine jv_cV dL_law_402 jm_L_48 rfl o rfl (ct_X8_content 0 o m hP (hsc _) (fun s s1 s2 => ?_))
  refine jl_lcmp 962 dL_law_405 dL_law_406 (jl_two r1 r2 s1 s2) ?_
  exact kk h I9
theorem jl_fill {X : jv_M} {n0 : Nat} {sc : Int → Int} {i : Int} {h : List jv_E} (hX : jl_X X n0 sc) (hn : n0 ≤ 2560) (hsc : ∀ k, jq_rg (sc k)) (hi : 0 ≤ i ∧ i + 5 ≤ n0) (hI : jI h) (kk : ∀ h', jI h' → jv_J X cL_law RL 15 962 [some (.ref 2000), some (.ref 0), some (.ref 97), some (.int (jv_i i))] [] h') : jv_J X cL_law RL 15 411 [some (.ref 2000), some (.ref 0), some (.ref 97), some (.int (jv_i i))] [] h := by
  have I9 := hI
  obtain ⟨t0, d0, rr, lv, cu, si, st, at_, wr, da, ra, wa, ht, b, o, iR, iP, iC, iS, iT, iD, iW⟩ := hI
  obtain ⟨n, f, ar, co, en, w, m, hP⟩ := iP
  subst en
  refine jv_aload_n dL_law_411 rfl ?_
  refine jv_aload_n dL_law_412 rfl ?_
  refine jv_iload_n dL_law_413 rfl ?_
  refine jv_iconst dL_law_414 ?_
  refine jv_iadd dL_law_415 ?_
  refine jl_sld dL_law_416 hX (by omega) hn ?_
  refine jv_i2l dL_law_417 ?_ (hsc _)
  refine jv_bipush dL_law_418 ?_
  refine jl_lshl dL_law_420 ?_
  refine jv_aload_n dL_law_421 rfl ?_
  refine jv_iload_n dL_law_422 rfl ?_
  refine jv_iconst dL_law_423 ?_
  refine jv_iadd dL_law_424 ?_
  refine jl_sld dL_law_425 hX (by omega) hn ?_
  refine jv_i2l dL_law_426 ?_ (hsc _)
  refine jv_ldc2 dL_law_427 jk_L_27 ?_
  refine jl_land dL_law_430 ?_
  refine jl_lor dL_law_431 ?_
  refine jv_cV dL_law_432 jm_L_49 rfl b rfl (ct_X7_fill 0 b w hP (jl_lg_in _ _) ?_)
  refine jv_aload_n dL_law_435 rfl ?_
  refine jv_aload_n dL_law_436 rfl ?_
  refine jv_iload_n dL_law_437 rfl ?_
  refine jv_iconst dL_law_438 ?_
  refine jv_iadd dL_law_439 ?_
  refine jl_sld dL_law_440 hX (by omega) hn ?_
  refine jv_i2l dL_law_441 ?_ (hsc _)
  refine jv_bipush dL_law_442 ?_
  refine jl_lshl dL_law_444 ?_
  refine jv_aload_n dL_law_445 rfl ?_
  refine jv_iload_n dL_law_446 rfl ?_
  refine jv_iconst dL_law_447 ?_
  refine jv_iadd dL_law_448 ?_
  refine jl_sld dL_law_449 hX (by omega) hn ?_
  refine jv_i2l dL_law_450 ?_ (hsc _)
  refine jv_ldc2 dL_law_451 jk_L_27 ?_
  refine jl_land dL_law_454 ?_
  refine jl_lor dL_law_455 ?_
  refine jv_cV dL_law_456 jm_L_53 rfl o rfl (ct_X8_fill 0 o m hP (jl_lg_in _ _) ?_)
  refine jl_icmp 962 dL_law_459 rfl ?_
  exact kk h I9
theorem jl_culvert {X : jv_M} {n0 : Nat} {sc : Int → Int} {i : Int} {h : List jv_E} (hX : jl_X X n0 sc) (hn : n0 ≤ 2560) (hsc : ∀ k, jq_rg (sc k)) (hi : 0 ≤ i ∧ i + 5 ≤ n0) (hI : jI h) (kk : ∀ h', jI h' → jv_J X cL_law RL 15 962 [some (.ref 2000), some (.ref 0), some (.ref 97), some (.int (jv_i i))] [] h') : jv_J X cL_law RL 15 464 [some (.ref 2000), some (.ref 0), some (.ref 97), some (.int (jv_i i))] [] h := by
  have I9 := hI
  obtain ⟨t0, d0, rr, lv, cu, si, st, at_, wr, da, ra, wa, ht, b, o, iR, iP, iC, iS, iT, iD, iW⟩ := hI
  obtain ⟨n, wi, he, le, fa, va, me, en, w, m, hC, hm, hl⟩ := iC
  subst en
  refine jv_aload_n dL_law_464 rfl ?_
  refine jv_aload_n dL_law_465 rfl ?_
  refine jv_iload_n dL_law_466 rfl ?_
  refine jv_iconst dL_law_467 ?_
  refine jv_iadd dL_law_468 ?_
  refine jl_sld dL_law_469 hX (by omega) hn ?_
  refine jv_aload_n dL_law_470 rfl ?_
  refine jv_iload_n dL_law_471 rfl ?_
  refine jv_iconst dL_law_472 ?_
  refine jv_iadd dL_law_473 ?_
  refine jl_sld dL_law_474 hX (by omega) hn ?_
  refine jv_aload_n dL_law_475 rfl ?_
  refine jv_iload_n dL_law_476 rfl ?_
  refine jv_iconst dL_law_477 ?_
  refine jv_iadd dL_law_478 ?_
  refine jl_sld dL_law_479 hX (by omega) hn ?_
  refine jv_aload_n dL_law_480 rfl ?_
  refine jv_iload_n dL_law_481 rfl ?_
  refine jv_iconst dL_law_482 ?_
  refine jv_iadd dL_law_483 ?_
  refine jl_sld dL_law_484 hX (by omega) hn ?_
  refine jv_cV dL_law_485 jm_L_54 rfl b rfl (ct_X7_culvert 0 b w hC.1 (hsc _) (hsc _) (hsc _) (hsc _) (fun ok h1 w1 f1 => ?_) (fun no => ?_))
  · have o1 := (f1 97 (by omega)).trans o
    have m1 := (f1 103 (by omega)).trans m
    refine jv_aload_n dL_law_488 rfl ?_
    refine jv_aload_n dL_law_489 rfl ?_
    refine jv_iload_n dL_law_490 rfl ?_
    refine jv_iconst dL_law_491 ?_
    refine jv_iadd dL_law_492 ?_
    refine jl_sld dL_law_493 hX (by omega) hn ?_
    refine jv_aload_n dL_law_494 rfl ?_
    refine jv_iload_n dL_law_495 rfl ?_
    refine jv_iconst dL_law_496 ?_
    refine jv_iadd dL_law_497 ?_
    refine jl_sld dL_law_498 hX (by omega) hn ?_
    refine jv_aload_n dL_law_499 rfl ?_
    refine jv_iload_n dL_law_500 rfl ?_
    refine jv_iconst dL_law_501 ?_
    refine jv_iadd dL_law_502 ?_
    refine jl_sld dL_law_503 hX (by omega) hn ?_
    refine jv_aload_n dL_law_504 rfl ?_
    refine jv_iload_n dL_law_505 rfl ?_
    refine jv_iconst dL_law_506 ?_
    refine jv_iadd dL_law_507 ?_
    refine jl_sld dL_law_508 hX (by omega) hn ?_
    refine jv_cV dL_law_509 jm_L_58 rfl o1 rfl (ct_X8_culvert 0 o1 m1 hC.1 (hsc _) (hsc _) (hsc _) (hsc _) (fun _ h2 o2 m2 f2 => ?_) (fun no => absurd ok no))
    refine jl_icmp 962 dL_law_512 rfl ?_
    have g : ∀ i, ¬ (9 ≤ i ∧ i ≤ 14) ∧ ¬ (i = 97 ∨ i = 103) → h2[i]? = h[i]? := fun i p => (f2 i (by simp; omega)).trans (f1 i (by omega))
    exact kk h2 ⟨t0, d0, rr, lv, _, si, st, at_, wr, da, ra, wa, ht, (g 0 (by omega)).trans b, o2, jI_R_g (fun i p => g i (by omega)) iR, jI_P_g (fun i p => g i (by omega)) iP, ⟨n + 1, _, _, _, _, _, _, by omega, jw_C_g (fun i p q => f2 i (by simp; omega)) w1, m2, jq_C_up hC ok, jq_gm_up hm ok, jq_me_up hl⟩, jI_S_g (fun i p => g i (by omega)) iS, jI_T_g ht (fun i p => g i (by omega)) iT, jI_D_g (fun i p => g i (by omega)) iD, jI_W_g (fun i p => g i (by omega)) iW⟩
  · refine jv_aload_n dL_law_488 rfl ?_
    refine jv_aload_n dL_law_489 rfl ?_
    refine jv_iload_n dL_law_490 rfl ?_
    refine jv_iconst dL_law_491 ?_
    refine jv_iadd dL_law_492 ?_
    refine jl_sld dL_law_493 hX (by omega) hn ?_
    refine jv_aload_n dL_law_494 rfl ?_
    refine jv_iload_n dL_law_495 rfl ?_
    refine jv_iconst dL_law_496 ?_
    refine jv_iadd dL_law_497 ?_
    refine jl_sld dL_law_498 hX (by omega) hn ?_
    refine jv_aload_n dL_law_499 rfl ?_
    refine jv_iload_n dL_law_500 rfl ?_
    refine jv_iconst dL_law_501 ?_
    refine jv_iadd dL_law_502 ?_
    refine jl_sld dL_law_503 hX (by omega) hn ?_
    refine jv_aload_n dL_law_504 rfl ?_
    refine jv_iload_n dL_law_505 rfl ?_
    refine jv_iconst dL_law_506 ?_
    refine jv_iadd dL_law_507 ?_
    refine jl_sld dL_law_508 hX (by omega) hn ?_
    refine jv_cV dL_law_509 jm_L_58 rfl o rfl (ct_X8_culvert 0 o m hC.1 (hsc _) (hsc _) (hsc _) (hsc _) (fun ok => absurd ok no) (fun _ => ?_))
    refine jl_icmp 962 dL_law_512 rfl ?_
    exact kk h I9
theorem jl_unit {X : jv_M} {n0 : Nat} {sc : Int → Int} {i : Int} {h : List jv_E} (hX : jl_X X n0 sc) (hn : n0 ≤ 2560) (hsc : ∀ k, jq_rg (sc k)) (hi : 0 ≤ i ∧ i + 5 ≤ n0) (hI : jI h) (kk : ∀ h', jI h' → jv_J X cL_law RL 15 962 [some (.ref 2000), some (.ref 0), some (.ref 97), some (.int (jv_i i))] [] h') : jv_J X cL_law RL 15 517 [some (.ref 2000), some (.ref 0), some (.ref 97), some (.int (jv_i i))] [] h := by
  have I9 := hI
  obtain ⟨t0, d0, rr, lv, cu, si, st, at_, wr, da, ra, wa, ht, b, o, iR, iP, iC, iS, iT, iD, iW⟩ := hI
  obtain ⟨a, sg, w, m, hS⟩ := iS
  refine jv_aload_n dL_law_517 rfl ?_
  refine jv_aload_n dL_law_518 rfl ?_
  refine jv_iload_n dL_law_519 rfl ?_
  refine jv_iconst dL_law_520 ?_
  refine jv_iadd dL_law_521 ?_
  refine jl_sld dL_law_522 hX (by omega) hn ?_
  refine jv_cV dL_law_523 jm_L_59 rfl b rfl (ct_X7_unit 0 b w hS (hsc _) (fun ok h1 w1 f1 => ?_) (fun no => ?_))
  · have o1 := (f1 97 (by omega)).trans o
    have m1 := (f1 104 (by omega)).trans m
    refine jv_aload_n dL_law_526 rfl ?_
    refine jv_aload_n dL_law_527 rfl ?_
    refine jv_iload_n dL_law_528 rfl ?_
    refine jv_iconst dL_law_529 ?_
    refine jv_iadd dL_law_530 ?_
    refine jl_sld dL_law_531 hX (by omega) hn ?_
    refine jv_cV dL_law_532 jm_L_63 rfl o1 rfl (ct_X8_unit 0 o1 m1 hS (hsc _) (fun _ h2 o2 m2 f2 => ?_) (fun no => absurd ok no))
    refine jl_icmp 962 dL_law_535 rfl ?_
    have g : ∀ i, ¬ (15 ≤ i ∧ i ≤ 16) ∧ ¬ (i = 97 ∨ i = 104) → h2[i]? = h[i]? := fun i p => (f2 i (by simp; omega)).trans (f1 i (by omega))
    exact kk h2 ⟨t0, d0, rr, lv, cu, _, st, at_, wr, da, ra, wa, ht, (g 0 (by omega)).trans b, o2, jI_R_g (fun i p => g i (by omega)) iR, jI_P_g (fun i p => g i (by omega)) iP, jI_C_g (fun i p => g i (by omega)) iC, ⟨_, _, jw_S_g (fun i p q => f2 i (by simp; omega)) w1, m2, jq_S_up hS ok⟩, jI_T_g ht (fun i p => g i (by omega)) iT, jI_D_g (fun i p => g i (by omega)) iD, jI_W_g (fun i p => g i (by omega)) iW⟩
  · refine jv_aload_n dL_law_526 rfl ?_
    refine jv_aload_n dL_law_527 rfl ?_
    refine jv_iload_n dL_law_528 rfl ?_
    refine jv_iconst dL_law_529 ?_
    refine jv_iadd dL_law_530 ?_
    refine jl_sld dL_law_531 hX (by omega) hn ?_
    refine jv_cV dL_law_532 jm_L_63 rfl o rfl (ct_X8_unit 0 o m hS (hsc _) (fun ok => absurd ok no) (fun _ => ?_))
    refine jl_icmp 962 dL_law_535 rfl ?_
    exact kk h I9
theorem jl_states {X : jv_M} {n0 : Nat} {sc : Int → Int} {i : Int} {h : List jv_E} (hX : jl_X X n0 sc) (hn : n0 ≤ 2560) (hsc : ∀ k, jq_rg (sc k)) (hi : 0 ≤ i ∧ i + 5 ≤ n0) (hI : jI h) (kk : ∀ h', jI h' → jv_J X cL_law RL 15 962 [some (.ref 2000), some (.ref 0), some (.ref 97), some (.int (jv_i i))] [] h') : jv_J X cL_law RL 15 540 [some (.ref 2000), some (.ref 0), some (.ref 97), some (.int (jv_i i))] [] h := by
  have I9 := hI
  obtain ⟨t0, d0, rr, lv, cu, si, st, at_, wr, da, ra, wa, ht, b, o, iR, iP, iC, iS, iT, iD, iW⟩ := hI
  obtain ⟨a, sg, w, m, hS⟩ := iS
  obtain ⟨R, en, rl, lo, hi9, F, ta, re, te, of, le9, eR, wt, ⟨u, t, en2, rl2, lo2, hi2, F2, wd⟩, ⟨c5, c6, c7, c8, c9⟩, gR, fo, En, MS⟩ := iT
  subst eR
  refine jv_aload_n dL_law_540 rfl ?_
  refine jv_cV dL_law_541 jm_L_64 rfl b rfl (ct_X7_states 0 (by omega) b w wd hS (fun gd h1 en' rl' F' a' b1 w1 wt1 fo1 En1 f1 => ?_) (fun bd h1 u' t' en' rl' F' a' b1 w1 wt1 f1 => ?_))
  · have o1 := (f1 97 (by omega) (by omega) (by omega)).trans o
    have m1 := (f1 104 (by omega) (by omega) (by omega)).trans m
    have e5 := (f1 105 (by omega) (by omega) (by omega)).trans c5
    have e6 := (f1 106 (by omega) (by omega) (by omega)).trans c6
    have e7 := (f1 107 (by omega) (by omega) (by omega)).trans c7
    have e8 := (f1 108 (by omega) (by omega) (by omega)).trans c8
    have e9 := (f1 109 (by omega) (by omega) (by omega)).trans c9
    refine jv_aload_n dL_law_544 rfl ?_
    refine jv_cV dL_law_545 jm_L_68 rfl o1 rfl (ct_X8_states 0 o1 m1 e5 e6 e7 e8 e9 hS (fun _ h2 a2 ta2 re2 te2 of2 le2 o2 k5 k6 k7 k8 k9 MS2 f2 => ?_) (fun bd => absurd (gd.symm.trans bd) (by decide)))
    refine jl_icmp 962 dL_law_548 rfl ?_
    have g : ∀ i, ¬ (i = 0 ∨ i = 15 ∨ i = 16) ∧ ¬ (d0 ≤ i ∧ i ≤ d0 + 35) ∧ ¬ (i = 97 ∨ (105 ≤ i ∧ i ≤ 109)) → h2[i]? = h[i]? := fun i p => (f2 i (by simp; omega)).trans (f1 i (by omega) (by omega) (by omega))
    exact kk h2 ⟨d0, t0, rr, lv, cu, _, _, _, _, da, ra, wa, by omega, (f2 0 (by simp)).trans b1, o2, jI_R_g (fun i p => g i (by omega)) iR, jI_P_g (fun i p => g i (by omega)) iP, jI_C_g (fun i p => g i (by omega)) iC, ⟨_, sg, jw_S_g (fun i p q => f2 i (by simp; omega)) w1, (f2 104 (by simp)).trans m1, ⟨by omega, hS.2⟩⟩, ⟨(jq_ss sg si 6 0).2.2, en', rl', _, _, F', ta2, re2, te2, of2, le2, rfl, jw_T_g wt1 (fun i p q => f2 i (by simp; omega)), ⟨_, _, _, _, _, _, _, jw_T_g wt (fun i p q => g i (by omega))⟩, ⟨k5, k6, k7, k8, k9⟩, jq_ss_R hS gd, fo1, En1, MS2⟩, jI_D_g (fun i p => g i (by omega)) iD, jI_W_g (fun i p => g i (by omega)) iW⟩
  · have o1 := (f1 97 (by omega) (by omega) (by omega)).trans o
    have m1 := (f1 104 (by omega) (by omega) (by omega)).trans m
    have e5 := (f1 105 (by omega) (by omega) (by omega)).trans c5
    have e6 := (f1 106 (by omega) (by omega) (by omega)).trans c6
    have e7 := (f1 107 (by omega) (by omega) (by omega)).trans c7
    have e8 := (f1 108 (by omega) (by omega) (by omega)).trans c8
    have e9 := (f1 109 (by omega) (by omega) (by omega)).trans c9
    refine jv_aload_n dL_law_544 rfl ?_
    refine jv_cV dL_law_545 jm_L_68 rfl o1 rfl (ct_X8_states 0 o1 m1 e5 e6 e7 e8 e9 hS (fun gd => absurd (gd.symm.trans bd) (by decide)) (fun _ h2 a2 ta2 re2 te2 of2 le2 o2 k5 k6 k7 k8 k9 LO f2 => ?_))
    refine jl_icmp 962 dL_law_548 rfl ?_
    have g : ∀ i, ¬ (i = 0 ∨ i = 15 ∨ i = 16) ∧ ¬ (d0 ≤ i ∧ i ≤ d0 + 35) ∧ ¬ (i = 97 ∨ (105 ≤ i ∧ i ≤ 109)) → h2[i]? = h[i]? := fun i p => (f2 i (by simp; omega)).trans (f1 i (by omega) (by omega) (by omega))
    exact kk h2 ⟨t0, d0, rr, lv, cu, _, _, _, _, da, ra, wa, ht, (f2 0 (by simp)).trans b1, o2, jI_R_g (fun i p => g i (by omega)) iR, jI_P_g (fun i p => g i (by omega)) iP, jI_C_g (fun i p => g i (by omega)) iC, ⟨_, sg, jw_S_g (fun i p q => f2 i (by simp; omega)) w1, (f2 104 (by simp)).trans m1, ⟨by omega, hS.2⟩⟩, ⟨R, en, rl, lo, hi9, F, ta2, re2, te2, of2, le2, rfl, jw_T_g wt (fun i p q => g i (by omega)), ⟨_, _, _, _, _, _, _, jw_T_g wt1 (fun i p q => f2 i (by simp; omega))⟩, ⟨k5, k6, k7, k8, k9⟩, gR, fo, En, jq_MS_Lo MS gR LO⟩, jI_D_g (fun i p => g i (by omega)) iD, jI_W_g (fun i p => g i (by omega)) iW⟩
theorem jl_state {X : jv_M} {n0 : Nat} {sc : Int → Int} {i : Int} {h : List jv_E} (hX : jl_X X n0 sc) (hn : n0 ≤ 2560) (hsc : ∀ k, jq_rg (sc k)) (hi : 0 ≤ i ∧ i + 5 ≤ n0) (hI : jI h) (kk : ∀ h', jI h' → jv_J X cL_law RL 15 962 [some (.ref 2000), some (.ref 0), some (.ref 97), some (.int (jv_i i))] [] h') : jv_J X cL_law RL 15 553 [some (.ref 2000), some (.ref 0), some (.ref 97), some (.int (jv_i i))] [] h := by
  have I9 := hI
  obtain ⟨t0, d0, rr, lv, cu, si, st, at_, wr, da, ra, wa, ht, b, o, iR, iP, iC, iS, iT, iD, iW⟩ := hI
  obtain ⟨n, wi, he, le, fa, va, me, en, w, m, hC, hm, hl⟩ := iC
  subst en
  obtain ⟨R, en, rl, lo, hi9, F, ta, re, te, of, le9, eR, wt, ⟨u, t, en2, rl2, lo2, hi2, F2, wd⟩, ⟨c5, c6, c7, c8, c9⟩, gR, fo, En, MS⟩ := iT
  subst eR
  refine jv_aload_n dL_law_553 rfl ?_
  refine jv_aload_n dL_law_554 rfl ?_
  refine jv_iload_n dL_law_555 rfl ?_
  refine jv_iconst dL_law_556 ?_
  refine jv_iadd dL_law_557 ?_
  refine jl_sld dL_law_558 hX (by omega) hn ?_
  refine jv_aload_n dL_law_559 rfl ?_
  refine jv_iload_n dL_law_560 rfl ?_
  refine jv_iconst dL_law_561 ?_
  refine jv_iadd dL_law_562 ?_
  refine jl_sld dL_law_563 hX (by omega) hn ?_
  refine jv_aload_n dL_law_564 rfl ?_
  refine jv_iload_n dL_law_565 rfl ?_
  refine jv_iconst dL_law_566 ?_
  refine jv_iadd dL_law_567 ?_
  refine jl_sld dL_law_568 hX (by omega) hn ?_
  refine jv_aload_n dL_law_569 rfl ?_
  refine jv_iload_n dL_law_570 rfl ?_
  refine jv_iconst dL_law_571 ?_
  refine jv_iadd dL_law_572 ?_
  refine jl_sld dL_law_573 hX (by omega) hn ?_
  refine jv_cV dL_law_574 jm_L_69 rfl b rfl (ct_X7_state 0 (by omega) b w wt fo En gR hC (hsc _) (hsc _) (hsc _) (hsc _) (fun ok h1 va' lo' hi' r w1 wt1 f1 fa1 => ?_) (fun no => ?_))
  · have o1 := (f1 97 (by omega) (by omega)).trans o
    have m1 := (f1 103 (by omega) (by omega)).trans m
    have e5 := (f1 105 (by omega) (by omega)).trans c5
    have e6 := (f1 106 (by omega) (by omega)).trans c6
    have e7 := (f1 107 (by omega) (by omega)).trans c7
    have e8 := (f1 108 (by omega) (by omega)).trans c8
    have e9 := (f1 109 (by omega) (by omega)).trans c9
    refine jv_aload_n dL_law_577 rfl ?_
    refine jv_aload_n dL_law_578 rfl ?_
    refine jv_iload_n dL_law_579 rfl ?_
    refine jv_iconst dL_law_580 ?_
    refine jv_iadd dL_law_581 ?_
    refine jl_sld dL_law_582 hX (by omega) hn ?_
    refine jv_aload_n dL_law_583 rfl ?_
    refine jv_iload_n dL_law_584 rfl ?_
    refine jv_iconst dL_law_585 ?_
    refine jv_iadd dL_law_586 ?_
    refine jl_sld dL_law_587 hX (by omega) hn ?_
    refine jv_aload_n dL_law_588 rfl ?_
    refine jv_iload_n dL_law_589 rfl ?_
    refine jv_iconst dL_law_590 ?_
    refine jv_iadd dL_law_591 ?_
    refine jl_sld dL_law_592 hX (by omega) hn ?_
    refine jv_aload_n dL_law_593 rfl ?_
    refine jv_iload_n dL_law_594 rfl ?_
    refine jv_iconst dL_law_595 ?_
    refine jv_iadd dL_law_596 ?_
    refine jl_sld dL_law_597 hX (by omega) hn ?_
    refine jv_cV dL_law_598 jm_L_72 rfl o1 rfl (ct_X8_state 0 o1 m1 e5 e6 e7 e8 e9 MS gR hm hC.1 (hsc _) (hsc _) (hsc _) (hsc _) (fun _ r2 fa2 => ?_) (fun no => absurd ok no))
    refine jl_icmp 962 dL_law_601 (jq_fa_un fa1 fa2 (fun s _ => by rw [jq_xc_xm (hl _ ok.1.1 ok.1.2)])) ?_
    have g : ∀ i, ¬ (9 ≤ i ∧ i ≤ 14) ∧ ¬ (t0 ≤ i ∧ i ≤ t0 + 35) → h1[i]? = h[i]? := fun i p => f1 i (by omega) (by omega)
    exact kk h1 ⟨t0, d0, rr, lv, _, si, _, at_, wr, da, ra, wa, ht, (g 0 (by omega)).trans b, o1, jI_R_g (fun i p => g i (by omega)) iR, jI_P_g (fun i p => g i (by omega)) iP, ⟨n, wi, he, le, fa, va', me, rfl, w1, m1, hC, hm, hl⟩, jI_S_g (fun i p => g i (by omega)) iS, ⟨R, en, rl, lo', hi', F, ta, re, te, of, le9, rfl, wt1, ⟨_, _, _, _, _, _, _, jw_T_g wd (fun i p q => g i (by omega))⟩, ⟨e5, e6, e7, e8, e9⟩, gR, fo, En, MS⟩, jI_D_g (fun i p => g i (by omega)) iD, jI_W_g (fun i p => g i (by omega)) iW⟩
  · refine jv_aload_n dL_law_577 rfl ?_
    refine jv_aload_n dL_law_578 rfl ?_
    refine jv_iload_n dL_law_579 rfl ?_
    refine jv_iconst dL_law_580 ?_
    refine jv_iadd dL_law_581 ?_
    refine jl_sld dL_law_582 hX (by omega) hn ?_
    refine jv_aload_n dL_law_583 rfl ?_
    refine jv_iload_n dL_law_584 rfl ?_
    refine jv_iconst dL_law_585 ?_
    refine jv_iadd dL_law_586 ?_
    refine jl_sld dL_law_587 hX (by omega) hn ?_
    refine jv_aload_n dL_law_588 rfl ?_
    refine jv_iload_n dL_law_589 rfl ?_
    refine jv_iconst dL_law_590 ?_
    refine jv_iadd dL_law_591 ?_
    refine jl_sld dL_law_592 hX (by omega) hn ?_
    refine jv_aload_n dL_law_593 rfl ?_
    refine jv_iload_n dL_law_594 rfl ?_
    refine jv_iconst dL_law_595 ?_
    refine jv_iadd dL_law_596 ?_
    refine jl_sld dL_law_597 hX (by omega) hn ?_
    refine jv_cV dL_law_598 jm_L_72 rfl o rfl (ct_X8_state 0 o m c5 c6 c7 c8 c9 MS gR hm hC.1 (hsc _) (hsc _) (hsc _) (hsc _) (fun ok => absurd ok no) (fun _ => ?_))
    refine jl_icmp 962 dL_law_601 rfl ?_
    exact kk h I9
theorem jl_head {X : jv_M} {n0 : Nat} {sc : Int → Int} {i : Int} {h : List jv_E} (hX : jl_X X n0 sc) (hn : n0 ≤ 2560) (hsc : ∀ k, jq_rg (sc k)) (hi : 0 ≤ i ∧ i + 5 ≤ n0) (hI : jI h) (kk : ∀ h', jI h' → jv_J X cL_law RL 15 962 [some (.ref 2000), some (.ref 0), some (.ref 97), some (.int (jv_i i))] [] h') : jv_J X cL_law RL 15 606 [some (.ref 2000), some (.ref 0), some (.ref 97), some (.int (jv_i i))] [] h := by
  have I9 := hI
  obtain ⟨t0, d0, rr, lv, cu, si, st, at_, wr, da, ra, wa, ht, b, o, iR, iP, iC, iS, iT, iD, iW⟩ := hI
  obtain ⟨n, wi, he, le, fa, va, me, en, w, m, hC, hm, hl⟩ := iC
  subst en
  obtain ⟨R, en, rl, lo, hi9, F, ta, re, te, of, le9, eR, wt, ⟨u, t, en2, rl2, lo2, hi2, F2, wd⟩, ⟨c5, c6, c7, c8, c9⟩, gR, fo, En, MS⟩ := iT
  subst eR
  refine jv_aload_n dL_law_606 rfl ?_
  refine jv_aload_n dL_law_607 rfl ?_
  refine jv_iload_n dL_law_608 rfl ?_
  refine jv_iconst dL_law_609 ?_
  refine jv_iadd dL_law_610 ?_
  refine jl_sld dL_law_611 hX (by omega) hn ?_
  refine jv_aload_n dL_law_612 rfl ?_
  refine jv_iload_n dL_law_613 rfl ?_
  refine jv_iconst dL_law_614 ?_
  refine jv_iadd dL_law_615 ?_
  refine jl_sld dL_law_616 hX (by omega) hn ?_
  refine jv_aload_n dL_law_617 rfl ?_
  refine jv_iload_n dL_law_618 rfl ?_
  refine jv_iconst dL_law_619 ?_
  refine jv_iadd dL_law_620 ?_
  refine jl_sld dL_law_621 hX (by omega) hn ?_
  refine jv_aload_n dL_law_622 rfl ?_
  refine jv_iload_n dL_law_623 rfl ?_
  refine jv_iconst dL_law_624 ?_
  refine jv_iadd dL_law_625 ?_
  refine jl_sld dL_law_626 hX (by omega) hn ?_
  refine jv_cV dL_law_627 jm_L_73 rfl b rfl (ct_X7_head 0 (by omega) b w wt fo En gR hC (hsc _) (hsc _) (hsc _) (hsc _) (fun ok h1 va' lo' hi' r w1 wt1 f1 wn ew fa1 => ?_) (fun no => ?_))
  · have o1 := (f1 97 (by omega) (by omega)).trans o
    have m1 := (f1 103 (by omega) (by omega)).trans m
    have e5 := (f1 105 (by omega) (by omega)).trans c5
    have e6 := (f1 106 (by omega) (by omega)).trans c6
    have e7 := (f1 107 (by omega) (by omega)).trans c7
    have e8 := (f1 108 (by omega) (by omega)).trans c8
    have e9 := (f1 109 (by omega) (by omega)).trans c9
    refine jv_aload_n dL_law_630 rfl ?_
    refine jv_aload_n dL_law_631 rfl ?_
    refine jv_iload_n dL_law_632 rfl ?_
    refine jv_iconst dL_law_633 ?_
    refine jv_iadd dL_law_634 ?_
    refine jl_sld dL_law_635 hX (by omega) hn ?_
    refine jv_aload_n dL_law_636 rfl ?_
    refine jv_iload_n dL_law_637 rfl ?_
    refine jv_iconst dL_law_638 ?_
    refine jv_iadd dL_law_639 ?_
    refine jl_sld dL_law_640 hX (by omega) hn ?_
    refine jv_aload_n dL_law_641 rfl ?_
    refine jv_iload_n dL_law_642 rfl ?_
    refine jv_iconst dL_law_643 ?_
    refine jv_iadd dL_law_644 ?_
    refine jl_sld dL_law_645 hX (by omega) hn ?_
    refine jv_aload_n dL_law_646 rfl ?_
    refine jv_iload_n dL_law_647 rfl ?_
    refine jv_iconst dL_law_648 ?_
    refine jv_iadd dL_law_649 ?_
    refine jl_sld dL_law_650 hX (by omega) hn ?_
    refine jv_cV dL_law_651 jm_L_76 rfl o1 rfl (ct_X8_head 0 o1 m1 e5 e6 e7 e8 e9 MS gR hm hC.1 (hsc _) (hsc _) (hsc _) (hsc _) (fun _ wn2 r2 ew2 fa2 => ?_) (fun no => absurd ok no))
    have ewn : wn2 = wn := by omega
    subst ewn
    refine jl_icmp 962 dL_law_654 (jq_lh_un fa1 fa2 (fun s y _ => by rw [jq_xc_xm (hl _ ok.1.1 ok.1.2)])) ?_
    have g : ∀ i, ¬ (9 ≤ i ∧ i ≤ 14) ∧ ¬ (t0 ≤ i ∧ i ≤ t0 + 35) → h1[i]? = h[i]? := fun i p => f1 i (by omega) (by omega)
    exact kk h1 ⟨t0, d0, rr, lv, _, si, _, at_, wr, da, ra, wa, ht, (g 0 (by omega)).trans b, o1, jI_R_g (fun i p => g i (by omega)) iR, jI_P_g (fun i p => g i (by omega)) iP, ⟨n, wi, he, le, fa, va', me, rfl, w1, m1, hC, hm, hl⟩, jI_S_g (fun i p => g i (by omega)) iS, ⟨R, en, rl, lo', hi', F, ta, re, te, of, le9, rfl, wt1, ⟨_, _, _, _, _, _, _, jw_T_g wd (fun i p q => g i (by omega))⟩, ⟨e5, e6, e7, e8, e9⟩, gR, fo, En, MS⟩, jI_D_g (fun i p => g i (by omega)) iD, jI_W_g (fun i p => g i (by omega)) iW⟩
  · refine jv_aload_n dL_law_630 rfl ?_
    refine jv_aload_n dL_law_631 rfl ?_
    refine jv_iload_n dL_law_632 rfl ?_
    refine jv_iconst dL_law_633 ?_
    refine jv_iadd dL_law_634 ?_
    refine jl_sld dL_law_635 hX (by omega) hn ?_
    refine jv_aload_n dL_law_636 rfl ?_
    refine jv_iload_n dL_law_637 rfl ?_
    refine jv_iconst dL_law_638 ?_
    refine jv_iadd dL_law_639 ?_
    refine jl_sld dL_law_640 hX (by omega) hn ?_
    refine jv_aload_n dL_law_641 rfl ?_
    refine jv_iload_n dL_law_642 rfl ?_
    refine jv_iconst dL_law_643 ?_
    refine jv_iadd dL_law_644 ?_
    refine jl_sld dL_law_645 hX (by omega) hn ?_
    refine jv_aload_n dL_law_646 rfl ?_
    refine jv_iload_n dL_law_647 rfl ?_
    refine jv_iconst dL_law_648 ?_
    refine jv_iadd dL_law_649 ?_
    refine jl_sld dL_law_650 hX (by omega) hn ?_
    refine jv_cV dL_law_651 jm_L_76 rfl o rfl (ct_X8_head 0 o m c5 c6 c7 c8 c9 MS gR hm hC.1 (hsc _) (hsc _) (hsc _) (hsc _) (fun ok => absurd ok no) (fun _ => ?_))
    refine jl_icmp 962 dL_law_654 rfl ?_
    exact kk h I9
theorem jl_day {X : jv_M} {n0 : Nat} {sc : Int → Int} {i : Int} {h : List jv_E} (hX : jl_X X n0 sc) (hn : n0 ≤ 2560) (hsc : ∀ k, jq_rg (sc k)) (hi : 0 ≤ i ∧ i + 5 ≤ n0) (hI : jI h) (kk : ∀ h', jI h' → jv_J X cL_law RL 15 962 [some (.ref 2000), some (.ref 0), some (.ref 97), some (.int (jv_i i))] [] h') : jv_J X cL_law RL 15 659 [some (.ref 2000), some (.ref 0), some (.ref 97), some (.int (jv_i i))] [] h := by
  have I9 := hI
  obtain ⟨t0, d0, rr, lv, cu, si, st, at_, wr, da, ra, wa, ht, b, o, iR, iP, iC, iS, iT, iD, iW⟩ := hI
  obtain ⟨n, cm, he, go, ab, so, ho, we, ov, al, en, w, m, hD, hrun⟩ := iD
  subst en
  refine jv_aload_n dL_law_659 rfl ?_
  refine jv_aload_n dL_law_660 rfl ?_
  refine jv_iload_n dL_law_661 rfl ?_
  refine jv_iconst dL_law_662 ?_
  refine jv_iadd dL_law_663 ?_
  refine jl_sld dL_law_664 hX (by omega) hn ?_
  refine jv_i2l dL_law_665 ?_ (hsc _)
  refine jv_bipush dL_law_666 ?_
  refine jl_lshl dL_law_668 ?_
  refine jv_aload_n dL_law_669 rfl ?_
  refine jv_iload_n dL_law_670 rfl ?_
  refine jv_iconst dL_law_671 ?_
  refine jv_iadd dL_law_672 ?_
  refine jl_sld dL_law_673 hX (by omega) hn ?_
  refine jv_i2l dL_law_674 ?_ (hsc _)
  refine jv_ldc2 dL_law_675 jk_L_27 ?_
  refine jl_land dL_law_678 ?_
  refine jl_lor dL_law_679 ?_
  refine jv_cV dL_law_680 jm_L_77 rfl b rfl (ct_X7_day 0 b w hD (jl_lg_in _ _) (fun ok h1 w1 f1 => ?_) (fun no => ?_))
  · have o1 := (f1 97 (by omega)).trans o
    have m1 := jw_MD_g (fun i p q => f1 i (by omega)) m
    refine jv_aload_n dL_law_683 rfl ?_
    refine jv_aload_n dL_law_684 rfl ?_
    refine jv_iload_n dL_law_685 rfl ?_
    refine jv_iconst dL_law_686 ?_
    refine jv_iadd dL_law_687 ?_
    refine jl_sld dL_law_688 hX (by omega) hn ?_
    refine jv_i2l dL_law_689 ?_ (hsc _)
    refine jv_bipush dL_law_690 ?_
    refine jl_lshl dL_law_692 ?_
    refine jv_aload_n dL_law_693 rfl ?_
    refine jv_iload_n dL_law_694 rfl ?_
    refine jv_iconst dL_law_695 ?_
    refine jv_iadd dL_law_696 ?_
    refine jl_sld dL_law_697 hX (by omega) hn ?_
    refine jv_i2l dL_law_698 ?_ (hsc _)
    refine jv_ldc2 dL_law_699 jk_L_27 ?_
    refine jl_land dL_law_702 ?_
    refine jl_lor dL_law_703 ?_
    refine jv_cV dL_law_704 jm_L_80 rfl o1 rfl (ct_X8_day 0 o1 m1 hD (jl_lg_in _ _) (fun _ h2 o2 m2 f2 => ?_) (fun no => absurd ok no))
    refine jl_icmp 962 dL_law_707 rfl ?_
    have g : ∀ i, ¬ (89 ≤ i ∧ i ≤ 94) ∧ ¬ (i = 97 ∨ (110 ≤ i ∧ i ≤ 113)) → h2[i]? = h[i]? := fun i p => (f2 i (by simp; omega)).trans (f1 i (by omega))
    exact kk h2 ⟨t0, d0, rr, lv, cu, si, st, at_, wr, _, _, wa, ht, (g 0 (by omega)).trans b, o2, jI_R_g (fun i p => g i (by omega)) iR, jI_P_g (fun i p => g i (by omega)) iP, jI_C_g (fun i p => g i (by omega)) iC, jI_S_g (fun i p => g i (by omega)) iS, jI_T_g ht (fun i p => g i (by omega)) iT, ⟨n + 1, _, _, _, _, _, _, _, _, _, by omega, jw_D_g (fun i p q => f2 i (by simp; omega)) w1, m2, jq_D_up hD ok.1 ok.2, Or.inl rfl⟩, jI_W_g (fun i p => g i (by omega)) iW⟩
  · refine jv_aload_n dL_law_683 rfl ?_
    refine jv_aload_n dL_law_684 rfl ?_
    refine jv_iload_n dL_law_685 rfl ?_
    refine jv_iconst dL_law_686 ?_
    refine jv_iadd dL_law_687 ?_
    refine jl_sld dL_law_688 hX (by omega) hn ?_
    refine jv_i2l dL_law_689 ?_ (hsc _)
    refine jv_bipush dL_law_690 ?_
    refine jl_lshl dL_law_692 ?_
    refine jv_aload_n dL_law_693 rfl ?_
    refine jv_iload_n dL_law_694 rfl ?_
    refine jv_iconst dL_law_695 ?_
    refine jv_iadd dL_law_696 ?_
    refine jl_sld dL_law_697 hX (by omega) hn ?_
    refine jv_i2l dL_law_698 ?_ (hsc _)
    refine jv_ldc2 dL_law_699 jk_L_27 ?_
    refine jl_land dL_law_702 ?_
    refine jl_lor dL_law_703 ?_
    refine jv_cV dL_law_704 jm_L_80 rfl o rfl (ct_X8_day 0 o m hD (jl_lg_in _ _) (fun ok => absurd ok no) (fun _ => ?_))
    refine jl_icmp 962 dL_law_707 rfl ?_
    exact kk h I9
theorem jl_run {X : jv_M} {n0 : Nat} {sc : Int → Int} {i : Int} {h : List jv_E} (hX : jl_X X n0 sc) (hn : n0 ≤ 2560) (hsc : ∀ k, jq_rg (sc k)) (hi : 0 ≤ i ∧ i + 5 ≤ n0) (hI : jI h) (kk : ∀ h', jI h' → jv_J X cL_law RL 15 962 [some (.ref 2000), some (.ref 0), some (.ref 97), some (.int (jv_i i))] [] h') : jv_J X cL_law RL 15 712 [some (.ref 2000), some (.ref 0), some (.ref 97), some (.int (jv_i i))] [] h := by
  have I9 := hI
  obtain ⟨t0, d0, rr, lv, cu, si, st, at_, wr, da, ra, wa, ht, b, o, iR, iP, iC, iS, iT, iD, iW⟩ := hI
  obtain ⟨n, cm, he, go, ab, so, ho, we, ov, al, en, w, m, hD, hrun⟩ := iD
  subst en
  refine jv_aload_n dL_law_712 rfl ?_
  refine jv_aload_n dL_law_713 rfl ?_
  refine jv_iload_n dL_law_714 rfl ?_
  refine jv_iconst dL_law_715 ?_
  refine jv_iadd dL_law_716 ?_
  refine jl_sld dL_law_717 hX (by omega) hn ?_
  refine jv_i2l dL_law_718 ?_ (hsc _)
  refine jv_bipush dL_law_719 ?_
  refine jl_lshl dL_law_721 ?_
  refine jv_aload_n dL_law_722 rfl ?_
  refine jv_iload_n dL_law_723 rfl ?_
  refine jv_iconst dL_law_724 ?_
  refine jv_iadd dL_law_725 ?_
  refine jl_sld dL_law_726 hX (by omega) hn ?_
  refine jv_i2l dL_law_727 ?_ (hsc _)
  refine jv_ldc2 dL_law_728 jk_L_27 ?_
  refine jl_land dL_law_731 ?_
  refine jl_lor dL_law_732 ?_
  refine jv_aload_n dL_law_733 rfl ?_
  refine jv_iload_n dL_law_734 rfl ?_
  refine jv_iconst dL_law_735 ?_
  refine jv_iadd dL_law_736 ?_
  refine jl_sld dL_law_737 hX (by omega) hn ?_
  refine jv_i2l dL_law_738 ?_ (hsc _)
  refine jv_bipush dL_law_739 ?_
  refine jl_lshl dL_law_741 ?_
  refine jv_aload_n dL_law_742 rfl ?_
  refine jv_iload_n dL_law_743 rfl ?_
  refine jv_iconst dL_law_744 ?_
  refine jv_iadd dL_law_745 ?_
  refine jl_sld dL_law_746 hX (by omega) hn ?_
  refine jv_i2l dL_law_747 ?_ (hsc _)
  refine jv_ldc2 dL_law_748 jk_L_27 ?_
  refine jl_land dL_law_751 ?_
  refine jl_lor dL_law_752 ?_
  refine jv_cV dL_law_753 jm_L_81 rfl b rfl (ct_X7_run 0 b w hD (jl_lg_in _ _) (jl_lg_in _ _) (fun ok h1 he' go' ab' so' w1 q1 f1 => ?_) (fun no => ?_))
  · have o1 := (f1 97 (by omega)).trans o
    have m1 := jw_MD_g (fun i p q => f1 i (by omega)) m
    refine jv_aload_n dL_law_756 rfl ?_
    refine jv_aload_n dL_law_757 rfl ?_
    refine jv_iload_n dL_law_758 rfl ?_
    refine jv_iconst dL_law_759 ?_
    refine jv_iadd dL_law_760 ?_
    refine jl_sld dL_law_761 hX (by omega) hn ?_
    refine jv_i2l dL_law_762 ?_ (hsc _)
    refine jv_bipush dL_law_763 ?_
    refine jl_lshl dL_law_765 ?_
    refine jv_aload_n dL_law_766 rfl ?_
    refine jv_iload_n dL_law_767 rfl ?_
    refine jv_iconst dL_law_768 ?_
    refine jv_iadd dL_law_769 ?_
    refine jl_sld dL_law_770 hX (by omega) hn ?_
    refine jv_i2l dL_law_771 ?_ (hsc _)
    refine jv_ldc2 dL_law_772 jk_L_27 ?_
    refine jl_land dL_law_775 ?_
    refine jl_lor dL_law_776 ?_
    refine jv_aload_n dL_law_777 rfl ?_
    refine jv_iload_n dL_law_778 rfl ?_
    refine jv_iconst dL_law_779 ?_
    refine jv_iadd dL_law_780 ?_
    refine jl_sld dL_law_781 hX (by omega) hn ?_
    refine jv_i2l dL_law_782 ?_ (hsc _)
    refine jv_bipush dL_law_783 ?_
    refine jl_lshl dL_law_785 ?_
    refine jv_aload_n dL_law_786 rfl ?_
    refine jv_iload_n dL_law_787 rfl ?_
    refine jv_iconst dL_law_788 ?_
    refine jv_iadd dL_law_789 ?_
    refine jl_sld dL_law_790 hX (by omega) hn ?_
    refine jv_i2l dL_law_791 ?_ (hsc _)
    refine jv_ldc2 dL_law_792 jk_L_27 ?_
    refine jl_land dL_law_795 ?_
    refine jl_lor dL_law_796 ?_
    refine jv_cV dL_law_797 jm_L_85 rfl o1 rfl (ct_X8_run 0 o1 m1 hD (jl_lg_in _ _) (jl_lg_in _ _) (fun _ h2 ho' we' ov' o2 m2 q2 f2 => ?_) (fun no => absurd ok no))
    refine jl_icmp 962 dL_law_800 rfl ?_
    have g : ∀ i, ¬ (89 ≤ i ∧ i ≤ 94) ∧ ¬ (i = 97 ∨ (110 ≤ i ∧ i ≤ 113)) → h2[i]? = h[i]? := fun i p => (f2 i (by simp; omega)).trans (f1 i (by omega))
    exact kk h2 ⟨t0, d0, rr, lv, cu, si, st, at_, wr, _, _, wa, ht, (g 0 (by omega)).trans b, o2, jI_R_g (fun i p => g i (by omega)) iR, jI_P_g (fun i p => g i (by omega)) iP, jI_C_g (fun i p => g i (by omega)) iC, jI_S_g (fun i p => g i (by omega)) iS, jI_T_g ht (fun i p => g i (by omega)) iT, ⟨n, _, _, _, _, _, _, _, _, _, rfl, jw_D_g (fun i p q => f2 i (by simp; omega)) w1, m2, hD, Or.inr ⟨rfl, _, _, q1, q2⟩⟩, jI_W_g (fun i p => g i (by omega)) iW⟩
  · refine jv_aload_n dL_law_756 rfl ?_
    refine jv_aload_n dL_law_757 rfl ?_
    refine jv_iload_n dL_law_758 rfl ?_
    refine jv_iconst dL_law_759 ?_
    refine jv_iadd dL_law_760 ?_
    refine jl_sld dL_law_761 hX (by omega) hn ?_
    refine jv_i2l dL_law_762 ?_ (hsc _)
    refine jv_bipush dL_law_763 ?_
    refine jl_lshl dL_law_765 ?_
    refine jv_aload_n dL_law_766 rfl ?_
    refine jv_iload_n dL_law_767 rfl ?_
    refine jv_iconst dL_law_768 ?_
    refine jv_iadd dL_law_769 ?_
    refine jl_sld dL_law_770 hX (by omega) hn ?_
    refine jv_i2l dL_law_771 ?_ (hsc _)
    refine jv_ldc2 dL_law_772 jk_L_27 ?_
    refine jl_land dL_law_775 ?_
    refine jl_lor dL_law_776 ?_
    refine jv_aload_n dL_law_777 rfl ?_
    refine jv_iload_n dL_law_778 rfl ?_
    refine jv_iconst dL_law_779 ?_
    refine jv_iadd dL_law_780 ?_
    refine jl_sld dL_law_781 hX (by omega) hn ?_
    refine jv_i2l dL_law_782 ?_ (hsc _)
    refine jv_bipush dL_law_783 ?_
    refine jl_lshl dL_law_785 ?_
    refine jv_aload_n dL_law_786 rfl ?_
    refine jv_iload_n dL_law_787 rfl ?_
    refine jv_iconst dL_law_788 ?_
    refine jv_iadd dL_law_789 ?_
    refine jl_sld dL_law_790 hX (by omega) hn ?_
    refine jv_i2l dL_law_791 ?_ (hsc _)
    refine jv_ldc2 dL_law_792 jk_L_27 ?_
    refine jl_land dL_law_795 ?_
    refine jl_lor dL_law_796 ?_
    refine jv_cV dL_law_797 jm_L_85 rfl o rfl (ct_X8_run 0 o m hD (jl_lg_in _ _) (jl_lg_in _ _) (fun ok => absurd ok no) (fun _ => ?_))
    refine jl_icmp 962 dL_law_800 rfl ?_
    exact kk h I9
theorem jl_behind {X : jv_M} {n0 : Nat} {sc : Int → Int} {i : Int} {h : List jv_E} (hX : jl_X X n0 sc) (hn : n0 ≤ 2560) (hsc : ∀ k, jq_rg (sc k)) (hi : 0 ≤ i ∧ i + 5 ≤ n0) (hI : jI h) (kk : ∀ h', jI h' → jv_J X cL_law RL 15 962 [some (.ref 2000), some (.ref 0), some (.ref 97), some (.int (jv_i i))] [] h') : jv_J X cL_law RL 15 805 [some (.ref 2000), some (.ref 0), some (.ref 97), some (.int (jv_i i))] [] h := by
  have I9 := hI
  obtain ⟨t0, d0, rr, lv, cu, si, st, at_, wr, da, ra, wa, ht, b, o, iR, iP, iC, iS, iT, iD, iW⟩ := hI
  obtain ⟨n, cm, he, go, ab, so, ho, we, ov, al, en, w, m, hD, hrun⟩ := iD
  subst en
  have hr1 : 0 ≤ ra ∧ ra ≤ 1 := by rcases hrun with z | z <;> omega
  refine jv_aload_n dL_law_805 rfl ?_
  refine jv_aload_n dL_law_806 rfl ?_
  refine jv_iload_n dL_law_807 rfl ?_
  refine jv_iconst dL_law_808 ?_
  refine jv_iadd dL_law_809 ?_
  refine jl_sld dL_law_810 hX (by omega) hn ?_
  refine jv_aload_n dL_law_811 rfl ?_
  refine jv_iload_n dL_law_812 rfl ?_
  refine jv_iconst dL_law_813 ?_
  refine jv_iadd dL_law_814 ?_
  refine jl_sld dL_law_815 hX (by omega) hn ?_
  refine jv_cV dL_law_816 jm_L_86 rfl b rfl (ct_X7_behind 0 b w hD hr1 (hsc _) (hsc _) ?_)
  refine jv_aload_n dL_law_819 rfl ?_
  refine jv_aload_n dL_law_820 rfl ?_
  refine jv_iload_n dL_law_821 rfl ?_
  refine jv_iconst dL_law_822 ?_
  refine jv_iadd dL_law_823 ?_
  refine jl_sld dL_law_824 hX (by omega) hn ?_
  refine jv_aload_n dL_law_825 rfl ?_
  refine jv_iload_n dL_law_826 rfl ?_
  refine jv_iconst dL_law_827 ?_
  refine jv_iadd dL_law_828 ?_
  refine jl_sld dL_law_829 hX (by omega) hn ?_
  refine jv_cV dL_law_830 jm_L_90 rfl o rfl (ct_X8_behind 0 o m hD hr1 (hsc _) (hsc _) ?_)
  refine jl_lcmp 962 dL_law_833 dL_law_834 (jq_rc_eq hrun _ _) ?_
  exact kk h I9
theorem jl_room {X : jv_M} {n0 : Nat} {sc : Int → Int} {i : Int} {h : List jv_E} (hX : jl_X X n0 sc) (hn : n0 ≤ 2560) (hsc : ∀ k, jq_rg (sc k)) (hi : 0 ≤ i ∧ i + 5 ≤ n0) (hI : jI h) (kk : ∀ h', jI h' → jv_J X cL_law RL 15 962 [some (.ref 2000), some (.ref 0), some (.ref 97), some (.int (jv_i i))] [] h') : jv_J X cL_law RL 15 839 [some (.ref 2000), some (.ref 0), some (.ref 97), some (.int (jv_i i))] [] h := by
  have I9 := hI
  obtain ⟨t0, d0, rr, lv, cu, si, st, at_, wr, da, ra, wa, ht, b, o, iR, iP, iC, iS, iT, iD, iW⟩ := hI
  obtain ⟨n, cm, he, go, ab, so, ho, we, ov, al, en, w, m, hD, hrun⟩ := iD
  subst en
  refine jv_aload_n dL_law_839 rfl ?_
  refine jv_aload_n dL_law_840 rfl ?_
  refine jv_iload_n dL_law_841 rfl ?_
  refine jv_iconst dL_law_842 ?_
  refine jv_iadd dL_law_843 ?_
  refine jl_sld dL_law_844 hX (by omega) hn ?_
  refine jv_i2l dL_law_845 ?_ (hsc _)
  refine jv_bipush dL_law_846 ?_
  refine jl_lshl dL_law_848 ?_
  refine jv_aload_n dL_law_849 rfl ?_
  refine jv_iload_n dL_law_850 rfl ?_
  refine jv_iconst dL_law_851 ?_
  refine jv_iadd dL_law_852 ?_
  refine jl_sld dL_law_853 hX (by omega) hn ?_
  refine jv_i2l dL_law_854 ?_ (hsc _)
  refine jv_ldc2 dL_law_855 jk_L_27 ?_
  refine jl_land dL_law_858 ?_
  refine jl_lor dL_law_859 ?_
  refine jv_aload_n dL_law_860 rfl ?_
  refine jv_iload_n dL_law_861 rfl ?_
  refine jv_iconst dL_law_862 ?_
  refine jv_iadd dL_law_863 ?_
  refine jl_sld dL_law_864 hX (by omega) hn ?_
  refine jv_cV dL_law_865 jm_L_91 rfl b rfl (ct_X7_room 0 b w hD (jl_lg_in _ _) (hsc _) (fun ok r h1 he' go' ab' so' w1 q1 f1 => ?_) (fun no => ?_))
  · have o1 := (f1 97 (by omega)).trans o
    have m1 := jw_MD_g (fun i p q => f1 i (by omega)) m
    refine jv_aload_n dL_law_868 rfl ?_
    refine jv_aload_n dL_law_869 rfl ?_
    refine jv_iload_n dL_law_870 rfl ?_
    refine jv_iconst dL_law_871 ?_
    refine jv_iadd dL_law_872 ?_
    refine jl_sld dL_law_873 hX (by omega) hn ?_
    refine jv_i2l dL_law_874 ?_ (hsc _)
    refine jv_bipush dL_law_875 ?_
    refine jl_lshl dL_law_877 ?_
    refine jv_aload_n dL_law_878 rfl ?_
    refine jv_iload_n dL_law_879 rfl ?_
    refine jv_iconst dL_law_880 ?_
    refine jv_iadd dL_law_881 ?_
    refine jl_sld dL_law_882 hX (by omega) hn ?_
    refine jv_i2l dL_law_883 ?_ (hsc _)
    refine jv_ldc2 dL_law_884 jk_L_27 ?_
    refine jl_land dL_law_887 ?_
    refine jl_lor dL_law_888 ?_
    refine jv_aload_n dL_law_889 rfl ?_
    refine jv_iload_n dL_law_890 rfl ?_
    refine jv_iconst dL_law_891 ?_
    refine jv_iadd dL_law_892 ?_
    refine jl_sld dL_law_893 hX (by omega) hn ?_
    refine jv_cV dL_law_894 jm_L_95 rfl o1 rfl (ct_X8_room 0 o1 m1 hD (jl_lg_in _ _) (hsc _) (fun _ r2 h2 ho' we' ov' o2 m2 q2 f2 => ?_) (fun no => absurd ok no))
    refine jl_lcmp 962 dL_law_897 dL_law_898 (jq_lr_un q1 q2) ?_
    have g : ∀ i, ¬ (89 ≤ i ∧ i ≤ 94) ∧ ¬ (i = 97 ∨ (110 ≤ i ∧ i ≤ 113)) → h2[i]? = h[i]? := fun i p => (f2 i (by simp; omega)).trans (f1 i (by omega))
    exact kk h2 ⟨t0, d0, rr, lv, cu, si, st, at_, wr, _, _, wa, ht, (g 0 (by omega)).trans b, o2, jI_R_g (fun i p => g i (by omega)) iR, jI_P_g (fun i p => g i (by omega)) iP, jI_C_g (fun i p => g i (by omega)) iC, jI_S_g (fun i p => g i (by omega)) iS, jI_T_g ht (fun i p => g i (by omega)) iT, ⟨n, _, _, _, _, _, _, _, _, _, rfl, jw_D_g (fun i p q => f2 i (by simp; omega)) w1, m2, hD, Or.inl rfl⟩, jI_W_g (fun i p => g i (by omega)) iW⟩
  · refine jv_aload_n dL_law_868 rfl ?_
    refine jv_aload_n dL_law_869 rfl ?_
    refine jv_iload_n dL_law_870 rfl ?_
    refine jv_iconst dL_law_871 ?_
    refine jv_iadd dL_law_872 ?_
    refine jl_sld dL_law_873 hX (by omega) hn ?_
    refine jv_i2l dL_law_874 ?_ (hsc _)
    refine jv_bipush dL_law_875 ?_
    refine jl_lshl dL_law_877 ?_
    refine jv_aload_n dL_law_878 rfl ?_
    refine jv_iload_n dL_law_879 rfl ?_
    refine jv_iconst dL_law_880 ?_
    refine jv_iadd dL_law_881 ?_
    refine jl_sld dL_law_882 hX (by omega) hn ?_
    refine jv_i2l dL_law_883 ?_ (hsc _)
    refine jv_ldc2 dL_law_884 jk_L_27 ?_
    refine jl_land dL_law_887 ?_
    refine jl_lor dL_law_888 ?_
    refine jv_aload_n dL_law_889 rfl ?_
    refine jv_iload_n dL_law_890 rfl ?_
    refine jv_iconst dL_law_891 ?_
    refine jv_iadd dL_law_892 ?_
    refine jl_sld dL_law_893 hX (by omega) hn ?_
    refine jv_cV dL_law_894 jm_L_95 rfl o rfl (ct_X8_room 0 o m hD (jl_lg_in _ _) (hsc _) (fun ok => absurd ok no) (fun _ => ?_))
    refine jl_lcmp 962 dL_law_897 dL_law_898 rfl ?_
    exact kk h I9
theorem jl_way {X : jv_M} {n0 : Nat} {sc : Int → Int} {i : Int} {h : List jv_E} (hX : jl_X X n0 sc) (hn : n0 ≤ 2560) (hsc : ∀ k, jq_rg (sc k)) (hi : 0 ≤ i ∧ i + 5 ≤ n0) (hI : jI h) (kk : ∀ h', jI h' → jv_J X cL_law RL 15 962 [some (.ref 2000), some (.ref 0), some (.ref 97), some (.int (jv_i i))] [] h') : jv_J X cL_law RL 15 903 [some (.ref 2000), some (.ref 0), some (.ref 97), some (.int (jv_i i))] [] h := by
  have I9 := hI
  obtain ⟨t0, d0, rr, lv, cu, si, st, at_, wr, da, ra, wa, ht, b, o, iR, iP, iC, iS, iT, iD, iW⟩ := hI
  obtain ⟨f, w, m, hn5, hf⟩ := iW
  refine jv_aload_n dL_law_903 rfl ?_
  refine jv_aload_n dL_law_904 rfl ?_
  refine jv_iload_n dL_law_905 rfl ?_
  refine jv_iconst dL_law_906 ?_
  refine jv_iadd dL_law_907 ?_
  refine jl_sld dL_law_908 hX (by omega) hn ?_
  refine jv_cV dL_law_909 jm_L_96 rfl b rfl (ct_X7_way 0 b w hn5 (hsc _) (fun ok h1 w1 f1 => ?_) (fun no => ?_))
  · have o1 := (f1 97 (by omega)).trans o
    have m1 := (f1 114 (by omega)).trans m
    refine jv_aload_n dL_law_912 rfl ?_
    refine jv_aload_n dL_law_913 rfl ?_
    refine jv_iload_n dL_law_914 rfl ?_
    refine jv_iconst dL_law_915 ?_
    refine jv_iadd dL_law_916 ?_
    refine jl_sld dL_law_917 hX (by omega) hn ?_
    refine jv_cV dL_law_918 jm_L_99 rfl o1 rfl (ct_X8_way 0 o1 m1 hn5 (hsc _) (fun _ h2 o2 m2 f2 => ?_) (fun no => absurd ok no))
    refine jl_icmp 962 dL_law_921 rfl ?_
    have g : ∀ i, ¬ (95 ≤ i ∧ i ≤ 96) ∧ ¬ (i = 97 ∨ i = 114) → h2[i]? = h[i]? := fun i p => (f2 i (by simp; omega)).trans (f1 i (by omega))
    exact kk h2 ⟨t0, d0, rr, lv, cu, si, st, at_, wr, da, ra, _, ht, (g 0 (by omega)).trans b, o2, jI_R_g (fun i p => g i (by omega)) iR, jI_P_g (fun i p => g i (by omega)) iP, jI_C_g (fun i p => g i (by omega)) iC, jI_S_g (fun i p => g i (by omega)) iS, jI_T_g ht (fun i p => g i (by omega)) iT, jI_D_g (fun i p => g i (by omega)) iD, ⟨_, jw_W_g (fun i p q => f2 i (by simp; omega)) w1, m2, by have := ok.2; omega, fun i => jq_up_b hf ok.1 i⟩⟩
  · refine jv_aload_n dL_law_912 rfl ?_
    refine jv_aload_n dL_law_913 rfl ?_
    refine jv_iload_n dL_law_914 rfl ?_
    refine jv_iconst dL_law_915 ?_
    refine jv_iadd dL_law_916 ?_
    refine jl_sld dL_law_917 hX (by omega) hn ?_
    refine jv_cV dL_law_918 jm_L_99 rfl o rfl (ct_X8_way 0 o m hn5 (hsc _) (fun ok => absurd ok no) (fun _ => ?_))
    refine jl_icmp 962 dL_law_921 rfl ?_
    exact kk h I9
theorem jl_stops {X : jv_M} {n0 : Nat} {sc : Int → Int} {i : Int} {h : List jv_E} (hX : jl_X X n0 sc) (hn : n0 ≤ 2560) (hsc : ∀ k, jq_rg (sc k)) (hi : 0 ≤ i ∧ i + 5 ≤ n0) (hI : jI h) (kk : ∀ h', jI h' → jv_J X cL_law RL 15 962 [some (.ref 2000), some (.ref 0), some (.ref 97), some (.int (jv_i i))] [] h') : jv_J X cL_law RL 15 926 [some (.ref 2000), some (.ref 0), some (.ref 97), some (.int (jv_i i))] [] h := by
  have I9 := hI
  obtain ⟨t0, d0, rr, lv, cu, si, st, at_, wr, da, ra, wa, ht, b, o, iR, iP, iC, iS, iT, iD, iW⟩ := hI
  obtain ⟨f, w, m, hn5, hf⟩ := iW
  refine jv_aload_n dL_law_926 rfl ?_
  refine jv_cV dL_law_927 jm_L_100 rfl b rfl (ct_X7_stops 0 b w hn5 hf ?_)
  refine jv_aload_n dL_law_930 rfl ?_
  refine jv_cV dL_law_931 jm_L_103 rfl o rfl (ct_X8_stops 0 o m hn5 hf ?_)
  refine jl_icmp 962 dL_law_934 rfl ?_
  exact kk h I9
theorem jl_count {X : jv_M} {n0 : Nat} {sc : Int → Int} {i : Int} {h : List jv_E} (hX : jl_X X n0 sc) (hn : n0 ≤ 2560) (hsc : ∀ k, jq_rg (sc k)) (hi : 0 ≤ i ∧ i + 5 ≤ n0) (hI : jI h) (kk : ∀ h', jI h' → jv_J X cL_law RL 15 962 [some (.ref 2000), some (.ref 0), some (.ref 97), some (.int (jv_i i))] [] h') : jv_J X cL_law RL 15 939 [some (.ref 2000), some (.ref 0), some (.ref 97), some (.int (jv_i i))] [] h := by
  have I9 := hI
  obtain ⟨t0, d0, rr, lv, cu, si, st, at_, wr, da, ra, wa, ht, b, o, iR, iP, iC, iS, iT, iD, iW⟩ := hI
  obtain ⟨n1, ys, ms, ds, en1, w1, -⟩ := iR
  obtain ⟨n2, f, ar, co, en2, w2, -⟩ := iP
  obtain ⟨n3, wi, he, le, fa, va, me, en3, w3, -⟩ := iC
  obtain ⟨a, sg, w4, -⟩ := iS
  obtain ⟨R, en, rl, lo, hi9, F, ta, re, te, of, le9, eR, w5, -⟩ := iT
  obtain ⟨n6, cm, he2, go, ab, so, ho, we, ov, al, en6, w6, -⟩ := iD
  obtain ⟨f7, w7, -⟩ := iW
  subst en1; subst en2; subst en3; subst eR; subst en6
  refine jv_aload_n dL_law_939 rfl ?_
  refine jv_aload_n dL_law_940 rfl ?_
  refine jv_iload_n dL_law_941 rfl ?_
  refine jv_iconst dL_law_942 ?_
  refine jv_iadd dL_law_943 ?_
  refine jl_sld dL_law_944 hX (by omega) hn ?_
  refine jv_cV dL_law_945 jm_L_104 rfl b rfl (ct_X7_count 0 b w1 w2 w3 w5 w6 w7 w4 (hsc _) ?_)
  refine jv_aload_n dL_law_948 rfl ?_
  refine jv_aload_n dL_law_949 rfl ?_
  refine jv_iload_n dL_law_950 rfl ?_
  refine jv_iconst dL_law_951 ?_
  refine jv_iadd dL_law_952 ?_
  refine jl_sld dL_law_953 hX (by omega) hn ?_
  refine jv_cV dL_law_954 jm_L_107 rfl o rfl (ct_X8_count 0 o (hsc _) ?_)
  refine jl_icmp 962 dL_law_957 rfl ?_
  exact kk h I9
