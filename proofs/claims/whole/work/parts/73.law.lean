set_option maxHeartbeats 4000000 in
set_option maxRecDepth 100000 in
theorem law_c0_j {G : Gt} {X : Cxt} {Q : State → Prop} {b L N1 N2 : Nat} {xs : Nat → Int32} (C : Cx G X cL_law RL wsL_law 7 room_1) (hS : Scr G X b L xs) (hs : (xl X).stackTraces = false) (hN : N1 + 2 ≤ 601024 ∧ N2 + 12 ≤ 7293034) {v4 : Int32} {k23 : Mem → Prop} (hk : ∀ μ : Mem, k23 μ → J G X Q 7 (N1 + 2) (N2 + 12) 1765 [(0, .ref b), (1, .ref (ad G 0)), (2, .ref (ad G 31)), (3, .ref (ad G 56)), (4, .int v4)] [] μ) {μ : Mem} (h : w_law_c0 xs L k23 v4 μ) : J G X Q 7 N1 N2 156 [(0, .ref b), (1, .ref (ad G 0)), (2, .ref (ad G 31)), (3, .ref (ad G 56)), (4, .int v4)] [] μ := by
  unfold w_law_c0 at h
  refine j_aload_n C 1 dL_law_156 rfl ?_
  refine j_aload_n C 0 dL_law_157 rfl ?_
  refine j_iload C 4 dL_law_158 rfl ?_
  refine j_iconst (v := 1) C dL_law_160 (by decide) ?_
  refine j_iadd C dL_law_161 ?_
  have b1 := h.1
  replace h := h.2
  refine j_sld C hS b1 dL_law_162 ?_
  refine j_aload_n C 0 dL_law_163 rfl ?_
  refine j_iload C 4 dL_law_164 rfl ?_
  refine j_iconst (v := 2) C dL_law_166 (by decide) ?_
  refine j_iadd C dL_law_167 ?_
  have b2 := h.1
  replace h := h.2
  refine j_sld C hS b2 dL_law_168 ?_
  refine j_aload_n C 3 dL_law_169 rfl ?_
  refine j_cWI (n := 4) (rest := []) (k1 := (N1 + 1)) (k2 := (N2 + 6)) C (c_L_folder (xl X) G C.2.2.1 hs _ (xs (ix (v4 + (1 : Int32)))) (xs (ix (v4 + (2 : Int32)))) μ) h gL_law_L_folder rfl ⟨rfl, rfl⟩ (by decide +kernel) ⟨by decide, by decide⟩ ⟨by have := hN.1; show _ ≤ 601024; omega, by have := hN.2; show _ ≤ 7293034; omega⟩ rfl rfl (Nat.le_of_ble_eq_true rfl) dL_law_170 rfl rfl (fun r4 μ3 h => ?_)
  refine j_istore (lv' := [(0, .ref b), (1, .ref (ad G 0)), (2, .ref (ad G 31)), (3, .ref (ad G 56)), (4, .int v4), (5, .int r4)]) C dL_law_173 (by decide) rfl rfl ?_
  refine j_aload_n C 2 dL_law_175 rfl ?_
  refine j_aload_n C 0 dL_law_176 rfl ?_
  refine j_iload C 4 dL_law_177 rfl ?_
  refine j_iconst (v := 1) C dL_law_179 (by decide) ?_
  refine j_iadd C dL_law_180 ?_
  have b5 := h.1
  replace h := h.2
  refine j_sld C hS b5 dL_law_181 ?_
  refine j_aload_n C 0 dL_law_182 rfl ?_
  refine j_iload C 4 dL_law_183 rfl ?_
  refine j_iconst (v := 2) C dL_law_185 (by decide) ?_
  refine j_iadd C dL_law_186 ?_
  have b6 := h.1
  replace h := h.2
  refine j_sld C hS b6 dL_law_187 ?_
  refine j_cVI (n := 2) (rest := []) (k1 := (N1 + 1)) (k2 := (N2 + 6)) C 31 (c_X8_folder (xl X) G C.2.2.1 _ (xs (ix (v4 + (1 : Int32)))) (xs (ix (v4 + (2 : Int32)))) μ3) h gL_law_X8_folder rfl ⟨rfl, rfl⟩ (by decide +kernel) ⟨by decide, by decide⟩ ⟨by have := hN.1; show _ ≤ 601024; omega, by have := hN.2; show _ ≤ 7293034; omega⟩ sh_31 (by decide) cl_X8 rfl rfl (Nat.le_of_ble_eq_true rfl) dL_law_188 rfl rfl (fun r8 μ7 h => ?_)
  refine j_istore (lv' := [(0, .ref b), (1, .ref (ad G 0)), (2, .ref (ad G 31)), (3, .ref (ad G 56)), (4, .int v4), (5, .int r4), (6, .int r8)]) C dL_law_191 (by decide) rfl rfl ?_
  refine j_aload_n C 2 dL_law_193 rfl ?_
  refine j_cVI (n := 0) (rest := []) (k1 := (N1 + 1)) (k2 := (N2 + 6)) C 31 (c_X8_thrown (xl X) G C.2.2.1 _ μ7) h gL_law_X8_thrown rfl ⟨rfl, rfl⟩ (by decide +kernel) ⟨by decide, by decide⟩ ⟨by have := hN.1; show _ ≤ 601024; omega, by have := hN.2; show _ ≤ 7293034; omega⟩ sh_31 (by decide) cl_X8 rfl rfl (Nat.le_of_ble_eq_true rfl) dL_law_194 rfl rfl (fun r10 μ9 h => ?_)
  refine j_iload C 5 dL_law_197 rfl ?_
  refine j_icmp_eq C 204 dL_law_199 (by decide) (fun c13 => ?_) (fun c13 => ?_)
  · replace h := h.1 c13
    refine j_iload C 5 dL_law_204 rfl ?_
    refine j_if_ne C 221 dL_law_206 (by decide) (fun c12 => ?_) (fun c12 => ?_)
    · replace h := h.1 c12
      refine j_goto C 1765 dL_law_221 (by decide) ?_
      refine j_forget [0, 1, 2, 3, 4] rfl ?_
      refine j_widen (k1 := N1 + 2) (k2 := N2 + 12) (by omega) (by omega) ?_
      exact hk _ h
    · replace h := h.2 c12
      refine j_aload_n C 3 dL_law_209 rfl ?_
      refine j_iconst (v := 0) C dL_law_210 (by decide) ?_
      refine j_lald C 56 sh_56 (by decide) in01 dL_law_211 ?_
      refine j_iload C 6 dL_law_212 rfl ?_
      refine j_i2l C dL_law_214 ?_
      refine j_lcmp C dL_law_215 ?_
      refine j_if_eq C 221 dL_law_216 (by decide) (fun c11 => ?_) (fun c11 => ?_)
      · replace h := h.1 c11
        refine j_goto C 1765 dL_law_221 (by decide) ?_
        refine j_forget [0, 1, 2, 3, 4] rfl ?_
        refine j_widen (k1 := N1 + 2) (k2 := N2 + 12) (by omega) (by omega) ?_
        exact hk _ h
      · replace h := h.2 c11
        refine j_iconst (v := 0) C dL_law_219 (by decide) ?_
        exact h.elim
  · replace h := h.2 c13
    refine j_iconst (v := 0) C dL_law_202 (by decide) ?_
    exact h.elim
set_option maxHeartbeats 4000000 in
set_option maxRecDepth 100000 in
theorem law_c1_j {G : Gt} {X : Cxt} {Q : State → Prop} {b L N1 N2 : Nat} {xs : Nat → Int32} (C : Cx G X cL_law RL wsL_law 7 room_1) (hS : Scr G X b L xs) (hs : (xl X).stackTraces = false) (hN : N1 + 2 ≤ 601024 ∧ N2 + 12 ≤ 7293034) {v4 : Int32} {k23 : Mem → Prop} (hk : ∀ μ : Mem, k23 μ → J G X Q 7 (N1 + 2) (N2 + 12) 1765 [(0, .ref b), (1, .ref (ad G 0)), (2, .ref (ad G 31)), (3, .ref (ad G 56)), (4, .int v4)] [] μ) {μ : Mem} (h : w_law_c1 xs L k23 v4 μ) : J G X Q 7 N1 N2 224 [(0, .ref b), (1, .ref (ad G 0)), (2, .ref (ad G 31)), (3, .ref (ad G 56)), (4, .int v4)] [] μ := by
  unfold w_law_c1 at h
  refine j_aload_n C 1 dL_law_224 rfl ?_
  refine j_aload_n C 0 dL_law_225 rfl ?_
  refine j_iload C 4 dL_law_226 rfl ?_
  refine j_iconst (v := 1) C dL_law_228 (by decide) ?_
  refine j_iadd C dL_law_229 ?_
  have b14 := h.1
  replace h := h.2
  refine j_sld C hS b14 dL_law_230 ?_
  refine j_aload_n C 0 dL_law_231 rfl ?_
  refine j_iload C 4 dL_law_232 rfl ?_
  refine j_iconst (v := 2) C dL_law_234 (by decide) ?_
  refine j_iadd C dL_law_235 ?_
  have b15 := h.1
  replace h := h.2
  refine j_sld C hS b15 dL_law_236 ?_
  refine j_aload_n C 0 dL_law_237 rfl ?_
  refine j_iload C 4 dL_law_238 rfl ?_
  refine j_iconst (v := 3) C dL_law_240 (by decide) ?_
  refine j_iadd C dL_law_241 ?_
  have b16 := h.1
  replace h := h.2
  refine j_sld C hS b16 dL_law_242 ?_
  refine j_aload_n C 0 dL_law_243 rfl ?_
  refine j_iload C 4 dL_law_244 rfl ?_
  refine j_iconst (v := 4) C dL_law_246 (by decide) ?_
  refine j_iadd C dL_law_247 ?_
  have b17 := h.1
  replace h := h.2
  refine j_sld C hS b17 dL_law_248 ?_
  refine j_aload_n C 3 dL_law_249 rfl ?_
  refine j_cWI (n := 6) (rest := []) (k1 := (N1 + 1)) (k2 := (N2 + 6)) C (c_L_file (xl X) G C.2.2.1 hs _ (xs (ix (v4 + (1 : Int32)))) (xs (ix (v4 + (2 : Int32)))) (xs (ix (v4 + (3 : Int32)))) (xs (ix (v4 + (4 : Int32)))) μ) h gL_law_L_file rfl ⟨rfl, rfl⟩ (by decide +kernel) ⟨by decide, by decide⟩ ⟨by have := hN.1; show _ ≤ 601024; omega, by have := hN.2; show _ ≤ 7293034; omega⟩ rfl rfl (Nat.le_of_ble_eq_true rfl) dL_law_250 rfl rfl (fun r19 μ18 h => ?_)
  refine j_istore (lv' := [(0, .ref b), (1, .ref (ad G 0)), (2, .ref (ad G 31)), (3, .ref (ad G 56)), (4, .int v4), (5, .int r19)]) C dL_law_253 (by decide) rfl rfl ?_
  refine j_aload_n C 2 dL_law_255 rfl ?_
  refine j_aload_n C 0 dL_law_256 rfl ?_
  refine j_iload C 4 dL_law_257 rfl ?_
  refine j_iconst (v := 1) C dL_law_259 (by decide) ?_
  refine j_iadd C dL_law_260 ?_
  have b20 := h.1
  replace h := h.2
  refine j_sld C hS b20 dL_law_261 ?_
  refine j_aload_n C 0 dL_law_262 rfl ?_
  refine j_iload C 4 dL_law_263 rfl ?_
  refine j_iconst (v := 2) C dL_law_265 (by decide) ?_
  refine j_iadd C dL_law_266 ?_
  have b21 := h.1
  replace h := h.2
  refine j_sld C hS b21 dL_law_267 ?_
  refine j_aload_n C 0 dL_law_268 rfl ?_
  refine j_iload C 4 dL_law_269 rfl ?_
  refine j_iconst (v := 3) C dL_law_271 (by decide) ?_
  refine j_iadd C dL_law_272 ?_
  have b22 := h.1
  replace h := h.2
  refine j_sld C hS b22 dL_law_273 ?_
  refine j_aload_n C 0 dL_law_274 rfl ?_
  refine j_iload C 4 dL_law_275 rfl ?_
  refine j_iconst (v := 4) C dL_law_277 (by decide) ?_
  refine j_iadd C dL_law_278 ?_
  have b23 := h.1
  replace h := h.2
  refine j_sld C hS b23 dL_law_279 ?_
  refine j_cVI (n := 4) (rest := []) (k1 := (N1 + 1)) (k2 := (N2 + 6)) C 31 (c_X8_file (xl X) G C.2.2.1 _ (xs (ix (v4 + (1 : Int32)))) (xs (ix (v4 + (2 : Int32)))) (xs (ix (v4 + (3 : Int32)))) (xs (ix (v4 + (4 : Int32)))) μ18) h gL_law_X8_file rfl ⟨rfl, rfl⟩ (by decide +kernel) ⟨by decide, by decide⟩ ⟨by have := hN.1; show _ ≤ 601024; omega, by have := hN.2; show _ ≤ 7293034; omega⟩ sh_31 (by decide) cl_X8 rfl rfl (Nat.le_of_ble_eq_true rfl) dL_law_280 rfl rfl (fun r25 μ24 h => ?_)
  refine j_istore (lv' := [(0, .ref b), (1, .ref (ad G 0)), (2, .ref (ad G 31)), (3, .ref (ad G 56)), (4, .int v4), (5, .int r19), (6, .int r25)]) C dL_law_283 (by decide) rfl rfl ?_
  refine j_aload_n C 2 dL_law_285 rfl ?_
  refine j_cVI (n := 0) (rest := []) (k1 := (N1 + 1)) (k2 := (N2 + 6)) C 31 (c_X8_thrown (xl X) G C.2.2.1 _ μ24) h gL_law_X8_thrown rfl ⟨rfl, rfl⟩ (by decide +kernel) ⟨by decide, by decide⟩ ⟨by have := hN.1; show _ ≤ 601024; omega, by have := hN.2; show _ ≤ 7293034; omega⟩ sh_31 (by decide) cl_X8 rfl rfl (Nat.le_of_ble_eq_true rfl) dL_law_286 rfl rfl (fun r27 μ26 h => ?_)
  refine j_iload C 5 dL_law_289 rfl ?_
  refine j_icmp_eq C 296 dL_law_291 (by decide) (fun c30 => ?_) (fun c30 => ?_)
  · replace h := h.1 c30
    refine j_iload C 5 dL_law_296 rfl ?_
    refine j_if_ne C 313 dL_law_298 (by decide) (fun c29 => ?_) (fun c29 => ?_)
    · replace h := h.1 c29
      refine j_goto C 1765 dL_law_313 (by decide) ?_
      refine j_forget [0, 1, 2, 3, 4] rfl ?_
      refine j_widen (k1 := N1 + 2) (k2 := N2 + 12) (by omega) (by omega) ?_
      exact hk _ h
    · replace h := h.2 c29
      refine j_aload_n C 3 dL_law_301 rfl ?_
      refine j_iconst (v := 0) C dL_law_302 (by decide) ?_
      refine j_lald C 56 sh_56 (by decide) in01 dL_law_303 ?_
      refine j_iload C 6 dL_law_304 rfl ?_
      refine j_i2l C dL_law_306 ?_
      refine j_lcmp C dL_law_307 ?_
      refine j_if_eq C 313 dL_law_308 (by decide) (fun c28 => ?_) (fun c28 => ?_)
      · replace h := h.1 c28
        refine j_goto C 1765 dL_law_313 (by decide) ?_
        refine j_forget [0, 1, 2, 3, 4] rfl ?_
        refine j_widen (k1 := N1 + 2) (k2 := N2 + 12) (by omega) (by omega) ?_
        exact hk _ h
      · replace h := h.2 c28
        refine j_iconst (v := 0) C dL_law_311 (by decide) ?_
        exact h.elim
  · replace h := h.2 c30
    refine j_iconst (v := 0) C dL_law_294 (by decide) ?_
    exact h.elim
set_option maxHeartbeats 4000000 in
set_option maxRecDepth 100000 in
theorem law_c2_j {G : Gt} {X : Cxt} {Q : State → Prop} {b L N1 N2 : Nat} {xs : Nat → Int32} (C : Cx G X cL_law RL wsL_law 7 room_1) (hS : Scr G X b L xs) (hs : (xl X).stackTraces = false) (hN : N1 + 2 ≤ 601024 ∧ N2 + 12 ≤ 7293034) {v4 : Int32} {k23 : Mem → Prop} (hk : ∀ μ : Mem, k23 μ → J G X Q 7 (N1 + 2) (N2 + 12) 1765 [(0, .ref b), (1, .ref (ad G 0)), (2, .ref (ad G 31)), (3, .ref (ad G 56)), (4, .int v4)] [] μ) {μ : Mem} (h : w_law_c2 xs L k23 v4 μ) : J G X Q 7 N1 N2 316 [(0, .ref b), (1, .ref (ad G 0)), (2, .ref (ad G 31)), (3, .ref (ad G 56)), (4, .int v4)] [] μ := by
  unfold w_law_c2 at h
  refine j_aload_n C 1 dL_law_316 rfl ?_
  refine j_aload_n C 0 dL_law_317 rfl ?_
  refine j_iload C 4 dL_law_318 rfl ?_
  refine j_iconst (v := 1) C dL_law_320 (by decide) ?_
  refine j_iadd C dL_law_321 ?_
  have b31 := h.1
  replace h := h.2
  refine j_sld C hS b31 dL_law_322 ?_
  refine j_aload_n C 0 dL_law_323 rfl ?_
  refine j_iload C 4 dL_law_324 rfl ?_
  refine j_iconst (v := 2) C dL_law_326 (by decide) ?_
  refine j_iadd C dL_law_327 ?_
  have b32 := h.1
  replace h := h.2
  refine j_sld C hS b32 dL_law_328 ?_
  refine j_aload_n C 0 dL_law_329 rfl ?_
  refine j_iload C 4 dL_law_330 rfl ?_
  refine j_iconst (v := 3) C dL_law_332 (by decide) ?_
  refine j_iadd C dL_law_333 ?_
  have b33 := h.1
  replace h := h.2
  refine j_sld C hS b33 dL_law_334 ?_
  refine j_aload_n C 3 dL_law_335 rfl ?_
  refine j_cWI (n := 5) (rest := []) (k1 := (N1 + 2)) (k2 := (N2 + 12)) C (c_L_copy (xl X) G C.2.2.1 hs _ (xs (ix (v4 + (1 : Int32)))) (xs (ix (v4 + (2 : Int32)))) (xs (ix (v4 + (3 : Int32)))) μ) h gL_law_L_copy rfl ⟨rfl, rfl⟩ (by decide +kernel) ⟨by decide, by decide⟩ ⟨by have := hN.1; show _ ≤ 601024; omega, by have := hN.2; show _ ≤ 7293034; omega⟩ rfl rfl (Nat.le_of_ble_eq_true rfl) dL_law_336 rfl rfl (fun r35 μ34 h => ?_)
  refine j_istore (lv' := [(0, .ref b), (1, .ref (ad G 0)), (2, .ref (ad G 31)), (3, .ref (ad G 56)), (4, .int v4), (5, .int r35)]) C dL_law_339 (by decide) rfl rfl ?_
  refine j_aload_n C 2 dL_law_341 rfl ?_
  refine j_aload_n C 0 dL_law_342 rfl ?_
  refine j_iload C 4 dL_law_343 rfl ?_
  refine j_iconst (v := 1) C dL_law_345 (by decide) ?_
  refine j_iadd C dL_law_346 ?_
  have b36 := h.1
  replace h := h.2
  refine j_sld C hS b36 dL_law_347 ?_
  refine j_aload_n C 0 dL_law_348 rfl ?_
  refine j_iload C 4 dL_law_349 rfl ?_
  refine j_iconst (v := 2) C dL_law_351 (by decide) ?_
  refine j_iadd C dL_law_352 ?_
  have b37 := h.1
  replace h := h.2
  refine j_sld C hS b37 dL_law_353 ?_
  refine j_aload_n C 0 dL_law_354 rfl ?_
  refine j_iload C 4 dL_law_355 rfl ?_
  refine j_iconst (v := 3) C dL_law_357 (by decide) ?_
  refine j_iadd C dL_law_358 ?_
  have b38 := h.1
  replace h := h.2
  refine j_sld C hS b38 dL_law_359 ?_
  refine j_cVI (n := 3) (rest := []) (k1 := (N1 + 2)) (k2 := (N2 + 12)) C 31 (c_X8_copy (xl X) G C.2.2.1 _ (xs (ix (v4 + (1 : Int32)))) (xs (ix (v4 + (2 : Int32)))) (xs (ix (v4 + (3 : Int32)))) μ34) h gL_law_X8_copy rfl ⟨rfl, rfl⟩ (by decide +kernel) ⟨by decide, by decide⟩ ⟨by have := hN.1; show _ ≤ 601024; omega, by have := hN.2; show _ ≤ 7293034; omega⟩ sh_31 (by decide) cl_X8 rfl rfl (Nat.le_of_ble_eq_true rfl) dL_law_360 rfl rfl (fun r40 μ39 h => ?_)
  refine j_istore (lv' := [(0, .ref b), (1, .ref (ad G 0)), (2, .ref (ad G 31)), (3, .ref (ad G 56)), (4, .int v4), (5, .int r35), (6, .int r40)]) C dL_law_363 (by decide) rfl rfl ?_
  refine j_aload_n C 2 dL_law_365 rfl ?_
  refine j_cVI (n := 0) (rest := []) (k1 := (N1 + 2)) (k2 := (N2 + 12)) C 31 (c_X8_thrown (xl X) G C.2.2.1 _ μ39) h gL_law_X8_thrown rfl ⟨rfl, rfl⟩ (by decide +kernel) ⟨by decide, by decide⟩ ⟨by have := hN.1; show _ ≤ 601024; omega, by have := hN.2; show _ ≤ 7293034; omega⟩ sh_31 (by decide) cl_X8 rfl rfl (Nat.le_of_ble_eq_true rfl) dL_law_366 rfl rfl (fun r42 μ41 h => ?_)
  refine j_iload C 5 dL_law_369 rfl ?_
  refine j_icmp_eq C 376 dL_law_371 (by decide) (fun c45 => ?_) (fun c45 => ?_)
  · replace h := h.1 c45
    refine j_iload C 5 dL_law_376 rfl ?_
    refine j_if_ne C 393 dL_law_378 (by decide) (fun c44 => ?_) (fun c44 => ?_)
    · replace h := h.1 c44
      refine j_goto C 1765 dL_law_393 (by decide) ?_
      refine j_forget [0, 1, 2, 3, 4] rfl ?_
      exact hk _ h
    · replace h := h.2 c44
      refine j_aload_n C 3 dL_law_381 rfl ?_
      refine j_iconst (v := 0) C dL_law_382 (by decide) ?_
      refine j_lald C 56 sh_56 (by decide) in01 dL_law_383 ?_
      refine j_iload C 6 dL_law_384 rfl ?_
      refine j_i2l C dL_law_386 ?_
      refine j_lcmp C dL_law_387 ?_
      refine j_if_eq C 393 dL_law_388 (by decide) (fun c43 => ?_) (fun c43 => ?_)
      · replace h := h.1 c43
        refine j_goto C 1765 dL_law_393 (by decide) ?_
        refine j_forget [0, 1, 2, 3, 4] rfl ?_
        exact hk _ h
      · replace h := h.2 c43
        refine j_iconst (v := 0) C dL_law_391 (by decide) ?_
        exact h.elim
  · replace h := h.2 c45
    refine j_iconst (v := 0) C dL_law_374 (by decide) ?_
    exact h.elim
set_option maxHeartbeats 4000000 in
set_option maxRecDepth 100000 in
theorem law_c3_j {G : Gt} {X : Cxt} {Q : State → Prop} {b L N1 N2 : Nat} {xs : Nat → Int32} (C : Cx G X cL_law RL wsL_law 7 room_1) (hS : Scr G X b L xs) (hs : (xl X).stackTraces = false) (hN : N1 + 2 ≤ 601024 ∧ N2 + 12 ≤ 7293034) {v4 : Int32} {k23 : Mem → Prop} (hk : ∀ μ : Mem, k23 μ → J G X Q 7 (N1 + 2) (N2 + 12) 1765 [(0, .ref b), (1, .ref (ad G 0)), (2, .ref (ad G 31)), (3, .ref (ad G 56)), (4, .int v4)] [] μ) {μ : Mem} (h : w_law_c3 xs L k23 v4 μ) : J G X Q 7 N1 N2 396 [(0, .ref b), (1, .ref (ad G 0)), (2, .ref (ad G 31)), (3, .ref (ad G 56)), (4, .int v4)] [] μ := by
  unfold w_law_c3 at h
  refine j_aload_n C 1 dL_law_396 rfl ?_
  refine j_aload_n C 0 dL_law_397 rfl ?_
  refine j_iload C 4 dL_law_398 rfl ?_
  refine j_iconst (v := 1) C dL_law_400 (by decide) ?_
  refine j_iadd C dL_law_401 ?_
  have b46 := h.1
  replace h := h.2
  refine j_sld C hS b46 dL_law_402 ?_
  refine j_aload_n C 0 dL_law_403 rfl ?_
  refine j_iload C 4 dL_law_404 rfl ?_
  refine j_iconst (v := 2) C dL_law_406 (by decide) ?_
  refine j_iadd C dL_law_407 ?_
  have b47 := h.1
  replace h := h.2
  refine j_sld C hS b47 dL_law_408 ?_
  refine j_aload_n C 0 dL_law_409 rfl ?_
  refine j_iload C 4 dL_law_410 rfl ?_
  refine j_iconst (v := 3) C dL_law_412 (by decide) ?_
  refine j_iadd C dL_law_413 ?_
  have b48 := h.1
  replace h := h.2
  refine j_sld C hS b48 dL_law_414 ?_
  refine j_aload_n C 3 dL_law_415 rfl ?_
  refine j_cWI (n := 5) (rest := []) (k1 := (N1 + 2)) (k2 := (N2 + 12)) C (c_L_link (xl X) G C.2.2.1 hs _ (xs (ix (v4 + (1 : Int32)))) (xs (ix (v4 + (2 : Int32)))) (xs (ix (v4 + (3 : Int32)))) μ) h gL_law_L_link rfl ⟨rfl, rfl⟩ (by decide +kernel) ⟨by decide, by decide⟩ ⟨by have := hN.1; show _ ≤ 601024; omega, by have := hN.2; show _ ≤ 7293034; omega⟩ rfl rfl (Nat.le_of_ble_eq_true rfl) dL_law_416 rfl rfl (fun r50 μ49 h => ?_)
  refine j_istore (lv' := [(0, .ref b), (1, .ref (ad G 0)), (2, .ref (ad G 31)), (3, .ref (ad G 56)), (4, .int v4), (5, .int r50)]) C dL_law_419 (by decide) rfl rfl ?_
  refine j_aload_n C 2 dL_law_421 rfl ?_
  refine j_aload_n C 0 dL_law_422 rfl ?_
  refine j_iload C 4 dL_law_423 rfl ?_
  refine j_iconst (v := 1) C dL_law_425 (by decide) ?_
  refine j_iadd C dL_law_426 ?_
  have b51 := h.1
  replace h := h.2
  refine j_sld C hS b51 dL_law_427 ?_
  refine j_aload_n C 0 dL_law_428 rfl ?_
  refine j_iload C 4 dL_law_429 rfl ?_
  refine j_iconst (v := 2) C dL_law_431 (by decide) ?_
  refine j_iadd C dL_law_432 ?_
  have b52 := h.1
  replace h := h.2
  refine j_sld C hS b52 dL_law_433 ?_
  refine j_aload_n C 0 dL_law_434 rfl ?_
  refine j_iload C 4 dL_law_435 rfl ?_
  refine j_iconst (v := 3) C dL_law_437 (by decide) ?_
  refine j_iadd C dL_law_438 ?_
  have b53 := h.1
  replace h := h.2
  refine j_sld C hS b53 dL_law_439 ?_
  refine j_cVI (n := 3) (rest := []) (k1 := (N1 + 2)) (k2 := (N2 + 12)) C 31 (c_X8_link (xl X) G C.2.2.1 _ (xs (ix (v4 + (1 : Int32)))) (xs (ix (v4 + (2 : Int32)))) (xs (ix (v4 + (3 : Int32)))) μ49) h gL_law_X8_link rfl ⟨rfl, rfl⟩ (by decide +kernel) ⟨by decide, by decide⟩ ⟨by have := hN.1; show _ ≤ 601024; omega, by have := hN.2; show _ ≤ 7293034; omega⟩ sh_31 (by decide) cl_X8 rfl rfl (Nat.le_of_ble_eq_true rfl) dL_law_440 rfl rfl (fun r55 μ54 h => ?_)
  refine j_istore (lv' := [(0, .ref b), (1, .ref (ad G 0)), (2, .ref (ad G 31)), (3, .ref (ad G 56)), (4, .int v4), (5, .int r50), (6, .int r55)]) C dL_law_443 (by decide) rfl rfl ?_
  refine j_aload_n C 2 dL_law_445 rfl ?_
  refine j_cVI (n := 0) (rest := []) (k1 := (N1 + 2)) (k2 := (N2 + 12)) C 31 (c_X8_thrown (xl X) G C.2.2.1 _ μ54) h gL_law_X8_thrown rfl ⟨rfl, rfl⟩ (by decide +kernel) ⟨by decide, by decide⟩ ⟨by have := hN.1; show _ ≤ 601024; omega, by have := hN.2; show _ ≤ 7293034; omega⟩ sh_31 (by decide) cl_X8 rfl rfl (Nat.le_of_ble_eq_true rfl) dL_law_446 rfl rfl (fun r57 μ56 h => ?_)
  refine j_iload C 5 dL_law_449 rfl ?_
  refine j_icmp_eq C 456 dL_law_451 (by decide) (fun c60 => ?_) (fun c60 => ?_)
  · replace h := h.1 c60
    refine j_iload C 5 dL_law_456 rfl ?_
    refine j_if_ne C 473 dL_law_458 (by decide) (fun c59 => ?_) (fun c59 => ?_)
    · replace h := h.1 c59
      refine j_goto C 1765 dL_law_473 (by decide) ?_
      refine j_forget [0, 1, 2, 3, 4] rfl ?_
      exact hk _ h
    · replace h := h.2 c59
      refine j_aload_n C 3 dL_law_461 rfl ?_
      refine j_iconst (v := 0) C dL_law_462 (by decide) ?_
      refine j_lald C 56 sh_56 (by decide) in01 dL_law_463 ?_
      refine j_iload C 6 dL_law_464 rfl ?_
      refine j_i2l C dL_law_466 ?_
      refine j_lcmp C dL_law_467 ?_
      refine j_if_eq C 473 dL_law_468 (by decide) (fun c58 => ?_) (fun c58 => ?_)
      · replace h := h.1 c58
        refine j_goto C 1765 dL_law_473 (by decide) ?_
        refine j_forget [0, 1, 2, 3, 4] rfl ?_
        exact hk _ h
      · replace h := h.2 c58
        refine j_iconst (v := 0) C dL_law_471 (by decide) ?_
        exact h.elim
  · replace h := h.2 c60
    refine j_iconst (v := 0) C dL_law_454 (by decide) ?_
    exact h.elim
set_option maxHeartbeats 4000000 in
set_option maxRecDepth 100000 in
theorem law_c4_j {G : Gt} {X : Cxt} {Q : State → Prop} {b L N1 N2 : Nat} {xs : Nat → Int32} (C : Cx G X cL_law RL wsL_law 7 room_1) (hS : Scr G X b L xs) (hs : (xl X).stackTraces = false) (hN : N1 + 2 ≤ 601024 ∧ N2 + 12 ≤ 7293034) {v4 : Int32} {k23 : Mem → Prop} (hk : ∀ μ : Mem, k23 μ → J G X Q 7 (N1 + 2) (N2 + 12) 1765 [(0, .ref b), (1, .ref (ad G 0)), (2, .ref (ad G 31)), (3, .ref (ad G 56)), (4, .int v4)] [] μ) {μ : Mem} (h : w_law_c4 xs L k23 v4 μ) : J G X Q 7 N1 N2 476 [(0, .ref b), (1, .ref (ad G 0)), (2, .ref (ad G 31)), (3, .ref (ad G 56)), (4, .int v4)] [] μ := by
  unfold w_law_c4 at h
  refine j_aload_n C 1 dL_law_476 rfl ?_
  refine j_aload_n C 0 dL_law_477 rfl ?_
  refine j_iload C 4 dL_law_478 rfl ?_
  refine j_iconst (v := 1) C dL_law_480 (by decide) ?_
  refine j_iadd C dL_law_481 ?_
  have b61 := h.1
  replace h := h.2
  refine j_sld C hS b61 dL_law_482 ?_
  refine j_aload_n C 0 dL_law_483 rfl ?_
  refine j_iload C 4 dL_law_484 rfl ?_
  refine j_iconst (v := 2) C dL_law_486 (by decide) ?_
  refine j_iadd C dL_law_487 ?_
  have b62 := h.1
  replace h := h.2
  refine j_sld C hS b62 dL_law_488 ?_
  refine j_aload_n C 0 dL_law_489 rfl ?_
  refine j_iload C 4 dL_law_490 rfl ?_
  refine j_iconst (v := 3) C dL_law_492 (by decide) ?_
  refine j_iadd C dL_law_493 ?_
  have b63 := h.1
  replace h := h.2
  refine j_sld C hS b63 dL_law_494 ?_
  refine j_aload_n C 3 dL_law_495 rfl ?_
  refine j_cWI (n := 5) (rest := []) (k1 := (N1 + 2)) (k2 := (N2 + 12)) C (c_L_move (xl X) G C.2.2.1 hs _ (xs (ix (v4 + (1 : Int32)))) (xs (ix (v4 + (2 : Int32)))) (xs (ix (v4 + (3 : Int32)))) μ) h gL_law_L_move rfl ⟨rfl, rfl⟩ (by decide +kernel) ⟨by decide, by decide⟩ ⟨by have := hN.1; show _ ≤ 601024; omega, by have := hN.2; show _ ≤ 7293034; omega⟩ rfl rfl (Nat.le_of_ble_eq_true rfl) dL_law_496 rfl rfl (fun r65 μ64 h => ?_)
  refine j_istore (lv' := [(0, .ref b), (1, .ref (ad G 0)), (2, .ref (ad G 31)), (3, .ref (ad G 56)), (4, .int v4), (5, .int r65)]) C dL_law_499 (by decide) rfl rfl ?_
  refine j_aload_n C 2 dL_law_501 rfl ?_
  refine j_aload_n C 0 dL_law_502 rfl ?_
  refine j_iload C 4 dL_law_503 rfl ?_
  refine j_iconst (v := 1) C dL_law_505 (by decide) ?_
  refine j_iadd C dL_law_506 ?_
  have b66 := h.1
  replace h := h.2
  refine j_sld C hS b66 dL_law_507 ?_
  refine j_aload_n C 0 dL_law_508 rfl ?_
  refine j_iload C 4 dL_law_509 rfl ?_
  refine j_iconst (v := 2) C dL_law_511 (by decide) ?_
  refine j_iadd C dL_law_512 ?_
  have b67 := h.1
  replace h := h.2
  refine j_sld C hS b67 dL_law_513 ?_
  refine j_aload_n C 0 dL_law_514 rfl ?_
  refine j_iload C 4 dL_law_515 rfl ?_
  refine j_iconst (v := 3) C dL_law_517 (by decide) ?_
  refine j_iadd C dL_law_518 ?_
  have b68 := h.1
  replace h := h.2
  refine j_sld C hS b68 dL_law_519 ?_
  refine j_cVI (n := 3) (rest := []) (k1 := (N1 + 2)) (k2 := (N2 + 12)) C 31 (c_X8_move (xl X) G C.2.2.1 _ (xs (ix (v4 + (1 : Int32)))) (xs (ix (v4 + (2 : Int32)))) (xs (ix (v4 + (3 : Int32)))) μ64) h gL_law_X8_move rfl ⟨rfl, rfl⟩ (by decide +kernel) ⟨by decide, by decide⟩ ⟨by have := hN.1; show _ ≤ 601024; omega, by have := hN.2; show _ ≤ 7293034; omega⟩ sh_31 (by decide) cl_X8 rfl rfl (Nat.le_of_ble_eq_true rfl) dL_law_520 rfl rfl (fun r70 μ69 h => ?_)
  refine j_istore (lv' := [(0, .ref b), (1, .ref (ad G 0)), (2, .ref (ad G 31)), (3, .ref (ad G 56)), (4, .int v4), (5, .int r65), (6, .int r70)]) C dL_law_523 (by decide) rfl rfl ?_
  refine j_aload_n C 2 dL_law_525 rfl ?_
  refine j_cVI (n := 0) (rest := []) (k1 := (N1 + 2)) (k2 := (N2 + 12)) C 31 (c_X8_thrown (xl X) G C.2.2.1 _ μ69) h gL_law_X8_thrown rfl ⟨rfl, rfl⟩ (by decide +kernel) ⟨by decide, by decide⟩ ⟨by have := hN.1; show _ ≤ 601024; omega, by have := hN.2; show _ ≤ 7293034; omega⟩ sh_31 (by decide) cl_X8 rfl rfl (Nat.le_of_ble_eq_true rfl) dL_law_526 rfl rfl (fun r72 μ71 h => ?_)
  refine j_iload C 5 dL_law_529 rfl ?_
  refine j_icmp_eq C 536 dL_law_531 (by decide) (fun c77 => ?_) (fun c77 => ?_)
  · replace h := h.1 c77
    refine j_iload C 5 dL_law_536 rfl ?_
    refine j_if_ne C 560 dL_law_538 (by decide) (fun c76 => ?_) (fun c76 => ?_)
    · replace h := h.1 c76
      refine j_goto C 1765 dL_law_560 (by decide) ?_
      refine j_forget [0, 1, 2, 3, 4] rfl ?_
      exact hk _ h
    · replace h := h.2 c76
      refine j_aload_n C 3 dL_law_541 rfl ?_
      refine j_iconst (v := 0) C dL_law_542 (by decide) ?_
      refine j_lald C 56 sh_56 (by decide) in01 dL_law_543 ?_
      refine j_iload C 6 dL_law_544 rfl ?_
      refine j_if_eq C 553 dL_law_546 (by decide) (fun c75 => ?_) (fun c75 => ?_)
      · replace h := h.1 c75
        refine j_lconst (v := 0) C dL_law_553 (by decide) ?_
        refine j_lcmp C dL_law_554 ?_
        refine j_if_eq C 560 dL_law_555 (by decide) (fun c73 => ?_) (fun c73 => ?_)
        · replace h := h.1 c73
          refine j_goto C 1765 dL_law_560 (by decide) ?_
          refine j_forget [0, 1, 2, 3, 4] rfl ?_
          exact hk _ h
        · replace h := h.2 c73
          refine j_iconst (v := 0) C dL_law_558 (by decide) ?_
          exact h.elim
      · replace h := h.2 c75
        refine j_lconst (v := 1) C dL_law_549 (by decide) ?_
        refine j_goto C 554 dL_law_550 (by decide) ?_
        refine j_lcmp C dL_law_554 ?_
        refine j_if_eq C 560 dL_law_555 (by decide) (fun c74 => ?_) (fun c74 => ?_)
        · replace h := h.1 c74
          refine j_goto C 1765 dL_law_560 (by decide) ?_
          refine j_forget [0, 1, 2, 3, 4] rfl ?_
          exact hk _ h
        · replace h := h.2 c74
          refine j_iconst (v := 0) C dL_law_558 (by decide) ?_
          exact h.elim
  · replace h := h.2 c77
    refine j_iconst (v := 0) C dL_law_534 (by decide) ?_
    exact h.elim
set_option maxHeartbeats 4000000 in
set_option maxRecDepth 100000 in
theorem law_c5_j {G : Gt} {X : Cxt} {Q : State → Prop} {b L N1 N2 : Nat} {xs : Nat → Int32} (C : Cx G X cL_law RL wsL_law 7 room_1) (hS : Scr G X b L xs) (hs : (xl X).stackTraces = false) (hN : N1 + 2 ≤ 601024 ∧ N2 + 12 ≤ 7293034) {v4 : Int32} {k23 : Mem → Prop} (hk : ∀ μ : Mem, k23 μ → J G X Q 7 (N1 + 2) (N2 + 12) 1765 [(0, .ref b), (1, .ref (ad G 0)), (2, .ref (ad G 31)), (3, .ref (ad G 56)), (4, .int v4)] [] μ) {μ : Mem} (h : w_law_c5 xs L k23 v4 μ) : J G X Q 7 N1 N2 563 [(0, .ref b), (1, .ref (ad G 0)), (2, .ref (ad G 31)), (3, .ref (ad G 56)), (4, .int v4)] [] μ := by
  unfold w_law_c5 at h
  refine j_aload_n C 1 dL_law_563 rfl ?_
  refine j_aload_n C 0 dL_law_564 rfl ?_
  refine j_iload C 4 dL_law_565 rfl ?_
  refine j_iconst (v := 1) C dL_law_567 (by decide) ?_
  refine j_iadd C dL_law_568 ?_
  have b78 := h.1
  replace h := h.2
  refine j_sld C hS b78 dL_law_569 ?_
  refine j_aload_n C 3 dL_law_570 rfl ?_
  refine j_cWI (n := 3) (rest := []) (k1 := (N1 + 1)) (k2 := (N2 + 6)) C (c_L_remove (xl X) G C.2.2.1 hs _ (xs (ix (v4 + (1 : Int32)))) μ) h gL_law_L_remove rfl ⟨rfl, rfl⟩ (by decide +kernel) ⟨by decide, by decide⟩ ⟨by have := hN.1; show _ ≤ 601024; omega, by have := hN.2; show _ ≤ 7293034; omega⟩ rfl rfl (Nat.le_of_ble_eq_true rfl) dL_law_571 rfl rfl (fun r80 μ79 h => ?_)
  refine j_istore (lv' := [(0, .ref b), (1, .ref (ad G 0)), (2, .ref (ad G 31)), (3, .ref (ad G 56)), (4, .int v4), (5, .int r80)]) C dL_law_574 (by decide) rfl rfl ?_
  refine j_aload_n C 2 dL_law_576 rfl ?_
  refine j_aload_n C 0 dL_law_577 rfl ?_
  refine j_iload C 4 dL_law_578 rfl ?_
  refine j_iconst (v := 1) C dL_law_580 (by decide) ?_
  refine j_iadd C dL_law_581 ?_
  have b81 := h.1
  replace h := h.2
  refine j_sld C hS b81 dL_law_582 ?_
  refine j_cVI (n := 1) (rest := []) (k1 := (N1 + 1)) (k2 := (N2 + 6)) C 31 (c_X8_remove (xl X) G C.2.2.1 _ (xs (ix (v4 + (1 : Int32)))) μ79) h gL_law_X8_remove rfl ⟨rfl, rfl⟩ (by decide +kernel) ⟨by decide, by decide⟩ ⟨by have := hN.1; show _ ≤ 601024; omega, by have := hN.2; show _ ≤ 7293034; omega⟩ sh_31 (by decide) cl_X8 rfl rfl (Nat.le_of_ble_eq_true rfl) dL_law_583 rfl rfl (fun r83 μ82 h => ?_)
  refine j_istore (lv' := [(0, .ref b), (1, .ref (ad G 0)), (2, .ref (ad G 31)), (3, .ref (ad G 56)), (4, .int v4), (5, .int r80), (6, .int r83)]) C dL_law_586 (by decide) rfl rfl ?_
  refine j_aload_n C 2 dL_law_588 rfl ?_
  refine j_cVI (n := 0) (rest := []) (k1 := (N1 + 1)) (k2 := (N2 + 6)) C 31 (c_X8_thrown (xl X) G C.2.2.1 _ μ82) h gL_law_X8_thrown rfl ⟨rfl, rfl⟩ (by decide +kernel) ⟨by decide, by decide⟩ ⟨by have := hN.1; show _ ≤ 601024; omega, by have := hN.2; show _ ≤ 7293034; omega⟩ sh_31 (by decide) cl_X8 rfl rfl (Nat.le_of_ble_eq_true rfl) dL_law_589 rfl rfl (fun r85 μ84 h => ?_)
  refine j_iload C 5 dL_law_592 rfl ?_
  refine j_icmp_eq C 599 dL_law_594 (by decide) (fun c88 => ?_) (fun c88 => ?_)
  · replace h := h.1 c88
    refine j_iload C 5 dL_law_599 rfl ?_
    refine j_if_ne C 616 dL_law_601 (by decide) (fun c87 => ?_) (fun c87 => ?_)
    · replace h := h.1 c87
      refine j_goto C 1765 dL_law_616 (by decide) ?_
      refine j_forget [0, 1, 2, 3, 4] rfl ?_
      refine j_widen (k1 := N1 + 2) (k2 := N2 + 12) (by omega) (by omega) ?_
      exact hk _ h
    · replace h := h.2 c87
      refine j_aload_n C 3 dL_law_604 rfl ?_
      refine j_iconst (v := 0) C dL_law_605 (by decide) ?_
      refine j_lald C 56 sh_56 (by decide) in01 dL_law_606 ?_
      refine j_iload C 6 dL_law_607 rfl ?_
      refine j_i2l C dL_law_609 ?_
      refine j_lcmp C dL_law_610 ?_
      refine j_if_eq C 616 dL_law_611 (by decide) (fun c86 => ?_) (fun c86 => ?_)
      · replace h := h.1 c86
        refine j_goto C 1765 dL_law_616 (by decide) ?_
        refine j_forget [0, 1, 2, 3, 4] rfl ?_
        refine j_widen (k1 := N1 + 2) (k2 := N2 + 12) (by omega) (by omega) ?_
        exact hk _ h
      · replace h := h.2 c86
        refine j_iconst (v := 0) C dL_law_614 (by decide) ?_
        exact h.elim
  · replace h := h.2 c88
    refine j_iconst (v := 0) C dL_law_597 (by decide) ?_
    exact h.elim
set_option maxHeartbeats 4000000 in
set_option maxRecDepth 100000 in
theorem law_c6_j {G : Gt} {X : Cxt} {Q : State → Prop} {b L N1 N2 : Nat} {xs : Nat → Int32} (C : Cx G X cL_law RL wsL_law 7 room_1) (hS : Scr G X b L xs) (hs : (xl X).stackTraces = false) (hN : N1 + 2 ≤ 601024 ∧ N2 + 12 ≤ 7293034) {v4 : Int32} {k23 : Mem → Prop} (hk : ∀ μ : Mem, k23 μ → J G X Q 7 (N1 + 2) (N2 + 12) 1765 [(0, .ref b), (1, .ref (ad G 0)), (2, .ref (ad G 31)), (3, .ref (ad G 56)), (4, .int v4)] [] μ) {μ : Mem} (h : w_law_c6 xs L k23 v4 μ) : J G X Q 7 N1 N2 619 [(0, .ref b), (1, .ref (ad G 0)), (2, .ref (ad G 31)), (3, .ref (ad G 56)), (4, .int v4)] [] μ := by
  unfold w_law_c6 at h
  refine j_aload_n C 1 dL_law_619 rfl ?_
  refine j_aload_n C 0 dL_law_620 rfl ?_
  refine j_iload C 4 dL_law_621 rfl ?_
  refine j_iconst (v := 1) C dL_law_623 (by decide) ?_
  refine j_iadd C dL_law_624 ?_
  have b89 := h.1
  replace h := h.2
  refine j_sld C hS b89 dL_law_625 ?_
  refine j_aload_n C 0 dL_law_626 rfl ?_
  refine j_iload C 4 dL_law_627 rfl ?_
  refine j_iconst (v := 2) C dL_law_629 (by decide) ?_
  refine j_iadd C dL_law_630 ?_
  have b90 := h.1
  replace h := h.2
  refine j_sld C hS b90 dL_law_631 ?_
  refine j_if_eq C 639 dL_law_632 (by decide) (fun c137 => ?_) (fun c137 => ?_)
  · replace h := h.1 c137
    refine j_iconst (v := 0) C dL_law_639 (by decide) ?_
    refine j_aload_n C 3 dL_law_640 rfl ?_
    refine j_cWI (n := 4) (rest := []) (k1 := (N1 + 1)) (k2 := (N2 + 6)) C (c_L_hold (xl X) G C.2.2.1 hs _ (xs (ix (v4 + (1 : Int32)))) (0 : Int32) μ) h gL_law_L_hold rfl ⟨rfl, rfl⟩ (by decide +kernel) ⟨by decide, by decide⟩ ⟨by have := hN.1; show _ ≤ 601024; omega, by have := hN.2; show _ ≤ 7293034; omega⟩ rfl rfl (Nat.le_of_ble_eq_true rfl) dL_law_641 rfl rfl (fun r92 μ91 h => ?_)
    refine j_istore (lv' := [(0, .ref b), (1, .ref (ad G 0)), (2, .ref (ad G 31)), (3, .ref (ad G 56)), (4, .int v4), (5, .int r92)]) C dL_law_644 (by decide) rfl rfl ?_
    refine j_aload_n C 2 dL_law_646 rfl ?_
    refine j_aload_n C 0 dL_law_647 rfl ?_
    refine j_iload C 4 dL_law_648 rfl ?_
    refine j_iconst (v := 1) C dL_law_650 (by decide) ?_
    refine j_iadd C dL_law_651 ?_
    have b93 := h.1
    replace h := h.2
    refine j_sld C hS b93 dL_law_652 ?_
    refine j_aload_n C 0 dL_law_653 rfl ?_
    refine j_iload C 4 dL_law_654 rfl ?_
    refine j_iconst (v := 2) C dL_law_656 (by decide) ?_
    refine j_iadd C dL_law_657 ?_
    have b94 := h.1
    replace h := h.2
    refine j_sld C hS b94 dL_law_658 ?_
    refine j_if_eq C 666 dL_law_659 (by decide) (fun c113 => ?_) (fun c113 => ?_)
    · replace h := h.1 c113
      refine j_iconst (v := 0) C dL_law_666 (by decide) ?_
      refine j_cVI (n := 2) (rest := []) (k1 := (N1 + 1)) (k2 := (N2 + 6)) C 31 (c_X8_hold (xl X) G C.2.2.1 _ (xs (ix (v4 + (1 : Int32)))) (0 : Int32) μ91) h gL_law_X8_hold rfl ⟨rfl, rfl⟩ (by decide +kernel) ⟨by decide, by decide⟩ ⟨by have := hN.1; show _ ≤ 601024; omega, by have := hN.2; show _ ≤ 7293034; omega⟩ sh_31 (by decide) cl_X8 rfl rfl (Nat.le_of_ble_eq_true rfl) dL_law_667 rfl rfl (fun r96 μ95 h => ?_)
      refine j_istore (lv' := [(0, .ref b), (1, .ref (ad G 0)), (2, .ref (ad G 31)), (3, .ref (ad G 56)), (4, .int v4), (5, .int r92), (6, .int r96)]) C dL_law_670 (by decide) rfl rfl ?_
      refine j_aload_n C 2 dL_law_672 rfl ?_
      refine j_cVI (n := 0) (rest := []) (k1 := (N1 + 1)) (k2 := (N2 + 6)) C 31 (c_X8_thrown (xl X) G C.2.2.1 _ μ95) h gL_law_X8_thrown rfl ⟨rfl, rfl⟩ (by decide +kernel) ⟨by decide, by decide⟩ ⟨by have := hN.1; show _ ≤ 601024; omega, by have := hN.2; show _ ≤ 7293034; omega⟩ sh_31 (by decide) cl_X8 rfl rfl (Nat.le_of_ble_eq_true rfl) dL_law_673 rfl rfl (fun r98 μ97 h => ?_)
      refine j_iload C 5 dL_law_676 rfl ?_
      refine j_icmp_eq C 683 dL_law_678 (by decide) (fun c103 => ?_) (fun c103 => ?_)
      · replace h := h.1 c103
        refine j_iload C 5 dL_law_683 rfl ?_
        refine j_if_ne C 707 dL_law_685 (by decide) (fun c102 => ?_) (fun c102 => ?_)
        · replace h := h.1 c102
          refine j_goto C 1765 dL_law_707 (by decide) ?_
          refine j_forget [0, 1, 2, 3, 4] rfl ?_
          refine j_widen (k1 := N1 + 2) (k2 := N2 + 12) (by omega) (by omega) ?_
          exact hk _ h
        · replace h := h.2 c102
          refine j_aload_n C 3 dL_law_688 rfl ?_
          refine j_iconst (v := 0) C dL_law_689 (by decide) ?_
          refine j_lald C 56 sh_56 (by decide) in01 dL_law_690 ?_
          refine j_iload C 6 dL_law_691 rfl ?_
          refine j_if_eq C 700 dL_law_693 (by decide) (fun c101 => ?_) (fun c101 => ?_)
          · replace h := h.1 c101
            refine j_lconst (v := 0) C dL_law_700 (by decide) ?_
            refine j_lcmp C dL_law_701 ?_
            refine j_if_eq C 707 dL_law_702 (by decide) (fun c99 => ?_) (fun c99 => ?_)
            · replace h := h.1 c99
              refine j_goto C 1765 dL_law_707 (by decide) ?_
              refine j_forget [0, 1, 2, 3, 4] rfl ?_
              refine j_widen (k1 := N1 + 2) (k2 := N2 + 12) (by omega) (by omega) ?_
              exact hk _ h
            · replace h := h.2 c99
              refine j_iconst (v := 0) C dL_law_705 (by decide) ?_
              exact h.elim
          · replace h := h.2 c101
            refine j_lconst (v := 1) C dL_law_696 (by decide) ?_
            refine j_goto C 701 dL_law_697 (by decide) ?_
            refine j_lcmp C dL_law_701 ?_
            refine j_if_eq C 707 dL_law_702 (by decide) (fun c100 => ?_) (fun c100 => ?_)
            · replace h := h.1 c100
              refine j_goto C 1765 dL_law_707 (by decide) ?_
              refine j_forget [0, 1, 2, 3, 4] rfl ?_
              refine j_widen (k1 := N1 + 2) (k2 := N2 + 12) (by omega) (by omega) ?_
              exact hk _ h
            · replace h := h.2 c100
              refine j_iconst (v := 0) C dL_law_705 (by decide) ?_
              exact h.elim
      · replace h := h.2 c103
        refine j_iconst (v := 0) C dL_law_681 (by decide) ?_
        exact h.elim
    · replace h := h.2 c113
      refine j_iconst (v := 1) C dL_law_662 (by decide) ?_
      refine j_goto C 667 dL_law_663 (by decide) ?_
      refine j_cVI (n := 2) (rest := []) (k1 := (N1 + 1)) (k2 := (N2 + 6)) C 31 (c_X8_hold (xl X) G C.2.2.1 _ (xs (ix (v4 + (1 : Int32)))) (1 : Int32) μ91) h gL_law_X8_hold rfl ⟨rfl, rfl⟩ (by decide +kernel) ⟨by decide, by decide⟩ ⟨by have := hN.1; show _ ≤ 601024; omega, by have := hN.2; show _ ≤ 7293034; omega⟩ sh_31 (by decide) cl_X8 rfl rfl (Nat.le_of_ble_eq_true rfl) dL_law_667 rfl rfl (fun r105 μ104 h => ?_)
      refine j_istore (lv' := [(0, .ref b), (1, .ref (ad G 0)), (2, .ref (ad G 31)), (3, .ref (ad G 56)), (4, .int v4), (5, .int r92), (6, .int r105)]) C dL_law_670 (by decide) rfl rfl ?_
      refine j_aload_n C 2 dL_law_672 rfl ?_
      refine j_cVI (n := 0) (rest := []) (k1 := (N1 + 1)) (k2 := (N2 + 6)) C 31 (c_X8_thrown (xl X) G C.2.2.1 _ μ104) h gL_law_X8_thrown rfl ⟨rfl, rfl⟩ (by decide +kernel) ⟨by decide, by decide⟩ ⟨by have := hN.1; show _ ≤ 601024; omega, by have := hN.2; show _ ≤ 7293034; omega⟩ sh_31 (by decide) cl_X8 rfl rfl (Nat.le_of_ble_eq_true rfl) dL_law_673 rfl rfl (fun r107 μ106 h => ?_)
      refine j_iload C 5 dL_law_676 rfl ?_
      refine j_icmp_eq C 683 dL_law_678 (by decide) (fun c112 => ?_) (fun c112 => ?_)
      · replace h := h.1 c112
        refine j_iload C 5 dL_law_683 rfl ?_
        refine j_if_ne C 707 dL_law_685 (by decide) (fun c111 => ?_) (fun c111 => ?_)
        · replace h := h.1 c111
          refine j_goto C 1765 dL_law_707 (by decide) ?_
          refine j_forget [0, 1, 2, 3, 4] rfl ?_
          refine j_widen (k1 := N1 + 2) (k2 := N2 + 12) (by omega) (by omega) ?_
          exact hk _ h
        · replace h := h.2 c111
          refine j_aload_n C 3 dL_law_688 rfl ?_
          refine j_iconst (v := 0) C dL_law_689 (by decide) ?_
          refine j_lald C 56 sh_56 (by decide) in01 dL_law_690 ?_
          refine j_iload C 6 dL_law_691 rfl ?_
          refine j_if_eq C 700 dL_law_693 (by decide) (fun c110 => ?_) (fun c110 => ?_)
          · replace h := h.1 c110
            refine j_lconst (v := 0) C dL_law_700 (by decide) ?_
            refine j_lcmp C dL_law_701 ?_
            refine j_if_eq C 707 dL_law_702 (by decide) (fun c108 => ?_) (fun c108 => ?_)
            · replace h := h.1 c108
              refine j_goto C 1765 dL_law_707 (by decide) ?_
              refine j_forget [0, 1, 2, 3, 4] rfl ?_
              refine j_widen (k1 := N1 + 2) (k2 := N2 + 12) (by omega) (by omega) ?_
              exact hk _ h
            · replace h := h.2 c108
              refine j_iconst (v := 0) C dL_law_705 (by decide) ?_
              exact h.elim
          · replace h := h.2 c110
            refine j_lconst (v := 1) C dL_law_696 (by decide) ?_
            refine j_goto C 701 dL_law_697 (by decide) ?_
            refine j_lcmp C dL_law_701 ?_
            refine j_if_eq C 707 dL_law_702 (by decide) (fun c109 => ?_) (fun c109 => ?_)
            · replace h := h.1 c109
              refine j_goto C 1765 dL_law_707 (by decide) ?_
              refine j_forget [0, 1, 2, 3, 4] rfl ?_
              refine j_widen (k1 := N1 + 2) (k2 := N2 + 12) (by omega) (by omega) ?_
              exact hk _ h
            · replace h := h.2 c109
              refine j_iconst (v := 0) C dL_law_705 (by decide) ?_
              exact h.elim
      · replace h := h.2 c112
        refine j_iconst (v := 0) C dL_law_681 (by decide) ?_
        exact h.elim
  · replace h := h.2 c137
    refine j_iconst (v := 1) C dL_law_635 (by decide) ?_
    refine j_goto C 640 dL_law_636 (by decide) ?_
    refine j_aload_n C 3 dL_law_640 rfl ?_
    refine j_cWI (n := 4) (rest := []) (k1 := (N1 + 1)) (k2 := (N2 + 6)) C (c_L_hold (xl X) G C.2.2.1 hs _ (xs (ix (v4 + (1 : Int32)))) (1 : Int32) μ) h gL_law_L_hold rfl ⟨rfl, rfl⟩ (by decide +kernel) ⟨by decide, by decide⟩ ⟨by have := hN.1; show _ ≤ 601024; omega, by have := hN.2; show _ ≤ 7293034; omega⟩ rfl rfl (Nat.le_of_ble_eq_true rfl) dL_law_641 rfl rfl (fun r115 μ114 h => ?_)
    refine j_istore (lv' := [(0, .ref b), (1, .ref (ad G 0)), (2, .ref (ad G 31)), (3, .ref (ad G 56)), (4, .int v4), (5, .int r115)]) C dL_law_644 (by decide) rfl rfl ?_
    refine j_aload_n C 2 dL_law_646 rfl ?_
    refine j_aload_n C 0 dL_law_647 rfl ?_
    refine j_iload C 4 dL_law_648 rfl ?_
    refine j_iconst (v := 1) C dL_law_650 (by decide) ?_
    refine j_iadd C dL_law_651 ?_
    have b116 := h.1
    replace h := h.2
    refine j_sld C hS b116 dL_law_652 ?_
    refine j_aload_n C 0 dL_law_653 rfl ?_
    refine j_iload C 4 dL_law_654 rfl ?_
    refine j_iconst (v := 2) C dL_law_656 (by decide) ?_
    refine j_iadd C dL_law_657 ?_
    have b117 := h.1
    replace h := h.2
    refine j_sld C hS b117 dL_law_658 ?_
    refine j_if_eq C 666 dL_law_659 (by decide) (fun c136 => ?_) (fun c136 => ?_)
    · replace h := h.1 c136
      refine j_iconst (v := 0) C dL_law_666 (by decide) ?_
      refine j_cVI (n := 2) (rest := []) (k1 := (N1 + 1)) (k2 := (N2 + 6)) C 31 (c_X8_hold (xl X) G C.2.2.1 _ (xs (ix (v4 + (1 : Int32)))) (0 : Int32) μ114) h gL_law_X8_hold rfl ⟨rfl, rfl⟩ (by decide +kernel) ⟨by decide, by decide⟩ ⟨by have := hN.1; show _ ≤ 601024; omega, by have := hN.2; show _ ≤ 7293034; omega⟩ sh_31 (by decide) cl_X8 rfl rfl (Nat.le_of_ble_eq_true rfl) dL_law_667 rfl rfl (fun r119 μ118 h => ?_)
      refine j_istore (lv' := [(0, .ref b), (1, .ref (ad G 0)), (2, .ref (ad G 31)), (3, .ref (ad G 56)), (4, .int v4), (5, .int r115), (6, .int r119)]) C dL_law_670 (by decide) rfl rfl ?_
      refine j_aload_n C 2 dL_law_672 rfl ?_
      refine j_cVI (n := 0) (rest := []) (k1 := (N1 + 1)) (k2 := (N2 + 6)) C 31 (c_X8_thrown (xl X) G C.2.2.1 _ μ118) h gL_law_X8_thrown rfl ⟨rfl, rfl⟩ (by decide +kernel) ⟨by decide, by decide⟩ ⟨by have := hN.1; show _ ≤ 601024; omega, by have := hN.2; show _ ≤ 7293034; omega⟩ sh_31 (by decide) cl_X8 rfl rfl (Nat.le_of_ble_eq_true rfl) dL_law_673 rfl rfl (fun r121 μ120 h => ?_)
      refine j_iload C 5 dL_law_676 rfl ?_
      refine j_icmp_eq C 683 dL_law_678 (by decide) (fun c126 => ?_) (fun c126 => ?_)
      · replace h := h.1 c126
        refine j_iload C 5 dL_law_683 rfl ?_
        refine j_if_ne C 707 dL_law_685 (by decide) (fun c125 => ?_) (fun c125 => ?_)
        · replace h := h.1 c125
          refine j_goto C 1765 dL_law_707 (by decide) ?_
          refine j_forget [0, 1, 2, 3, 4] rfl ?_
          refine j_widen (k1 := N1 + 2) (k2 := N2 + 12) (by omega) (by omega) ?_
          exact hk _ h
        · replace h := h.2 c125
          refine j_aload_n C 3 dL_law_688 rfl ?_
          refine j_iconst (v := 0) C dL_law_689 (by decide) ?_
          refine j_lald C 56 sh_56 (by decide) in01 dL_law_690 ?_
          refine j_iload C 6 dL_law_691 rfl ?_
          refine j_if_eq C 700 dL_law_693 (by decide) (fun c124 => ?_) (fun c124 => ?_)
          · replace h := h.1 c124
            refine j_lconst (v := 0) C dL_law_700 (by decide) ?_
            refine j_lcmp C dL_law_701 ?_
            refine j_if_eq C 707 dL_law_702 (by decide) (fun c122 => ?_) (fun c122 => ?_)
            · replace h := h.1 c122
              refine j_goto C 1765 dL_law_707 (by decide) ?_
              refine j_forget [0, 1, 2, 3, 4] rfl ?_
              refine j_widen (k1 := N1 + 2) (k2 := N2 + 12) (by omega) (by omega) ?_
              exact hk _ h
            · replace h := h.2 c122
              refine j_iconst (v := 0) C dL_law_705 (by decide) ?_
              exact h.elim
          · replace h := h.2 c124
            refine j_lconst (v := 1) C dL_law_696 (by decide) ?_
            refine j_goto C 701 dL_law_697 (by decide) ?_
            refine j_lcmp C dL_law_701 ?_
            refine j_if_eq C 707 dL_law_702 (by decide) (fun c123 => ?_) (fun c123 => ?_)
            · replace h := h.1 c123
              refine j_goto C 1765 dL_law_707 (by decide) ?_
              refine j_forget [0, 1, 2, 3, 4] rfl ?_
              refine j_widen (k1 := N1 + 2) (k2 := N2 + 12) (by omega) (by omega) ?_
              exact hk _ h
            · replace h := h.2 c123
              refine j_iconst (v := 0) C dL_law_705 (by decide) ?_
              exact h.elim
      · replace h := h.2 c126
        refine j_iconst (v := 0) C dL_law_681 (by decide) ?_
        exact h.elim
    · replace h := h.2 c136
      refine j_iconst (v := 1) C dL_law_662 (by decide) ?_
      refine j_goto C 667 dL_law_663 (by decide) ?_
      refine j_cVI (n := 2) (rest := []) (k1 := (N1 + 1)) (k2 := (N2 + 6)) C 31 (c_X8_hold (xl X) G C.2.2.1 _ (xs (ix (v4 + (1 : Int32)))) (1 : Int32) μ114) h gL_law_X8_hold rfl ⟨rfl, rfl⟩ (by decide +kernel) ⟨by decide, by decide⟩ ⟨by have := hN.1; show _ ≤ 601024; omega, by have := hN.2; show _ ≤ 7293034; omega⟩ sh_31 (by decide) cl_X8 rfl rfl (Nat.le_of_ble_eq_true rfl) dL_law_667 rfl rfl (fun r128 μ127 h => ?_)
      refine j_istore (lv' := [(0, .ref b), (1, .ref (ad G 0)), (2, .ref (ad G 31)), (3, .ref (ad G 56)), (4, .int v4), (5, .int r115), (6, .int r128)]) C dL_law_670 (by decide) rfl rfl ?_
      refine j_aload_n C 2 dL_law_672 rfl ?_
      refine j_cVI (n := 0) (rest := []) (k1 := (N1 + 1)) (k2 := (N2 + 6)) C 31 (c_X8_thrown (xl X) G C.2.2.1 _ μ127) h gL_law_X8_thrown rfl ⟨rfl, rfl⟩ (by decide +kernel) ⟨by decide, by decide⟩ ⟨by have := hN.1; show _ ≤ 601024; omega, by have := hN.2; show _ ≤ 7293034; omega⟩ sh_31 (by decide) cl_X8 rfl rfl (Nat.le_of_ble_eq_true rfl) dL_law_673 rfl rfl (fun r130 μ129 h => ?_)
      refine j_iload C 5 dL_law_676 rfl ?_
      refine j_icmp_eq C 683 dL_law_678 (by decide) (fun c135 => ?_) (fun c135 => ?_)
      · replace h := h.1 c135
        refine j_iload C 5 dL_law_683 rfl ?_
        refine j_if_ne C 707 dL_law_685 (by decide) (fun c134 => ?_) (fun c134 => ?_)
        · replace h := h.1 c134
          refine j_goto C 1765 dL_law_707 (by decide) ?_
          refine j_forget [0, 1, 2, 3, 4] rfl ?_
          refine j_widen (k1 := N1 + 2) (k2 := N2 + 12) (by omega) (by omega) ?_
          exact hk _ h
        · replace h := h.2 c134
          refine j_aload_n C 3 dL_law_688 rfl ?_
          refine j_iconst (v := 0) C dL_law_689 (by decide) ?_
          refine j_lald C 56 sh_56 (by decide) in01 dL_law_690 ?_
          refine j_iload C 6 dL_law_691 rfl ?_
          refine j_if_eq C 700 dL_law_693 (by decide) (fun c133 => ?_) (fun c133 => ?_)
          · replace h := h.1 c133
            refine j_lconst (v := 0) C dL_law_700 (by decide) ?_
            refine j_lcmp C dL_law_701 ?_
            refine j_if_eq C 707 dL_law_702 (by decide) (fun c131 => ?_) (fun c131 => ?_)
            · replace h := h.1 c131
              refine j_goto C 1765 dL_law_707 (by decide) ?_
              refine j_forget [0, 1, 2, 3, 4] rfl ?_
              refine j_widen (k1 := N1 + 2) (k2 := N2 + 12) (by omega) (by omega) ?_
              exact hk _ h
            · replace h := h.2 c131
              refine j_iconst (v := 0) C dL_law_705 (by decide) ?_
              exact h.elim
          · replace h := h.2 c133
            refine j_lconst (v := 1) C dL_law_696 (by decide) ?_
            refine j_goto C 701 dL_law_697 (by decide) ?_
            refine j_lcmp C dL_law_701 ?_
            refine j_if_eq C 707 dL_law_702 (by decide) (fun c132 => ?_) (fun c132 => ?_)
            · replace h := h.1 c132
              refine j_goto C 1765 dL_law_707 (by decide) ?_
              refine j_forget [0, 1, 2, 3, 4] rfl ?_
              refine j_widen (k1 := N1 + 2) (k2 := N2 + 12) (by omega) (by omega) ?_
              exact hk _ h
            · replace h := h.2 c132
              refine j_iconst (v := 0) C dL_law_705 (by decide) ?_
              exact h.elim
      · replace h := h.2 c135
        refine j_iconst (v := 0) C dL_law_681 (by decide) ?_
        exact h.elim
set_option maxHeartbeats 4000000 in
set_option maxRecDepth 100000 in
theorem law_c7_j {G : Gt} {X : Cxt} {Q : State → Prop} {b L N1 N2 : Nat} {xs : Nat → Int32} (C : Cx G X cL_law RL wsL_law 7 room_1) (hS : Scr G X b L xs) (hs : (xl X).stackTraces = false) (hN : N1 + 2 ≤ 601024 ∧ N2 + 12 ≤ 7293034) {v4 : Int32} {k23 : Mem → Prop} (hk : ∀ μ : Mem, k23 μ → J G X Q 7 (N1 + 2) (N2 + 12) 1765 [(0, .ref b), (1, .ref (ad G 0)), (2, .ref (ad G 31)), (3, .ref (ad G 56)), (4, .int v4)] [] μ) {μ : Mem} (h : w_law_c7 xs L k23 v4 μ) : J G X Q 7 N1 N2 710 [(0, .ref b), (1, .ref (ad G 0)), (2, .ref (ad G 31)), (3, .ref (ad G 56)), (4, .int v4)] [] μ := by
  unfold w_law_c7 at h
  refine j_aload_n C 1 dL_law_710 rfl ?_
  refine j_aload_n C 0 dL_law_711 rfl ?_
  refine j_iload C 4 dL_law_712 rfl ?_
  refine j_iconst (v := 1) C dL_law_714 (by decide) ?_
  refine j_iadd C dL_law_715 ?_
  have b138 := h.1
  replace h := h.2
  refine j_sld C hS b138 dL_law_716 ?_
  refine j_aload_n C 0 dL_law_717 rfl ?_
  refine j_iload C 4 dL_law_718 rfl ?_
  refine j_iconst (v := 2) C dL_law_720 (by decide) ?_
  refine j_iadd C dL_law_721 ?_
  have b139 := h.1
  replace h := h.2
  refine j_sld C hS b139 dL_law_722 ?_
  refine j_aload_n C 0 dL_law_723 rfl ?_
  refine j_iload C 4 dL_law_724 rfl ?_
  refine j_iconst (v := 3) C dL_law_726 (by decide) ?_
  refine j_iadd C dL_law_727 ?_
  have b140 := h.1
  replace h := h.2
  refine j_sld C hS b140 dL_law_728 ?_
  refine j_aload_n C 3 dL_law_729 rfl ?_
  refine j_cWI (n := 5) (rest := []) (k1 := (N1 + 2)) (k2 := (N2 + 12)) C (c_L_write (xl X) G C.2.2.1 hs _ (xs (ix (v4 + (1 : Int32)))) (xs (ix (v4 + (2 : Int32)))) (xs (ix (v4 + (3 : Int32)))) μ) h gL_law_L_write rfl ⟨rfl, rfl⟩ (by decide +kernel) ⟨by decide, by decide⟩ ⟨by have := hN.1; show _ ≤ 601024; omega, by have := hN.2; show _ ≤ 7293034; omega⟩ rfl rfl (Nat.le_of_ble_eq_true rfl) dL_law_730 rfl rfl (fun r142 μ141 h => ?_)
  refine j_istore (lv' := [(0, .ref b), (1, .ref (ad G 0)), (2, .ref (ad G 31)), (3, .ref (ad G 56)), (4, .int v4), (5, .int r142)]) C dL_law_733 (by decide) rfl rfl ?_
  refine j_aload_n C 2 dL_law_735 rfl ?_
  refine j_aload_n C 0 dL_law_736 rfl ?_
  refine j_iload C 4 dL_law_737 rfl ?_
  refine j_iconst (v := 1) C dL_law_739 (by decide) ?_
  refine j_iadd C dL_law_740 ?_
  have b143 := h.1
  replace h := h.2
  refine j_sld C hS b143 dL_law_741 ?_
  refine j_aload_n C 0 dL_law_742 rfl ?_
  refine j_iload C 4 dL_law_743 rfl ?_
  refine j_iconst (v := 2) C dL_law_745 (by decide) ?_
  refine j_iadd C dL_law_746 ?_
  have b144 := h.1
  replace h := h.2
  refine j_sld C hS b144 dL_law_747 ?_
  refine j_aload_n C 0 dL_law_748 rfl ?_
  refine j_iload C 4 dL_law_749 rfl ?_
  refine j_iconst (v := 3) C dL_law_751 (by decide) ?_
  refine j_iadd C dL_law_752 ?_
  have b145 := h.1
  replace h := h.2
  refine j_sld C hS b145 dL_law_753 ?_
  refine j_cVI (n := 3) (rest := []) (k1 := (N1 + 2)) (k2 := (N2 + 12)) C 31 (c_X8_write (xl X) G C.2.2.1 _ (xs (ix (v4 + (1 : Int32)))) (xs (ix (v4 + (2 : Int32)))) (xs (ix (v4 + (3 : Int32)))) μ141) h gL_law_X8_write rfl ⟨rfl, rfl⟩ (by decide +kernel) ⟨by decide, by decide⟩ ⟨by have := hN.1; show _ ≤ 601024; omega, by have := hN.2; show _ ≤ 7293034; omega⟩ sh_31 (by decide) cl_X8 rfl rfl (Nat.le_of_ble_eq_true rfl) dL_law_754 rfl rfl (fun r147 μ146 h => ?_)
  refine j_istore (lv' := [(0, .ref b), (1, .ref (ad G 0)), (2, .ref (ad G 31)), (3, .ref (ad G 56)), (4, .int v4), (5, .int r142), (6, .int r147)]) C dL_law_757 (by decide) rfl rfl ?_
  refine j_aload_n C 2 dL_law_759 rfl ?_
  refine j_cVI (n := 0) (rest := []) (k1 := (N1 + 2)) (k2 := (N2 + 12)) C 31 (c_X8_thrown (xl X) G C.2.2.1 _ μ146) h gL_law_X8_thrown rfl ⟨rfl, rfl⟩ (by decide +kernel) ⟨by decide, by decide⟩ ⟨by have := hN.1; show _ ≤ 601024; omega, by have := hN.2; show _ ≤ 7293034; omega⟩ sh_31 (by decide) cl_X8 rfl rfl (Nat.le_of_ble_eq_true rfl) dL_law_760 rfl rfl (fun r149 μ148 h => ?_)
  refine j_iload C 5 dL_law_763 rfl ?_
  refine j_icmp_eq C 770 dL_law_765 (by decide) (fun c152 => ?_) (fun c152 => ?_)
  · replace h := h.1 c152
    refine j_iload C 5 dL_law_770 rfl ?_
    refine j_if_ne C 787 dL_law_772 (by decide) (fun c151 => ?_) (fun c151 => ?_)
    · replace h := h.1 c151
      refine j_goto C 1765 dL_law_787 (by decide) ?_
      refine j_forget [0, 1, 2, 3, 4] rfl ?_
      exact hk _ h
    · replace h := h.2 c151
      refine j_aload_n C 3 dL_law_775 rfl ?_
      refine j_iconst (v := 0) C dL_law_776 (by decide) ?_
      refine j_lald C 56 sh_56 (by decide) in01 dL_law_777 ?_
      refine j_iload C 6 dL_law_778 rfl ?_
      refine j_i2l C dL_law_780 ?_
      refine j_lcmp C dL_law_781 ?_
      refine j_if_eq C 787 dL_law_782 (by decide) (fun c150 => ?_) (fun c150 => ?_)
      · replace h := h.1 c150
        refine j_goto C 1765 dL_law_787 (by decide) ?_
        refine j_forget [0, 1, 2, 3, 4] rfl ?_
        exact hk _ h
      · replace h := h.2 c150
        refine j_iconst (v := 0) C dL_law_785 (by decide) ?_
        exact h.elim
  · replace h := h.2 c152
    refine j_iconst (v := 0) C dL_law_768 (by decide) ?_
    exact h.elim
set_option maxHeartbeats 4000000 in
set_option maxRecDepth 100000 in
theorem law_c8_j {G : Gt} {X : Cxt} {Q : State → Prop} {b L N1 N2 : Nat} {xs : Nat → Int32} (C : Cx G X cL_law RL wsL_law 7 room_1) (hS : Scr G X b L xs) (hs : (xl X).stackTraces = false) (hN : N1 + 2 ≤ 601024 ∧ N2 + 12 ≤ 7293034) {v4 : Int32} {k23 : Mem → Prop} (hk : ∀ μ : Mem, k23 μ → J G X Q 7 (N1 + 2) (N2 + 12) 1765 [(0, .ref b), (1, .ref (ad G 0)), (2, .ref (ad G 31)), (3, .ref (ad G 56)), (4, .int v4)] [] μ) {μ : Mem} (h : w_law_c8 xs L k23 v4 μ) : J G X Q 7 N1 N2 790 [(0, .ref b), (1, .ref (ad G 0)), (2, .ref (ad G 31)), (3, .ref (ad G 56)), (4, .int v4)] [] μ := by
  unfold w_law_c8 at h
  refine j_aload_n C 1 dL_law_790 rfl ?_
  refine j_aload_n C 0 dL_law_791 rfl ?_
  refine j_iload C 4 dL_law_792 rfl ?_
  refine j_iconst (v := 1) C dL_law_794 (by decide) ?_
  refine j_iadd C dL_law_795 ?_
  have b153 := h.1
  replace h := h.2
  refine j_sld C hS b153 dL_law_796 ?_
  refine j_aload_n C 0 dL_law_797 rfl ?_
  refine j_iload C 4 dL_law_798 rfl ?_
  refine j_iconst (v := 2) C dL_law_800 (by decide) ?_
  refine j_iadd C dL_law_801 ?_
  have b154 := h.1
  replace h := h.2
  refine j_sld C hS b154 dL_law_802 ?_
  refine j_aload_n C 0 dL_law_803 rfl ?_
  refine j_iload C 4 dL_law_804 rfl ?_
  refine j_iconst (v := 3) C dL_law_806 (by decide) ?_
  refine j_iadd C dL_law_807 ?_
  have b155 := h.1
  replace h := h.2
  refine j_sld C hS b155 dL_law_808 ?_
  refine j_aload_n C 0 dL_law_809 rfl ?_
  refine j_iload C 4 dL_law_810 rfl ?_
  refine j_iconst (v := 4) C dL_law_812 (by decide) ?_
  refine j_iadd C dL_law_813 ?_
  have b156 := h.1
  replace h := h.2
  refine j_sld C hS b156 dL_law_814 ?_
  refine j_aload_n C 3 dL_law_815 rfl ?_
  refine j_cWI (n := 6) (rest := []) (k1 := (N1 + 2)) (k2 := (N2 + 12)) C (c_L_fill (xl X) G C.2.2.1 hs _ (xs (ix (v4 + (1 : Int32)))) (xs (ix (v4 + (2 : Int32)))) (xs (ix (v4 + (3 : Int32)))) (xs (ix (v4 + (4 : Int32)))) μ) h gL_law_L_fill rfl ⟨rfl, rfl⟩ (by decide +kernel) ⟨by decide, by decide⟩ ⟨by have := hN.1; show _ ≤ 601024; omega, by have := hN.2; show _ ≤ 7293034; omega⟩ rfl rfl (Nat.le_of_ble_eq_true rfl) dL_law_816 rfl rfl (fun r158 μ157 h => ?_)
  refine j_istore (lv' := [(0, .ref b), (1, .ref (ad G 0)), (2, .ref (ad G 31)), (3, .ref (ad G 56)), (4, .int v4), (5, .int r158)]) C dL_law_819 (by decide) rfl rfl ?_
  refine j_aload_n C 2 dL_law_821 rfl ?_
  refine j_aload_n C 0 dL_law_822 rfl ?_
  refine j_iload C 4 dL_law_823 rfl ?_
  refine j_iconst (v := 1) C dL_law_825 (by decide) ?_
  refine j_iadd C dL_law_826 ?_
  have b159 := h.1
  replace h := h.2
  refine j_sld C hS b159 dL_law_827 ?_
  refine j_aload_n C 0 dL_law_828 rfl ?_
  refine j_iload C 4 dL_law_829 rfl ?_
  refine j_iconst (v := 2) C dL_law_831 (by decide) ?_
  refine j_iadd C dL_law_832 ?_
  have b160 := h.1
  replace h := h.2
  refine j_sld C hS b160 dL_law_833 ?_
  refine j_aload_n C 0 dL_law_834 rfl ?_
  refine j_iload C 4 dL_law_835 rfl ?_
  refine j_iconst (v := 3) C dL_law_837 (by decide) ?_
  refine j_iadd C dL_law_838 ?_
  have b161 := h.1
  replace h := h.2
  refine j_sld C hS b161 dL_law_839 ?_
  refine j_aload_n C 0 dL_law_840 rfl ?_
  refine j_iload C 4 dL_law_841 rfl ?_
  refine j_iconst (v := 4) C dL_law_843 (by decide) ?_
  refine j_iadd C dL_law_844 ?_
  have b162 := h.1
  replace h := h.2
  refine j_sld C hS b162 dL_law_845 ?_
  refine j_cVI (n := 4) (rest := []) (k1 := (N1 + 2)) (k2 := (N2 + 12)) C 31 (c_X8_fill (xl X) G C.2.2.1 _ (xs (ix (v4 + (1 : Int32)))) (xs (ix (v4 + (2 : Int32)))) (xs (ix (v4 + (3 : Int32)))) (xs (ix (v4 + (4 : Int32)))) μ157) h gL_law_X8_fill rfl ⟨rfl, rfl⟩ (by decide +kernel) ⟨by decide, by decide⟩ ⟨by have := hN.1; show _ ≤ 601024; omega, by have := hN.2; show _ ≤ 7293034; omega⟩ sh_31 (by decide) cl_X8 rfl rfl (Nat.le_of_ble_eq_true rfl) dL_law_846 rfl rfl (fun r164 μ163 h => ?_)
  refine j_istore (lv' := [(0, .ref b), (1, .ref (ad G 0)), (2, .ref (ad G 31)), (3, .ref (ad G 56)), (4, .int v4), (5, .int r158), (6, .int r164)]) C dL_law_849 (by decide) rfl rfl ?_
  refine j_aload_n C 2 dL_law_851 rfl ?_
  refine j_cVI (n := 0) (rest := []) (k1 := (N1 + 2)) (k2 := (N2 + 12)) C 31 (c_X8_thrown (xl X) G C.2.2.1 _ μ163) h gL_law_X8_thrown rfl ⟨rfl, rfl⟩ (by decide +kernel) ⟨by decide, by decide⟩ ⟨by have := hN.1; show _ ≤ 601024; omega, by have := hN.2; show _ ≤ 7293034; omega⟩ sh_31 (by decide) cl_X8 rfl rfl (Nat.le_of_ble_eq_true rfl) dL_law_852 rfl rfl (fun r166 μ165 h => ?_)
  refine j_iload C 5 dL_law_855 rfl ?_
  refine j_icmp_eq C 862 dL_law_857 (by decide) (fun c169 => ?_) (fun c169 => ?_)
  · replace h := h.1 c169
    refine j_iload C 5 dL_law_862 rfl ?_
    refine j_if_ne C 879 dL_law_864 (by decide) (fun c168 => ?_) (fun c168 => ?_)
    · replace h := h.1 c168
      refine j_goto C 1765 dL_law_879 (by decide) ?_
      refine j_forget [0, 1, 2, 3, 4] rfl ?_
      exact hk _ h
    · replace h := h.2 c168
      refine j_aload_n C 3 dL_law_867 rfl ?_
      refine j_iconst (v := 0) C dL_law_868 (by decide) ?_
      refine j_lald C 56 sh_56 (by decide) in01 dL_law_869 ?_
      refine j_iload C 6 dL_law_870 rfl ?_
      refine j_i2l C dL_law_872 ?_
      refine j_lcmp C dL_law_873 ?_
      refine j_if_eq C 879 dL_law_874 (by decide) (fun c167 => ?_) (fun c167 => ?_)
      · replace h := h.1 c167
        refine j_goto C 1765 dL_law_879 (by decide) ?_
        refine j_forget [0, 1, 2, 3, 4] rfl ?_
        exact hk _ h
      · replace h := h.2 c167
        refine j_iconst (v := 0) C dL_law_877 (by decide) ?_
        exact h.elim
  · replace h := h.2 c169
    refine j_iconst (v := 0) C dL_law_860 (by decide) ?_
    exact h.elim
set_option maxHeartbeats 4000000 in
set_option maxRecDepth 100000 in
theorem law_c9_j {G : Gt} {X : Cxt} {Q : State → Prop} {b L N1 N2 : Nat} {xs : Nat → Int32} (C : Cx G X cL_law RL wsL_law 7 room_1) (hS : Scr G X b L xs) (hs : (xl X).stackTraces = false) (hN : N1 + 2 ≤ 601024 ∧ N2 + 12 ≤ 7293034) {v4 : Int32} {k23 : Mem → Prop} (hk : ∀ μ : Mem, k23 μ → J G X Q 7 (N1 + 2) (N2 + 12) 1765 [(0, .ref b), (1, .ref (ad G 0)), (2, .ref (ad G 31)), (3, .ref (ad G 56)), (4, .int v4)] [] μ) {μ : Mem} (h : w_law_c9 xs L k23 v4 μ) : J G X Q 7 N1 N2 882 [(0, .ref b), (1, .ref (ad G 0)), (2, .ref (ad G 31)), (3, .ref (ad G 56)), (4, .int v4)] [] μ := by
  unfold w_law_c9 at h
  refine j_aload_n C 1 dL_law_882 rfl ?_
  refine j_aload_n C 0 dL_law_883 rfl ?_
  refine j_iload C 4 dL_law_884 rfl ?_
  refine j_iconst (v := 1) C dL_law_886 (by decide) ?_
  refine j_iadd C dL_law_887 ?_
  have b170 := h.1
  replace h := h.2
  refine j_sld C hS b170 dL_law_888 ?_
  refine j_aload_n C 0 dL_law_889 rfl ?_
  refine j_iload C 4 dL_law_890 rfl ?_
  refine j_iconst (v := 2) C dL_law_892 (by decide) ?_
  refine j_iadd C dL_law_893 ?_
  have b171 := h.1
  replace h := h.2
  refine j_sld C hS b171 dL_law_894 ?_
  refine j_aload_n C 3 dL_law_895 rfl ?_
  refine j_cWI (n := 4) (rest := []) (k1 := (N1 + 2)) (k2 := (N2 + 12)) C (c_L_at (xl X) G C.2.2.1 hs _ (xs (ix (v4 + (1 : Int32)))) (xs (ix (v4 + (2 : Int32)))) μ) h gL_law_L_at rfl ⟨rfl, rfl⟩ (by decide +kernel) ⟨by decide, by decide⟩ ⟨by have := hN.1; show _ ≤ 601024; omega, by have := hN.2; show _ ≤ 7293034; omega⟩ rfl rfl (Nat.le_of_ble_eq_true rfl) dL_law_896 rfl rfl (fun r173 μ172 h => ?_)
  refine j_istore (lv' := [(0, .ref b), (1, .ref (ad G 0)), (2, .ref (ad G 31)), (3, .ref (ad G 56)), (4, .int v4), (5, .int r173)]) C dL_law_899 (by decide) rfl rfl ?_
  refine j_aload_n C 2 dL_law_901 rfl ?_
  refine j_aload_n C 0 dL_law_902 rfl ?_
  refine j_iload C 4 dL_law_903 rfl ?_
  refine j_iconst (v := 1) C dL_law_905 (by decide) ?_
  refine j_iadd C dL_law_906 ?_
  have b174 := h.1
  replace h := h.2
  refine j_sld C hS b174 dL_law_907 ?_
  refine j_aload_n C 0 dL_law_908 rfl ?_
  refine j_iload C 4 dL_law_909 rfl ?_
  refine j_iconst (v := 2) C dL_law_911 (by decide) ?_
  refine j_iadd C dL_law_912 ?_
  have b175 := h.1
  replace h := h.2
  refine j_sld C hS b175 dL_law_913 ?_
  refine j_cVI (n := 2) (rest := []) (k1 := (N1 + 2)) (k2 := (N2 + 12)) C 31 (c_X8_at (xl X) G C.2.2.1 _ (xs (ix (v4 + (1 : Int32)))) (xs (ix (v4 + (2 : Int32)))) μ172) h gL_law_X8_at rfl ⟨rfl, rfl⟩ (by decide +kernel) ⟨by decide, by decide⟩ ⟨by have := hN.1; show _ ≤ 601024; omega, by have := hN.2; show _ ≤ 7293034; omega⟩ sh_31 (by decide) cl_X8 rfl rfl (Nat.le_of_ble_eq_true rfl) dL_law_914 rfl rfl (fun r177 μ176 h => ?_)
  refine j_istore (lv' := [(0, .ref b), (1, .ref (ad G 0)), (2, .ref (ad G 31)), (3, .ref (ad G 56)), (4, .int v4), (5, .int r173), (6, .int r177)]) C dL_law_917 (by decide) rfl rfl ?_
  refine j_aload_n C 2 dL_law_919 rfl ?_
  refine j_cVI (n := 0) (rest := []) (k1 := (N1 + 2)) (k2 := (N2 + 12)) C 31 (c_X8_thrown (xl X) G C.2.2.1 _ μ176) h gL_law_X8_thrown rfl ⟨rfl, rfl⟩ (by decide +kernel) ⟨by decide, by decide⟩ ⟨by have := hN.1; show _ ≤ 601024; omega, by have := hN.2; show _ ≤ 7293034; omega⟩ sh_31 (by decide) cl_X8 rfl rfl (Nat.le_of_ble_eq_true rfl) dL_law_920 rfl rfl (fun r179 μ178 h => ?_)
  refine j_iload C 5 dL_law_923 rfl ?_
  refine j_icmp_eq C 930 dL_law_925 (by decide) (fun c182 => ?_) (fun c182 => ?_)
  · replace h := h.1 c182
    refine j_iload C 5 dL_law_930 rfl ?_
    refine j_if_ne C 947 dL_law_932 (by decide) (fun c181 => ?_) (fun c181 => ?_)
    · replace h := h.1 c181
      refine j_goto C 1765 dL_law_947 (by decide) ?_
      refine j_forget [0, 1, 2, 3, 4] rfl ?_
      exact hk _ h
    · replace h := h.2 c181
      refine j_aload_n C 3 dL_law_935 rfl ?_
      refine j_iconst (v := 0) C dL_law_936 (by decide) ?_
      refine j_lald C 56 sh_56 (by decide) in01 dL_law_937 ?_
      refine j_iload C 6 dL_law_938 rfl ?_
      refine j_i2l C dL_law_940 ?_
      refine j_lcmp C dL_law_941 ?_
      refine j_if_eq C 947 dL_law_942 (by decide) (fun c180 => ?_) (fun c180 => ?_)
      · replace h := h.1 c180
        refine j_goto C 1765 dL_law_947 (by decide) ?_
        refine j_forget [0, 1, 2, 3, 4] rfl ?_
        exact hk _ h
      · replace h := h.2 c180
        refine j_iconst (v := 0) C dL_law_945 (by decide) ?_
        exact h.elim
  · replace h := h.2 c182
    refine j_iconst (v := 0) C dL_law_928 (by decide) ?_
    exact h.elim
set_option maxHeartbeats 4000000 in
set_option maxRecDepth 100000 in
theorem law_c10_j {G : Gt} {X : Cxt} {Q : State → Prop} {b L N1 N2 : Nat} {xs : Nat → Int32} (C : Cx G X cL_law RL wsL_law 7 room_1) (hS : Scr G X b L xs) (hs : (xl X).stackTraces = false) (hN : N1 + 2 ≤ 601024 ∧ N2 + 12 ≤ 7293034) {v4 : Int32} {k23 : Mem → Prop} (hk : ∀ μ : Mem, k23 μ → J G X Q 7 (N1 + 2) (N2 + 12) 1765 [(0, .ref b), (1, .ref (ad G 0)), (2, .ref (ad G 31)), (3, .ref (ad G 56)), (4, .int v4)] [] μ) {μ : Mem} (h : w_law_c10 xs L k23 v4 μ) : J G X Q 7 N1 N2 950 [(0, .ref b), (1, .ref (ad G 0)), (2, .ref (ad G 31)), (3, .ref (ad G 56)), (4, .int v4)] [] μ := by
  unfold w_law_c10 at h
  refine j_aload_n C 1 dL_law_950 rfl ?_
  refine j_aload_n C 0 dL_law_951 rfl ?_
  refine j_iload C 4 dL_law_952 rfl ?_
  refine j_iconst (v := 1) C dL_law_954 (by decide) ?_
  refine j_iadd C dL_law_955 ?_
  have b183 := h.1
  replace h := h.2
  refine j_sld C hS b183 dL_law_956 ?_
  refine j_aload_n C 0 dL_law_957 rfl ?_
  refine j_iload C 4 dL_law_958 rfl ?_
  refine j_iconst (v := 2) C dL_law_960 (by decide) ?_
  refine j_iadd C dL_law_961 ?_
  have b184 := h.1
  replace h := h.2
  refine j_sld C hS b184 dL_law_962 ?_
  refine j_aload_n C 3 dL_law_963 rfl ?_
  refine j_cWI (n := 4) (rest := []) (k1 := (N1 + 2)) (k2 := (N2 + 12)) C (c_L_about (xl X) G C.2.2.1 hs _ (xs (ix (v4 + (1 : Int32)))) (xs (ix (v4 + (2 : Int32)))) μ) h gL_law_L_about rfl ⟨rfl, rfl⟩ (by decide +kernel) ⟨by decide, by decide⟩ ⟨by have := hN.1; show _ ≤ 601024; omega, by have := hN.2; show _ ≤ 7293034; omega⟩ rfl rfl (Nat.le_of_ble_eq_true rfl) dL_law_964 rfl rfl (fun r186 μ185 h => ?_)
  refine j_istore (lv' := [(0, .ref b), (1, .ref (ad G 0)), (2, .ref (ad G 31)), (3, .ref (ad G 56)), (4, .int v4), (5, .int r186)]) C dL_law_967 (by decide) rfl rfl ?_
  refine j_aload_n C 2 dL_law_969 rfl ?_
  refine j_aload_n C 0 dL_law_970 rfl ?_
  refine j_iload C 4 dL_law_971 rfl ?_
  refine j_iconst (v := 1) C dL_law_973 (by decide) ?_
  refine j_iadd C dL_law_974 ?_
  have b187 := h.1
  replace h := h.2
  refine j_sld C hS b187 dL_law_975 ?_
  refine j_aload_n C 0 dL_law_976 rfl ?_
  refine j_iload C 4 dL_law_977 rfl ?_
  refine j_iconst (v := 2) C dL_law_979 (by decide) ?_
  refine j_iadd C dL_law_980 ?_
  have b188 := h.1
  replace h := h.2
  refine j_sld C hS b188 dL_law_981 ?_
  refine j_cVI (n := 2) (rest := []) (k1 := (N1 + 2)) (k2 := (N2 + 12)) C 31 (c_X8_about (xl X) G C.2.2.1 _ (xs (ix (v4 + (1 : Int32)))) (xs (ix (v4 + (2 : Int32)))) μ185) h gL_law_X8_about rfl ⟨rfl, rfl⟩ (by decide +kernel) ⟨by decide, by decide⟩ ⟨by have := hN.1; show _ ≤ 601024; omega, by have := hN.2; show _ ≤ 7293034; omega⟩ sh_31 (by decide) cl_X8 rfl rfl (Nat.le_of_ble_eq_true rfl) dL_law_982 rfl rfl (fun r190 μ189 h => ?_)
  refine j_istore (lv' := [(0, .ref b), (1, .ref (ad G 0)), (2, .ref (ad G 31)), (3, .ref (ad G 56)), (4, .int v4), (5, .int r186), (6, .int r190)]) C dL_law_985 (by decide) rfl rfl ?_
  refine j_aload_n C 2 dL_law_987 rfl ?_
  refine j_cVI (n := 0) (rest := []) (k1 := (N1 + 2)) (k2 := (N2 + 12)) C 31 (c_X8_thrown (xl X) G C.2.2.1 _ μ189) h gL_law_X8_thrown rfl ⟨rfl, rfl⟩ (by decide +kernel) ⟨by decide, by decide⟩ ⟨by have := hN.1; show _ ≤ 601024; omega, by have := hN.2; show _ ≤ 7293034; omega⟩ sh_31 (by decide) cl_X8 rfl rfl (Nat.le_of_ble_eq_true rfl) dL_law_988 rfl rfl (fun r192 μ191 h => ?_)
  refine j_iload C 5 dL_law_991 rfl ?_
  refine j_icmp_eq C 998 dL_law_993 (by decide) (fun c195 => ?_) (fun c195 => ?_)
  · replace h := h.1 c195
    refine j_iload C 5 dL_law_998 rfl ?_
    refine j_if_ne C 1015 dL_law_1000 (by decide) (fun c194 => ?_) (fun c194 => ?_)
    · replace h := h.1 c194
      refine j_goto C 1765 dL_law_1015 (by decide) ?_
      refine j_forget [0, 1, 2, 3, 4] rfl ?_
      exact hk _ h
    · replace h := h.2 c194
      refine j_aload_n C 3 dL_law_1003 rfl ?_
      refine j_iconst (v := 0) C dL_law_1004 (by decide) ?_
      refine j_lald C 56 sh_56 (by decide) in01 dL_law_1005 ?_
      refine j_iload C 6 dL_law_1006 rfl ?_
      refine j_i2l C dL_law_1008 ?_
      refine j_lcmp C dL_law_1009 ?_
      refine j_if_eq C 1015 dL_law_1010 (by decide) (fun c193 => ?_) (fun c193 => ?_)
      · replace h := h.1 c193
        refine j_goto C 1765 dL_law_1015 (by decide) ?_
        refine j_forget [0, 1, 2, 3, 4] rfl ?_
        exact hk _ h
      · replace h := h.2 c193
        refine j_iconst (v := 0) C dL_law_1013 (by decide) ?_
        exact h.elim
  · replace h := h.2 c195
    refine j_iconst (v := 0) C dL_law_996 (by decide) ?_
    exact h.elim
set_option maxHeartbeats 4000000 in
set_option maxRecDepth 100000 in
theorem law_c11_j {G : Gt} {X : Cxt} {Q : State → Prop} {b L N1 N2 : Nat} {xs : Nat → Int32} (C : Cx G X cL_law RL wsL_law 7 room_1) (hS : Scr G X b L xs) (hs : (xl X).stackTraces = false) (hN : N1 + 2 ≤ 601024 ∧ N2 + 12 ≤ 7293034) {v4 : Int32} {k23 : Mem → Prop} (hk : ∀ μ : Mem, k23 μ → J G X Q 7 (N1 + 2) (N2 + 12) 1765 [(0, .ref b), (1, .ref (ad G 0)), (2, .ref (ad G 31)), (3, .ref (ad G 56)), (4, .int v4)] [] μ) {μ : Mem} (h : w_law_c11 xs L k23 v4 μ) : J G X Q 7 N1 N2 1018 [(0, .ref b), (1, .ref (ad G 0)), (2, .ref (ad G 31)), (3, .ref (ad G 56)), (4, .int v4)] [] μ := by
  unfold w_law_c11 at h
  refine j_aload_n C 1 dL_law_1018 rfl ?_
  refine j_cVI (n := 0) (rest := []) (k1 := N1) (k2 := N2) C 0 (c_X7_find (xl X) G C.2.2.1 _ μ) h gL_law_X7_find rfl ⟨rfl, rfl⟩ (by decide +kernel) ⟨by decide, by decide⟩ ⟨by have := hN.1; show _ ≤ 601024; omega, by have := hN.2; show _ ≤ 7293034; omega⟩ sh_0 (by decide) cl_X7 rfl rfl (Nat.le_of_ble_eq_true rfl) dL_law_1019 rfl rfl (fun r197 μ196 h => ?_)
  refine j_aload_n C 2 dL_law_1022 rfl ?_
  refine j_cVI (n := 0) (rest := [.int r197]) (k1 := N1) (k2 := N2) C 31 (c_X8_find (xl X) G C.2.2.1 _ μ196) h gL_law_X8_find rfl ⟨rfl, rfl⟩ (by decide +kernel) ⟨by decide, by decide⟩ ⟨by have := hN.1; show _ ≤ 601024; omega, by have := hN.2; show _ ≤ 7293034; omega⟩ sh_31 (by decide) cl_X8 rfl rfl (Nat.le_of_ble_eq_true rfl) dL_law_1023 rfl rfl (fun r199 μ198 h => ?_)
  refine j_icmp_eq C 1765 dL_law_1026 (by decide) (fun c200 => ?_) (fun c200 => ?_)
  · replace h := h.1 c200
    refine j_widen (k1 := N1 + 2) (k2 := N2 + 12) (by omega) (by omega) ?_
    exact hk _ h
  · replace h := h.2 c200
    refine j_iconst (v := 0) C dL_law_1029 (by decide) ?_
    exact h.elim
set_option maxHeartbeats 4000000 in
set_option maxRecDepth 100000 in
theorem law_c12_j {G : Gt} {X : Cxt} {Q : State → Prop} {b L N1 N2 : Nat} {xs : Nat → Int32} (C : Cx G X cL_law RL wsL_law 7 room_1) (hS : Scr G X b L xs) (hs : (xl X).stackTraces = false) (hN : N1 + 2 ≤ 601024 ∧ N2 + 12 ≤ 7293034) {v4 : Int32} {k23 : Mem → Prop} (hk : ∀ μ : Mem, k23 μ → J G X Q 7 (N1 + 2) (N2 + 12) 1765 [(0, .ref b), (1, .ref (ad G 0)), (2, .ref (ad G 31)), (3, .ref (ad G 56)), (4, .int v4)] [] μ) {μ : Mem} (h : w_law_c12 xs L k23 v4 μ) : J G X Q 7 N1 N2 1031 [(0, .ref b), (1, .ref (ad G 0)), (2, .ref (ad G 31)), (3, .ref (ad G 56)), (4, .int v4)] [] μ := by
  unfold w_law_c12 at h
  refine j_aload_n C 1 dL_law_1031 rfl ?_
  refine j_cVI (n := 0) (rest := []) (k1 := N1) (k2 := N2) C 0 (c_X7_reads (xl X) G C.2.2.1 _ μ) h gL_law_X7_reads rfl ⟨rfl, rfl⟩ (by decide +kernel) ⟨by decide, by decide⟩ ⟨by have := hN.1; show _ ≤ 601024; omega, by have := hN.2; show _ ≤ 7293034; omega⟩ sh_0 (by decide) cl_X7 rfl rfl (Nat.le_of_ble_eq_true rfl) dL_law_1032 rfl rfl (fun r202 μ201 h => ?_)
  refine j_aload_n C 2 dL_law_1035 rfl ?_
  refine j_cVI (n := 0) (rest := [.int r202]) (k1 := N1) (k2 := N2) C 31 (c_X8_reads (xl X) G C.2.2.1 _ μ201) h gL_law_X8_reads rfl ⟨rfl, rfl⟩ (by decide +kernel) ⟨by decide, by decide⟩ ⟨by have := hN.1; show _ ≤ 601024; omega, by have := hN.2; show _ ≤ 7293034; omega⟩ sh_31 (by decide) cl_X8 rfl rfl (Nat.le_of_ble_eq_true rfl) dL_law_1036 rfl rfl (fun r204 μ203 h => ?_)
  refine j_icmp_eq C 1765 dL_law_1039 (by decide) (fun c205 => ?_) (fun c205 => ?_)
  · replace h := h.1 c205
    refine j_widen (k1 := N1 + 2) (k2 := N2 + 12) (by omega) (by omega) ?_
    exact hk _ h
  · replace h := h.2 c205
    refine j_iconst (v := 0) C dL_law_1042 (by decide) ?_
    exact h.elim
set_option maxHeartbeats 4000000 in
set_option maxRecDepth 100000 in
theorem law_c13_j {G : Gt} {X : Cxt} {Q : State → Prop} {b L N1 N2 : Nat} {xs : Nat → Int32} (C : Cx G X cL_law RL wsL_law 7 room_1) (hS : Scr G X b L xs) (hs : (xl X).stackTraces = false) (hN : N1 + 2 ≤ 601024 ∧ N2 + 12 ≤ 7293034) {v4 : Int32} {k23 : Mem → Prop} (hk : ∀ μ : Mem, k23 μ → J G X Q 7 (N1 + 2) (N2 + 12) 1765 [(0, .ref b), (1, .ref (ad G 0)), (2, .ref (ad G 31)), (3, .ref (ad G 56)), (4, .int v4)] [] μ) {μ : Mem} (h : w_law_c13 xs L k23 v4 μ) : J G X Q 7 N1 N2 1044 [(0, .ref b), (1, .ref (ad G 0)), (2, .ref (ad G 31)), (3, .ref (ad G 56)), (4, .int v4)] [] μ := by
  unfold w_law_c13 at h
  refine j_aload_n C 1 dL_law_1044 rfl ?_
  refine j_aload_n C 0 dL_law_1045 rfl ?_
  refine j_iload C 4 dL_law_1046 rfl ?_
  refine j_iconst (v := 1) C dL_law_1048 (by decide) ?_
  refine j_iadd C dL_law_1049 ?_
  have b206 := h.1
  replace h := h.2
  refine j_sld C hS b206 dL_law_1050 ?_
  refine j_aload_n C 3 dL_law_1051 rfl ?_
  refine j_cWI (n := 3) (rest := []) (k1 := (N1 + 1)) (k2 := (N2 + 6)) C (c_L_groupOf (xl X) G C.2.2.1 hs _ (xs (ix (v4 + (1 : Int32)))) μ) h gL_law_L_groupOf rfl ⟨rfl, rfl⟩ (by decide +kernel) ⟨by decide, by decide⟩ ⟨by have := hN.1; show _ ≤ 601024; omega, by have := hN.2; show _ ≤ 7293034; omega⟩ rfl rfl (Nat.le_of_ble_eq_true rfl) dL_law_1052 rfl rfl (fun r208 μ207 h => ?_)
  refine j_istore (lv' := [(0, .ref b), (1, .ref (ad G 0)), (2, .ref (ad G 31)), (3, .ref (ad G 56)), (4, .int v4), (5, .int r208)]) C dL_law_1055 (by decide) rfl rfl ?_
  refine j_aload_n C 2 dL_law_1057 rfl ?_
  refine j_aload_n C 0 dL_law_1058 rfl ?_
  refine j_iload C 4 dL_law_1059 rfl ?_
  refine j_iconst (v := 1) C dL_law_1061 (by decide) ?_
  refine j_iadd C dL_law_1062 ?_
  have b209 := h.1
  replace h := h.2
  refine j_sld C hS b209 dL_law_1063 ?_
  refine j_cVI (n := 1) (rest := []) (k1 := (N1 + 1)) (k2 := (N2 + 6)) C 31 (c_X8_groupOf (xl X) G C.2.2.1 _ (xs (ix (v4 + (1 : Int32)))) μ207) h gL_law_X8_groupOf rfl ⟨rfl, rfl⟩ (by decide +kernel) ⟨by decide, by decide⟩ ⟨by have := hN.1; show _ ≤ 601024; omega, by have := hN.2; show _ ≤ 7293034; omega⟩ sh_31 (by decide) cl_X8 rfl rfl (Nat.le_of_ble_eq_true rfl) dL_law_1064 rfl rfl (fun r211 μ210 h => ?_)
  refine j_istore (lv' := [(0, .ref b), (1, .ref (ad G 0)), (2, .ref (ad G 31)), (3, .ref (ad G 56)), (4, .int v4), (5, .int r208), (6, .int r211)]) C dL_law_1067 (by decide) rfl rfl ?_
  refine j_aload_n C 2 dL_law_1069 rfl ?_
  refine j_cVI (n := 0) (rest := []) (k1 := (N1 + 1)) (k2 := (N2 + 6)) C 31 (c_X8_thrown (xl X) G C.2.2.1 _ μ210) h gL_law_X8_thrown rfl ⟨rfl, rfl⟩ (by decide +kernel) ⟨by decide, by decide⟩ ⟨by have := hN.1; show _ ≤ 601024; omega, by have := hN.2; show _ ≤ 7293034; omega⟩ sh_31 (by decide) cl_X8 rfl rfl (Nat.le_of_ble_eq_true rfl) dL_law_1070 rfl rfl (fun r213 μ212 h => ?_)
  refine j_iload C 5 dL_law_1073 rfl ?_
  refine j_icmp_eq C 1080 dL_law_1075 (by decide) (fun c216 => ?_) (fun c216 => ?_)
  · replace h := h.1 c216
    refine j_iload C 5 dL_law_1080 rfl ?_
    refine j_if_ne C 1097 dL_law_1082 (by decide) (fun c215 => ?_) (fun c215 => ?_)
    · replace h := h.1 c215
      refine j_goto C 1765 dL_law_1097 (by decide) ?_
      refine j_forget [0, 1, 2, 3, 4] rfl ?_
      refine j_widen (k1 := N1 + 2) (k2 := N2 + 12) (by omega) (by omega) ?_
      exact hk _ h
    · replace h := h.2 c215
      refine j_aload_n C 3 dL_law_1085 rfl ?_
      refine j_iconst (v := 0) C dL_law_1086 (by decide) ?_
      refine j_lald C 56 sh_56 (by decide) in01 dL_law_1087 ?_
      refine j_iload C 6 dL_law_1088 rfl ?_
      refine j_i2l C dL_law_1090 ?_
      refine j_lcmp C dL_law_1091 ?_
      refine j_if_eq C 1097 dL_law_1092 (by decide) (fun c214 => ?_) (fun c214 => ?_)
      · replace h := h.1 c214
        refine j_goto C 1765 dL_law_1097 (by decide) ?_
        refine j_forget [0, 1, 2, 3, 4] rfl ?_
        refine j_widen (k1 := N1 + 2) (k2 := N2 + 12) (by omega) (by omega) ?_
        exact hk _ h
      · replace h := h.2 c214
        refine j_iconst (v := 0) C dL_law_1095 (by decide) ?_
        exact h.elim
  · replace h := h.2 c216
    refine j_iconst (v := 0) C dL_law_1078 (by decide) ?_
    exact h.elim
set_option maxHeartbeats 4000000 in
set_option maxRecDepth 100000 in
theorem law_c14_j {G : Gt} {X : Cxt} {Q : State → Prop} {b L N1 N2 : Nat} {xs : Nat → Int32} (C : Cx G X cL_law RL wsL_law 7 room_1) (hS : Scr G X b L xs) (hs : (xl X).stackTraces = false) (hN : N1 + 2 ≤ 601024 ∧ N2 + 12 ≤ 7293034) {v4 : Int32} {k23 : Mem → Prop} (hk : ∀ μ : Mem, k23 μ → J G X Q 7 (N1 + 2) (N2 + 12) 1765 [(0, .ref b), (1, .ref (ad G 0)), (2, .ref (ad G 31)), (3, .ref (ad G 56)), (4, .int v4)] [] μ) {μ : Mem} (h : w_law_c14 xs L k23 v4 μ) : J G X Q 7 N1 N2 1100 [(0, .ref b), (1, .ref (ad G 0)), (2, .ref (ad G 31)), (3, .ref (ad G 56)), (4, .int v4)] [] μ := by
  unfold w_law_c14 at h
  refine j_aload_n C 1 dL_law_1100 rfl ?_
  refine j_aload_n C 0 dL_law_1101 rfl ?_
  refine j_iload C 4 dL_law_1102 rfl ?_
  refine j_iconst (v := 1) C dL_law_1104 (by decide) ?_
  refine j_iadd C dL_law_1105 ?_
  have b217 := h.1
  replace h := h.2
  refine j_sld C hS b217 dL_law_1106 ?_
  refine j_aload_n C 0 dL_law_1107 rfl ?_
  refine j_iload C 4 dL_law_1108 rfl ?_
  refine j_iconst (v := 2) C dL_law_1110 (by decide) ?_
  refine j_iadd C dL_law_1111 ?_
  have b218 := h.1
  replace h := h.2
  refine j_sld C hS b218 dL_law_1112 ?_
  refine j_aload_n C 3 dL_law_1113 rfl ?_
  refine j_cWI (n := 4) (rest := []) (k1 := (N1 + 2)) (k2 := (N2 + 12)) C (c_L_member (xl X) G C.2.2.1 hs _ (xs (ix (v4 + (1 : Int32)))) (xs (ix (v4 + (2 : Int32)))) μ) h gL_law_L_member rfl ⟨rfl, rfl⟩ (by decide +kernel) ⟨by decide, by decide⟩ ⟨by have := hN.1; show _ ≤ 601024; omega, by have := hN.2; show _ ≤ 7293034; omega⟩ rfl rfl (Nat.le_of_ble_eq_true rfl) dL_law_1114 rfl rfl (fun r220 μ219 h => ?_)
  refine j_istore (lv' := [(0, .ref b), (1, .ref (ad G 0)), (2, .ref (ad G 31)), (3, .ref (ad G 56)), (4, .int v4), (5, .int r220)]) C dL_law_1117 (by decide) rfl rfl ?_
  refine j_aload_n C 2 dL_law_1119 rfl ?_
  refine j_aload_n C 0 dL_law_1120 rfl ?_
  refine j_iload C 4 dL_law_1121 rfl ?_
  refine j_iconst (v := 1) C dL_law_1123 (by decide) ?_
  refine j_iadd C dL_law_1124 ?_
  have b221 := h.1
  replace h := h.2
  refine j_sld C hS b221 dL_law_1125 ?_
  refine j_aload_n C 0 dL_law_1126 rfl ?_
  refine j_iload C 4 dL_law_1127 rfl ?_
  refine j_iconst (v := 2) C dL_law_1129 (by decide) ?_
  refine j_iadd C dL_law_1130 ?_
  have b222 := h.1
  replace h := h.2
  refine j_sld C hS b222 dL_law_1131 ?_
  refine j_cVI (n := 2) (rest := []) (k1 := (N1 + 2)) (k2 := (N2 + 12)) C 31 (c_X8_member (xl X) G C.2.2.1 _ (xs (ix (v4 + (1 : Int32)))) (xs (ix (v4 + (2 : Int32)))) μ219) h gL_law_X8_member rfl ⟨rfl, rfl⟩ (by decide +kernel) ⟨by decide, by decide⟩ ⟨by have := hN.1; show _ ≤ 601024; omega, by have := hN.2; show _ ≤ 7293034; omega⟩ sh_31 (by decide) cl_X8 rfl rfl (Nat.le_of_ble_eq_true rfl) dL_law_1132 rfl rfl (fun r224 μ223 h => ?_)
  refine j_istore (lv' := [(0, .ref b), (1, .ref (ad G 0)), (2, .ref (ad G 31)), (3, .ref (ad G 56)), (4, .int v4), (5, .int r220), (6, .int r224)]) C dL_law_1135 (by decide) rfl rfl ?_
  refine j_aload_n C 2 dL_law_1137 rfl ?_
  refine j_cVI (n := 0) (rest := []) (k1 := (N1 + 2)) (k2 := (N2 + 12)) C 31 (c_X8_thrown (xl X) G C.2.2.1 _ μ223) h gL_law_X8_thrown rfl ⟨rfl, rfl⟩ (by decide +kernel) ⟨by decide, by decide⟩ ⟨by have := hN.1; show _ ≤ 601024; omega, by have := hN.2; show _ ≤ 7293034; omega⟩ sh_31 (by decide) cl_X8 rfl rfl (Nat.le_of_ble_eq_true rfl) dL_law_1138 rfl rfl (fun r226 μ225 h => ?_)
  refine j_iload C 5 dL_law_1141 rfl ?_
  refine j_icmp_eq C 1148 dL_law_1143 (by decide) (fun c229 => ?_) (fun c229 => ?_)
  · replace h := h.1 c229
    refine j_iload C 5 dL_law_1148 rfl ?_
    refine j_if_ne C 1165 dL_law_1150 (by decide) (fun c228 => ?_) (fun c228 => ?_)
    · replace h := h.1 c228
      refine j_goto C 1765 dL_law_1165 (by decide) ?_
      refine j_forget [0, 1, 2, 3, 4] rfl ?_
      exact hk _ h
    · replace h := h.2 c228
      refine j_aload_n C 3 dL_law_1153 rfl ?_
      refine j_iconst (v := 0) C dL_law_1154 (by decide) ?_
      refine j_lald C 56 sh_56 (by decide) in01 dL_law_1155 ?_
      refine j_iload C 6 dL_law_1156 rfl ?_
      refine j_i2l C dL_law_1158 ?_
      refine j_lcmp C dL_law_1159 ?_
      refine j_if_eq C 1165 dL_law_1160 (by decide) (fun c227 => ?_) (fun c227 => ?_)
      · replace h := h.1 c227
        refine j_goto C 1765 dL_law_1165 (by decide) ?_
        refine j_forget [0, 1, 2, 3, 4] rfl ?_
        exact hk _ h
      · replace h := h.2 c227
        refine j_iconst (v := 0) C dL_law_1163 (by decide) ?_
        exact h.elim
  · replace h := h.2 c229
    refine j_iconst (v := 0) C dL_law_1146 (by decide) ?_
    exact h.elim
set_option maxHeartbeats 4000000 in
set_option maxRecDepth 100000 in
theorem law_c15_j {G : Gt} {X : Cxt} {Q : State → Prop} {b L N1 N2 : Nat} {xs : Nat → Int32} (C : Cx G X cL_law RL wsL_law 7 room_1) (hS : Scr G X b L xs) (hs : (xl X).stackTraces = false) (hN : N1 + 2 ≤ 601024 ∧ N2 + 12 ≤ 7293034) {v4 : Int32} {k23 : Mem → Prop} (hk : ∀ μ : Mem, k23 μ → J G X Q 7 (N1 + 2) (N2 + 12) 1765 [(0, .ref b), (1, .ref (ad G 0)), (2, .ref (ad G 31)), (3, .ref (ad G 56)), (4, .int v4)] [] μ) {μ : Mem} (h : w_law_c15 xs L k23 v4 μ) : J G X Q 7 N1 N2 1168 [(0, .ref b), (1, .ref (ad G 0)), (2, .ref (ad G 31)), (3, .ref (ad G 56)), (4, .int v4)] [] μ := by
  unfold w_law_c15 at h
  refine j_aload_n C 1 dL_law_1168 rfl ?_
  refine j_aload_n C 0 dL_law_1169 rfl ?_
  refine j_iload C 4 dL_law_1170 rfl ?_
  refine j_iconst (v := 1) C dL_law_1172 (by decide) ?_
  refine j_iadd C dL_law_1173 ?_
  have b230 := h.1
  replace h := h.2
  refine j_sld C hS b230 dL_law_1174 ?_
  refine j_aload_n C 0 dL_law_1175 rfl ?_
  refine j_iload C 4 dL_law_1176 rfl ?_
  refine j_iconst (v := 2) C dL_law_1178 (by decide) ?_
  refine j_iadd C dL_law_1179 ?_
  have b231 := h.1
  replace h := h.2
  refine j_sld C hS b231 dL_law_1180 ?_
  refine j_aload_n C 3 dL_law_1181 rfl ?_
  refine j_cWI (n := 4) (rest := []) (k1 := (N1 + 2)) (k2 := (N2 + 12)) C (c_L_near (xl X) G C.2.2.1 hs _ (xs (ix (v4 + (1 : Int32)))) (xs (ix (v4 + (2 : Int32)))) μ) h gL_law_L_near rfl ⟨rfl, rfl⟩ (by decide +kernel) ⟨by decide, by decide⟩ ⟨by have := hN.1; show _ ≤ 601024; omega, by have := hN.2; show _ ≤ 7293034; omega⟩ rfl rfl (Nat.le_of_ble_eq_true rfl) dL_law_1182 rfl rfl (fun r233 μ232 h => ?_)
  refine j_istore (lv' := [(0, .ref b), (1, .ref (ad G 0)), (2, .ref (ad G 31)), (3, .ref (ad G 56)), (4, .int v4), (5, .int r233)]) C dL_law_1185 (by decide) rfl rfl ?_
  refine j_aload_n C 2 dL_law_1187 rfl ?_
  refine j_aload_n C 0 dL_law_1188 rfl ?_
  refine j_iload C 4 dL_law_1189 rfl ?_
  refine j_iconst (v := 1) C dL_law_1191 (by decide) ?_
  refine j_iadd C dL_law_1192 ?_
  have b234 := h.1
  replace h := h.2
  refine j_sld C hS b234 dL_law_1193 ?_
  refine j_aload_n C 0 dL_law_1194 rfl ?_
  refine j_iload C 4 dL_law_1195 rfl ?_
  refine j_iconst (v := 2) C dL_law_1197 (by decide) ?_
  refine j_iadd C dL_law_1198 ?_
  have b235 := h.1
  replace h := h.2
  refine j_sld C hS b235 dL_law_1199 ?_
  refine j_cVI (n := 2) (rest := []) (k1 := (N1 + 2)) (k2 := (N2 + 12)) C 31 (c_X8_near (xl X) G C.2.2.1 _ (xs (ix (v4 + (1 : Int32)))) (xs (ix (v4 + (2 : Int32)))) μ232) h gL_law_X8_near rfl ⟨rfl, rfl⟩ (by decide +kernel) ⟨by decide, by decide⟩ ⟨by have := hN.1; show _ ≤ 601024; omega, by have := hN.2; show _ ≤ 7293034; omega⟩ sh_31 (by decide) cl_X8 rfl rfl (Nat.le_of_ble_eq_true rfl) dL_law_1200 rfl rfl (fun r237 μ236 h => ?_)
  refine j_istore (lv' := [(0, .ref b), (1, .ref (ad G 0)), (2, .ref (ad G 31)), (3, .ref (ad G 56)), (4, .int v4), (5, .int r233), (6, .int r237)]) C dL_law_1203 (by decide) rfl rfl ?_
  refine j_aload_n C 2 dL_law_1205 rfl ?_
  refine j_cVI (n := 0) (rest := []) (k1 := (N1 + 2)) (k2 := (N2 + 12)) C 31 (c_X8_thrown (xl X) G C.2.2.1 _ μ236) h gL_law_X8_thrown rfl ⟨rfl, rfl⟩ (by decide +kernel) ⟨by decide, by decide⟩ ⟨by have := hN.1; show _ ≤ 601024; omega, by have := hN.2; show _ ≤ 7293034; omega⟩ sh_31 (by decide) cl_X8 rfl rfl (Nat.le_of_ble_eq_true rfl) dL_law_1206 rfl rfl (fun r239 μ238 h => ?_)
  refine j_iload C 5 dL_law_1209 rfl ?_
  refine j_icmp_eq C 1216 dL_law_1211 (by decide) (fun c242 => ?_) (fun c242 => ?_)
  · replace h := h.1 c242
    refine j_iload C 5 dL_law_1216 rfl ?_
    refine j_if_ne C 1233 dL_law_1218 (by decide) (fun c241 => ?_) (fun c241 => ?_)
    · replace h := h.1 c241
      refine j_goto C 1765 dL_law_1233 (by decide) ?_
      refine j_forget [0, 1, 2, 3, 4] rfl ?_
      exact hk _ h
    · replace h := h.2 c241
      refine j_aload_n C 3 dL_law_1221 rfl ?_
      refine j_iconst (v := 0) C dL_law_1222 (by decide) ?_
      refine j_lald C 56 sh_56 (by decide) in01 dL_law_1223 ?_
      refine j_iload C 6 dL_law_1224 rfl ?_
      refine j_i2l C dL_law_1226 ?_
      refine j_lcmp C dL_law_1227 ?_
      refine j_if_eq C 1233 dL_law_1228 (by decide) (fun c240 => ?_) (fun c240 => ?_)
      · replace h := h.1 c240
        refine j_goto C 1765 dL_law_1233 (by decide) ?_
        refine j_forget [0, 1, 2, 3, 4] rfl ?_
        exact hk _ h
      · replace h := h.2 c240
        refine j_iconst (v := 0) C dL_law_1231 (by decide) ?_
        exact h.elim
  · replace h := h.2 c242
    refine j_iconst (v := 0) C dL_law_1214 (by decide) ?_
    exact h.elim
set_option maxHeartbeats 4000000 in
set_option maxRecDepth 100000 in
theorem law_c16_j {G : Gt} {X : Cxt} {Q : State → Prop} {b L N1 N2 : Nat} {xs : Nat → Int32} (C : Cx G X cL_law RL wsL_law 7 room_1) (hS : Scr G X b L xs) (hs : (xl X).stackTraces = false) (hN : N1 + 2 ≤ 601024 ∧ N2 + 12 ≤ 7293034) {v4 : Int32} {k23 : Mem → Prop} (hk : ∀ μ : Mem, k23 μ → J G X Q 7 (N1 + 2) (N2 + 12) 1765 [(0, .ref b), (1, .ref (ad G 0)), (2, .ref (ad G 31)), (3, .ref (ad G 56)), (4, .int v4)] [] μ) {μ : Mem} (h : w_law_c16 xs L k23 v4 μ) : J G X Q 7 N1 N2 1236 [(0, .ref b), (1, .ref (ad G 0)), (2, .ref (ad G 31)), (3, .ref (ad G 56)), (4, .int v4)] [] μ := by
  unfold w_law_c16 at h
  refine j_aload_n C 1 dL_law_1236 rfl ?_
  refine j_aload_n C 0 dL_law_1237 rfl ?_
  refine j_iload C 4 dL_law_1238 rfl ?_
  refine j_iconst (v := 1) C dL_law_1240 (by decide) ?_
  refine j_iadd C dL_law_1241 ?_
  have b243 := h.1
  replace h := h.2
  refine j_sld C hS b243 dL_law_1242 ?_
  refine j_aload_n C 0 dL_law_1243 rfl ?_
  refine j_iload C 4 dL_law_1244 rfl ?_
  refine j_iconst (v := 2) C dL_law_1246 (by decide) ?_
  refine j_iadd C dL_law_1247 ?_
  have b244 := h.1
  replace h := h.2
  refine j_sld C hS b244 dL_law_1248 ?_
  refine j_aload_n C 3 dL_law_1249 rfl ?_
  refine j_cWI (n := 4) (rest := []) (k1 := (N1 + 2)) (k2 := (N2 + 12)) C (c_L_nearest (xl X) G C.2.2.1 hs _ (xs (ix (v4 + (1 : Int32)))) (xs (ix (v4 + (2 : Int32)))) μ) h gL_law_L_nearest rfl ⟨rfl, rfl⟩ (by decide +kernel) ⟨by decide, by decide⟩ ⟨by have := hN.1; show _ ≤ 601024; omega, by have := hN.2; show _ ≤ 7293034; omega⟩ rfl rfl (Nat.le_of_ble_eq_true rfl) dL_law_1250 rfl rfl (fun r246 μ245 h => ?_)
  refine j_istore (lv' := [(0, .ref b), (1, .ref (ad G 0)), (2, .ref (ad G 31)), (3, .ref (ad G 56)), (4, .int v4), (5, .int r246)]) C dL_law_1253 (by decide) rfl rfl ?_
  refine j_aload_n C 2 dL_law_1255 rfl ?_
  refine j_aload_n C 0 dL_law_1256 rfl ?_
  refine j_iload C 4 dL_law_1257 rfl ?_
  refine j_iconst (v := 1) C dL_law_1259 (by decide) ?_
  refine j_iadd C dL_law_1260 ?_
  have b247 := h.1
  replace h := h.2
  refine j_sld C hS b247 dL_law_1261 ?_
  refine j_aload_n C 0 dL_law_1262 rfl ?_
  refine j_iload C 4 dL_law_1263 rfl ?_
  refine j_iconst (v := 2) C dL_law_1265 (by decide) ?_
  refine j_iadd C dL_law_1266 ?_
  have b248 := h.1
  replace h := h.2
  refine j_sld C hS b248 dL_law_1267 ?_
  refine j_cVI (n := 2) (rest := []) (k1 := (N1 + 2)) (k2 := (N2 + 12)) C 31 (c_X8_nearest (xl X) G C.2.2.1 _ (xs (ix (v4 + (1 : Int32)))) (xs (ix (v4 + (2 : Int32)))) μ245) h gL_law_X8_nearest rfl ⟨rfl, rfl⟩ (by decide +kernel) ⟨by decide, by decide⟩ ⟨by have := hN.1; show _ ≤ 601024; omega, by have := hN.2; show _ ≤ 7293034; omega⟩ sh_31 (by decide) cl_X8 rfl rfl (Nat.le_of_ble_eq_true rfl) dL_law_1268 rfl rfl (fun r250 μ249 h => ?_)
  refine j_istore (lv' := [(0, .ref b), (1, .ref (ad G 0)), (2, .ref (ad G 31)), (3, .ref (ad G 56)), (4, .int v4), (5, .int r246), (6, .int r250)]) C dL_law_1271 (by decide) rfl rfl ?_
  refine j_aload_n C 2 dL_law_1273 rfl ?_
  refine j_cVI (n := 0) (rest := []) (k1 := (N1 + 2)) (k2 := (N2 + 12)) C 31 (c_X8_thrown (xl X) G C.2.2.1 _ μ249) h gL_law_X8_thrown rfl ⟨rfl, rfl⟩ (by decide +kernel) ⟨by decide, by decide⟩ ⟨by have := hN.1; show _ ≤ 601024; omega, by have := hN.2; show _ ≤ 7293034; omega⟩ sh_31 (by decide) cl_X8 rfl rfl (Nat.le_of_ble_eq_true rfl) dL_law_1274 rfl rfl (fun r252 μ251 h => ?_)
  refine j_iload C 5 dL_law_1277 rfl ?_
  refine j_icmp_eq C 1284 dL_law_1279 (by decide) (fun c255 => ?_) (fun c255 => ?_)
  · replace h := h.1 c255
    refine j_iload C 5 dL_law_1284 rfl ?_
    refine j_if_ne C 1301 dL_law_1286 (by decide) (fun c254 => ?_) (fun c254 => ?_)
    · replace h := h.1 c254
      refine j_goto C 1765 dL_law_1301 (by decide) ?_
      refine j_forget [0, 1, 2, 3, 4] rfl ?_
      exact hk _ h
    · replace h := h.2 c254
      refine j_aload_n C 3 dL_law_1289 rfl ?_
      refine j_iconst (v := 0) C dL_law_1290 (by decide) ?_
      refine j_lald C 56 sh_56 (by decide) in01 dL_law_1291 ?_
      refine j_iload C 6 dL_law_1292 rfl ?_
      refine j_i2l C dL_law_1294 ?_
      refine j_lcmp C dL_law_1295 ?_
      refine j_if_eq C 1301 dL_law_1296 (by decide) (fun c253 => ?_) (fun c253 => ?_)
      · replace h := h.1 c253
        refine j_goto C 1765 dL_law_1301 (by decide) ?_
        refine j_forget [0, 1, 2, 3, 4] rfl ?_
        exact hk _ h
      · replace h := h.2 c253
        refine j_iconst (v := 0) C dL_law_1299 (by decide) ?_
        exact h.elim
  · replace h := h.2 c255
    refine j_iconst (v := 0) C dL_law_1282 (by decide) ?_
    exact h.elim
set_option maxHeartbeats 4000000 in
set_option maxRecDepth 100000 in
theorem law_c17_j {G : Gt} {X : Cxt} {Q : State → Prop} {b L N1 N2 : Nat} {xs : Nat → Int32} (C : Cx G X cL_law RL wsL_law 7 room_1) (hS : Scr G X b L xs) (hs : (xl X).stackTraces = false) (hN : N1 + 2 ≤ 601024 ∧ N2 + 12 ≤ 7293034) {v4 : Int32} {k23 : Mem → Prop} (hk : ∀ μ : Mem, k23 μ → J G X Q 7 (N1 + 2) (N2 + 12) 1765 [(0, .ref b), (1, .ref (ad G 0)), (2, .ref (ad G 31)), (3, .ref (ad G 56)), (4, .int v4)] [] μ) {μ : Mem} (h : w_law_c17 xs L k23 v4 μ) : J G X Q 7 N1 N2 1304 [(0, .ref b), (1, .ref (ad G 0)), (2, .ref (ad G 31)), (3, .ref (ad G 56)), (4, .int v4)] [] μ := by
  unfold w_law_c17 at h
  refine j_aload_n C 1 dL_law_1304 rfl ?_
  refine j_aload_n C 0 dL_law_1305 rfl ?_
  refine j_iload C 4 dL_law_1306 rfl ?_
  refine j_iconst (v := 1) C dL_law_1308 (by decide) ?_
  refine j_iadd C dL_law_1309 ?_
  have b256 := h.1
  replace h := h.2
  refine j_sld C hS b256 dL_law_1310 ?_
  refine j_aload_n C 0 dL_law_1311 rfl ?_
  refine j_iload C 4 dL_law_1312 rfl ?_
  refine j_iconst (v := 2) C dL_law_1314 (by decide) ?_
  refine j_iadd C dL_law_1315 ?_
  have b257 := h.1
  replace h := h.2
  refine j_sld C hS b257 dL_law_1316 ?_
  refine j_aload_n C 3 dL_law_1317 rfl ?_
  refine j_cWI (n := 4) (rest := []) (k1 := (N1 + 2)) (k2 := (N2 + 12)) C (c_L_differ (xl X) G C.2.2.1 hs _ (xs (ix (v4 + (1 : Int32)))) (xs (ix (v4 + (2 : Int32)))) μ) h gL_law_L_differ rfl ⟨rfl, rfl⟩ (by decide +kernel) ⟨by decide, by decide⟩ ⟨by have := hN.1; show _ ≤ 601024; omega, by have := hN.2; show _ ≤ 7293034; omega⟩ rfl rfl (Nat.le_of_ble_eq_true rfl) dL_law_1318 rfl rfl (fun r259 μ258 h => ?_)
  refine j_istore (lv' := [(0, .ref b), (1, .ref (ad G 0)), (2, .ref (ad G 31)), (3, .ref (ad G 56)), (4, .int v4), (5, .int r259)]) C dL_law_1321 (by decide) rfl rfl ?_
  refine j_aload_n C 2 dL_law_1323 rfl ?_
  refine j_aload_n C 0 dL_law_1324 rfl ?_
  refine j_iload C 4 dL_law_1325 rfl ?_
  refine j_iconst (v := 1) C dL_law_1327 (by decide) ?_
  refine j_iadd C dL_law_1328 ?_
  have b260 := h.1
  replace h := h.2
  refine j_sld C hS b260 dL_law_1329 ?_
  refine j_aload_n C 0 dL_law_1330 rfl ?_
  refine j_iload C 4 dL_law_1331 rfl ?_
  refine j_iconst (v := 2) C dL_law_1333 (by decide) ?_
  refine j_iadd C dL_law_1334 ?_
  have b261 := h.1
  replace h := h.2
  refine j_sld C hS b261 dL_law_1335 ?_
  refine j_cVI (n := 2) (rest := []) (k1 := (N1 + 2)) (k2 := (N2 + 12)) C 31 (c_X8_differ (xl X) G C.2.2.1 _ (xs (ix (v4 + (1 : Int32)))) (xs (ix (v4 + (2 : Int32)))) μ258) h gL_law_X8_differ rfl ⟨rfl, rfl⟩ (by decide +kernel) ⟨by decide, by decide⟩ ⟨by have := hN.1; show _ ≤ 601024; omega, by have := hN.2; show _ ≤ 7293034; omega⟩ sh_31 (by decide) cl_X8 rfl rfl (Nat.le_of_ble_eq_true rfl) dL_law_1336 rfl rfl (fun r263 μ262 h => ?_)
  refine j_istore (lv' := [(0, .ref b), (1, .ref (ad G 0)), (2, .ref (ad G 31)), (3, .ref (ad G 56)), (4, .int v4), (5, .int r259), (6, .int r263)]) C dL_law_1339 (by decide) rfl rfl ?_
  refine j_aload_n C 2 dL_law_1341 rfl ?_
  refine j_cVI (n := 0) (rest := []) (k1 := (N1 + 2)) (k2 := (N2 + 12)) C 31 (c_X8_thrown (xl X) G C.2.2.1 _ μ262) h gL_law_X8_thrown rfl ⟨rfl, rfl⟩ (by decide +kernel) ⟨by decide, by decide⟩ ⟨by have := hN.1; show _ ≤ 601024; omega, by have := hN.2; show _ ≤ 7293034; omega⟩ sh_31 (by decide) cl_X8 rfl rfl (Nat.le_of_ble_eq_true rfl) dL_law_1342 rfl rfl (fun r265 μ264 h => ?_)
  refine j_iload C 5 dL_law_1345 rfl ?_
  refine j_icmp_eq C 1352 dL_law_1347 (by decide) (fun c268 => ?_) (fun c268 => ?_)
  · replace h := h.1 c268
    refine j_iload C 5 dL_law_1352 rfl ?_
    refine j_if_ne C 1369 dL_law_1354 (by decide) (fun c267 => ?_) (fun c267 => ?_)
    · replace h := h.1 c267
      refine j_goto C 1765 dL_law_1369 (by decide) ?_
      refine j_forget [0, 1, 2, 3, 4] rfl ?_
      exact hk _ h
    · replace h := h.2 c267
      refine j_aload_n C 3 dL_law_1357 rfl ?_
      refine j_iconst (v := 0) C dL_law_1358 (by decide) ?_
      refine j_lald C 56 sh_56 (by decide) in01 dL_law_1359 ?_
      refine j_iload C 6 dL_law_1360 rfl ?_
      refine j_i2l C dL_law_1362 ?_
      refine j_lcmp C dL_law_1363 ?_
      refine j_if_eq C 1369 dL_law_1364 (by decide) (fun c266 => ?_) (fun c266 => ?_)
      · replace h := h.1 c266
        refine j_goto C 1765 dL_law_1369 (by decide) ?_
        refine j_forget [0, 1, 2, 3, 4] rfl ?_
        exact hk _ h
      · replace h := h.2 c266
        refine j_iconst (v := 0) C dL_law_1367 (by decide) ?_
        exact h.elim
  · replace h := h.2 c268
    refine j_iconst (v := 0) C dL_law_1350 (by decide) ?_
    exact h.elim
set_option maxHeartbeats 4000000 in
set_option maxRecDepth 100000 in
theorem law_c18_j {G : Gt} {X : Cxt} {Q : State → Prop} {b L N1 N2 : Nat} {xs : Nat → Int32} (C : Cx G X cL_law RL wsL_law 7 room_1) (hS : Scr G X b L xs) (hs : (xl X).stackTraces = false) (hN : N1 + 2 ≤ 601024 ∧ N2 + 12 ≤ 7293034) {v4 : Int32} {k23 : Mem → Prop} (hk : ∀ μ : Mem, k23 μ → J G X Q 7 (N1 + 2) (N2 + 12) 1765 [(0, .ref b), (1, .ref (ad G 0)), (2, .ref (ad G 31)), (3, .ref (ad G 56)), (4, .int v4)] [] μ) {μ : Mem} (h : w_law_c18 xs L k23 v4 μ) : J G X Q 7 N1 N2 1372 [(0, .ref b), (1, .ref (ad G 0)), (2, .ref (ad G 31)), (3, .ref (ad G 56)), (4, .int v4)] [] μ := by
  unfold w_law_c18 at h
  refine j_aload_n C 1 dL_law_1372 rfl ?_
  refine j_aload_n C 0 dL_law_1373 rfl ?_
  refine j_iload C 4 dL_law_1374 rfl ?_
  refine j_iconst (v := 1) C dL_law_1376 (by decide) ?_
  refine j_iadd C dL_law_1377 ?_
  have b269 := h.1
  replace h := h.2
  refine j_sld C hS b269 dL_law_1378 ?_
  refine j_aload_n C 0 dL_law_1379 rfl ?_
  refine j_iload C 4 dL_law_1380 rfl ?_
  refine j_iconst (v := 2) C dL_law_1382 (by decide) ?_
  refine j_iadd C dL_law_1383 ?_
  have b270 := h.1
  replace h := h.2
  refine j_sld C hS b270 dL_law_1384 ?_
  refine j_aload_n C 3 dL_law_1385 rfl ?_
  refine j_cWI (n := 4) (rest := []) (k1 := (N1 + 1)) (k2 := (N2 + 6)) C (c_L_wish (xl X) G C.2.2.1 hs _ (xs (ix (v4 + (1 : Int32)))) (xs (ix (v4 + (2 : Int32)))) μ) h gL_law_L_wish rfl ⟨rfl, rfl⟩ (by decide +kernel) ⟨by decide, by decide⟩ ⟨by have := hN.1; show _ ≤ 601024; omega, by have := hN.2; show _ ≤ 7293034; omega⟩ rfl rfl (Nat.le_of_ble_eq_true rfl) dL_law_1386 rfl rfl (fun r272 μ271 h => ?_)
  refine j_istore (lv' := [(0, .ref b), (1, .ref (ad G 0)), (2, .ref (ad G 31)), (3, .ref (ad G 56)), (4, .int v4), (5, .int r272)]) C dL_law_1389 (by decide) rfl rfl ?_
  refine j_aload_n C 2 dL_law_1391 rfl ?_
  refine j_aload_n C 0 dL_law_1392 rfl ?_
  refine j_iload C 4 dL_law_1393 rfl ?_
  refine j_iconst (v := 1) C dL_law_1395 (by decide) ?_
  refine j_iadd C dL_law_1396 ?_
  have b273 := h.1
  replace h := h.2
  refine j_sld C hS b273 dL_law_1397 ?_
  refine j_aload_n C 0 dL_law_1398 rfl ?_
  refine j_iload C 4 dL_law_1399 rfl ?_
  refine j_iconst (v := 2) C dL_law_1401 (by decide) ?_
  refine j_iadd C dL_law_1402 ?_
  have b274 := h.1
  replace h := h.2
  refine j_sld C hS b274 dL_law_1403 ?_
  refine j_cVI (n := 2) (rest := []) (k1 := (N1 + 1)) (k2 := (N2 + 6)) C 31 (c_X8_wish (xl X) G C.2.2.1 _ (xs (ix (v4 + (1 : Int32)))) (xs (ix (v4 + (2 : Int32)))) μ271) h gL_law_X8_wish rfl ⟨rfl, rfl⟩ (by decide +kernel) ⟨by decide, by decide⟩ ⟨by have := hN.1; show _ ≤ 601024; omega, by have := hN.2; show _ ≤ 7293034; omega⟩ sh_31 (by decide) cl_X8 rfl rfl (Nat.le_of_ble_eq_true rfl) dL_law_1404 rfl rfl (fun r276 μ275 h => ?_)
  refine j_istore (lv' := [(0, .ref b), (1, .ref (ad G 0)), (2, .ref (ad G 31)), (3, .ref (ad G 56)), (4, .int v4), (5, .int r272), (6, .int r276)]) C dL_law_1407 (by decide) rfl rfl ?_
  refine j_aload_n C 2 dL_law_1409 rfl ?_
  refine j_cVI (n := 0) (rest := []) (k1 := (N1 + 1)) (k2 := (N2 + 6)) C 31 (c_X8_thrown (xl X) G C.2.2.1 _ μ275) h gL_law_X8_thrown rfl ⟨rfl, rfl⟩ (by decide +kernel) ⟨by decide, by decide⟩ ⟨by have := hN.1; show _ ≤ 601024; omega, by have := hN.2; show _ ≤ 7293034; omega⟩ sh_31 (by decide) cl_X8 rfl rfl (Nat.le_of_ble_eq_true rfl) dL_law_1410 rfl rfl (fun r278 μ277 h => ?_)
  refine j_iload C 5 dL_law_1413 rfl ?_
  refine j_icmp_eq C 1420 dL_law_1415 (by decide) (fun c281 => ?_) (fun c281 => ?_)
  · replace h := h.1 c281
    refine j_iload C 5 dL_law_1420 rfl ?_
    refine j_if_ne C 1437 dL_law_1422 (by decide) (fun c280 => ?_) (fun c280 => ?_)
    · replace h := h.1 c280
      refine j_goto C 1765 dL_law_1437 (by decide) ?_
      refine j_forget [0, 1, 2, 3, 4] rfl ?_
      refine j_widen (k1 := N1 + 2) (k2 := N2 + 12) (by omega) (by omega) ?_
      exact hk _ h
    · replace h := h.2 c280
      refine j_aload_n C 3 dL_law_1425 rfl ?_
      refine j_iconst (v := 0) C dL_law_1426 (by decide) ?_
      refine j_lald C 56 sh_56 (by decide) in01 dL_law_1427 ?_
      refine j_iload C 6 dL_law_1428 rfl ?_
      refine j_i2l C dL_law_1430 ?_
      refine j_lcmp C dL_law_1431 ?_
      refine j_if_eq C 1437 dL_law_1432 (by decide) (fun c279 => ?_) (fun c279 => ?_)
      · replace h := h.1 c279
        refine j_goto C 1765 dL_law_1437 (by decide) ?_
        refine j_forget [0, 1, 2, 3, 4] rfl ?_
        refine j_widen (k1 := N1 + 2) (k2 := N2 + 12) (by omega) (by omega) ?_
        exact hk _ h
      · replace h := h.2 c279
        refine j_iconst (v := 0) C dL_law_1435 (by decide) ?_
        exact h.elim
  · replace h := h.2 c281
    refine j_iconst (v := 0) C dL_law_1418 (by decide) ?_
    exact h.elim
set_option maxHeartbeats 4000000 in
set_option maxRecDepth 100000 in
theorem law_c19_j {G : Gt} {X : Cxt} {Q : State → Prop} {b L N1 N2 : Nat} {xs : Nat → Int32} (C : Cx G X cL_law RL wsL_law 7 room_1) (hS : Scr G X b L xs) (hs : (xl X).stackTraces = false) (hN : N1 + 2 ≤ 601024 ∧ N2 + 12 ≤ 7293034) {v4 : Int32} {k23 : Mem → Prop} (hk : ∀ μ : Mem, k23 μ → J G X Q 7 (N1 + 2) (N2 + 12) 1765 [(0, .ref b), (1, .ref (ad G 0)), (2, .ref (ad G 31)), (3, .ref (ad G 56)), (4, .int v4)] [] μ) {μ : Mem} (h : w_law_c19 xs L k23 v4 μ) : J G X Q 7 N1 N2 1440 [(0, .ref b), (1, .ref (ad G 0)), (2, .ref (ad G 31)), (3, .ref (ad G 56)), (4, .int v4)] [] μ := by
  unfold w_law_c19 at h
  refine j_aload_n C 1 dL_law_1440 rfl ?_
  refine j_cVI (n := 0) (rest := []) (k1 := N1) (k2 := N2) C 0 (c_X7_unwish (xl X) G C.2.2.1 _ μ) h gL_law_X7_unwish rfl ⟨rfl, rfl⟩ (by decide +kernel) ⟨by decide, by decide⟩ ⟨by have := hN.1; show _ ≤ 601024; omega, by have := hN.2; show _ ≤ 7293034; omega⟩ sh_0 (by decide) cl_X7 rfl rfl (Nat.le_of_ble_eq_true rfl) dL_law_1441 rfl rfl (fun r283 μ282 h => ?_)
  refine j_aload_n C 2 dL_law_1444 rfl ?_
  refine j_cVI (n := 0) (rest := [.int r283]) (k1 := N1) (k2 := N2) C 31 (c_X8_unwish (xl X) G C.2.2.1 _ μ282) h gL_law_X8_unwish rfl ⟨rfl, rfl⟩ (by decide +kernel) ⟨by decide, by decide⟩ ⟨by have := hN.1; show _ ≤ 601024; omega, by have := hN.2; show _ ≤ 7293034; omega⟩ sh_31 (by decide) cl_X8 rfl rfl (Nat.le_of_ble_eq_true rfl) dL_law_1445 rfl rfl (fun r285 μ284 h => ?_)
  refine j_icmp_eq C 1765 dL_law_1448 (by decide) (fun c286 => ?_) (fun c286 => ?_)
  · replace h := h.1 c286
    refine j_widen (k1 := N1 + 2) (k2 := N2 + 12) (by omega) (by omega) ?_
    exact hk _ h
  · replace h := h.2 c286
    refine j_iconst (v := 0) C dL_law_1451 (by decide) ?_
    exact h.elim
set_option maxHeartbeats 4000000 in
set_option maxRecDepth 100000 in
theorem law_c20_j {G : Gt} {X : Cxt} {Q : State → Prop} {b L N1 N2 : Nat} {xs : Nat → Int32} (C : Cx G X cL_law RL wsL_law 7 room_1) (hS : Scr G X b L xs) (hs : (xl X).stackTraces = false) (hN : N1 + 2 ≤ 601024 ∧ N2 + 12 ≤ 7293034) {v4 : Int32} {k23 : Mem → Prop} (hk : ∀ μ : Mem, k23 μ → J G X Q 7 (N1 + 2) (N2 + 12) 1765 [(0, .ref b), (1, .ref (ad G 0)), (2, .ref (ad G 31)), (3, .ref (ad G 56)), (4, .int v4)] [] μ) {μ : Mem} (h : w_law_c20 xs L k23 v4 μ) : J G X Q 7 N1 N2 1453 [(0, .ref b), (1, .ref (ad G 0)), (2, .ref (ad G 31)), (3, .ref (ad G 56)), (4, .int v4)] [] μ := by
  unfold w_law_c20 at h
  refine j_aload_n C 1 dL_law_1453 rfl ?_
  refine j_aload_n C 0 dL_law_1454 rfl ?_
  refine j_iload C 4 dL_law_1455 rfl ?_
  refine j_iconst (v := 1) C dL_law_1457 (by decide) ?_
  refine j_iadd C dL_law_1458 ?_
  have b287 := h.1
  replace h := h.2
  refine j_sld C hS b287 dL_law_1459 ?_
  refine j_aload_n C 0 dL_law_1460 rfl ?_
  refine j_iload C 4 dL_law_1461 rfl ?_
  refine j_iconst (v := 2) C dL_law_1463 (by decide) ?_
  refine j_iadd C dL_law_1464 ?_
  have b288 := h.1
  replace h := h.2
  refine j_sld C hS b288 dL_law_1465 ?_
  refine j_aload_n C 3 dL_law_1466 rfl ?_
  refine j_cWI (n := 4) (rest := []) (k1 := (N1 + 1)) (k2 := (N2 + 6)) C (c_L_leave (xl X) G C.2.2.1 hs _ (xs (ix (v4 + (1 : Int32)))) (xs (ix (v4 + (2 : Int32)))) μ) h gL_law_L_leave rfl ⟨rfl, rfl⟩ (by decide +kernel) ⟨by decide, by decide⟩ ⟨by have := hN.1; show _ ≤ 601024; omega, by have := hN.2; show _ ≤ 7293034; omega⟩ rfl rfl (Nat.le_of_ble_eq_true rfl) dL_law_1467 rfl rfl (fun r290 μ289 h => ?_)
  refine j_istore (lv' := [(0, .ref b), (1, .ref (ad G 0)), (2, .ref (ad G 31)), (3, .ref (ad G 56)), (4, .int v4), (5, .int r290)]) C dL_law_1470 (by decide) rfl rfl ?_
  refine j_aload_n C 2 dL_law_1472 rfl ?_
  refine j_aload_n C 0 dL_law_1473 rfl ?_
  refine j_iload C 4 dL_law_1474 rfl ?_
  refine j_iconst (v := 1) C dL_law_1476 (by decide) ?_
  refine j_iadd C dL_law_1477 ?_
  have b291 := h.1
  replace h := h.2
  refine j_sld C hS b291 dL_law_1478 ?_
  refine j_aload_n C 0 dL_law_1479 rfl ?_
  refine j_iload C 4 dL_law_1480 rfl ?_
  refine j_iconst (v := 2) C dL_law_1482 (by decide) ?_
  refine j_iadd C dL_law_1483 ?_
  have b292 := h.1
  replace h := h.2
  refine j_sld C hS b292 dL_law_1484 ?_
  refine j_cVI (n := 2) (rest := []) (k1 := (N1 + 1)) (k2 := (N2 + 6)) C 31 (c_X8_leave (xl X) G C.2.2.1 _ (xs (ix (v4 + (1 : Int32)))) (xs (ix (v4 + (2 : Int32)))) μ289) h gL_law_X8_leave rfl ⟨rfl, rfl⟩ (by decide +kernel) ⟨by decide, by decide⟩ ⟨by have := hN.1; show _ ≤ 601024; omega, by have := hN.2; show _ ≤ 7293034; omega⟩ sh_31 (by decide) cl_X8 rfl rfl (Nat.le_of_ble_eq_true rfl) dL_law_1485 rfl rfl (fun r294 μ293 h => ?_)
  refine j_istore (lv' := [(0, .ref b), (1, .ref (ad G 0)), (2, .ref (ad G 31)), (3, .ref (ad G 56)), (4, .int v4), (5, .int r290), (6, .int r294)]) C dL_law_1488 (by decide) rfl rfl ?_
  refine j_aload_n C 2 dL_law_1490 rfl ?_
  refine j_cVI (n := 0) (rest := []) (k1 := (N1 + 1)) (k2 := (N2 + 6)) C 31 (c_X8_thrown (xl X) G C.2.2.1 _ μ293) h gL_law_X8_thrown rfl ⟨rfl, rfl⟩ (by decide +kernel) ⟨by decide, by decide⟩ ⟨by have := hN.1; show _ ≤ 601024; omega, by have := hN.2; show _ ≤ 7293034; omega⟩ sh_31 (by decide) cl_X8 rfl rfl (Nat.le_of_ble_eq_true rfl) dL_law_1491 rfl rfl (fun r296 μ295 h => ?_)
  refine j_iload C 5 dL_law_1494 rfl ?_
  refine j_icmp_eq C 1501 dL_law_1496 (by decide) (fun c301 => ?_) (fun c301 => ?_)
  · replace h := h.1 c301
    refine j_iload C 5 dL_law_1501 rfl ?_
    refine j_if_ne C 1525 dL_law_1503 (by decide) (fun c300 => ?_) (fun c300 => ?_)
    · replace h := h.1 c300
      refine j_goto C 1765 dL_law_1525 (by decide) ?_
      refine j_forget [0, 1, 2, 3, 4] rfl ?_
      refine j_widen (k1 := N1 + 2) (k2 := N2 + 12) (by omega) (by omega) ?_
      exact hk _ h
    · replace h := h.2 c300
      refine j_aload_n C 3 dL_law_1506 rfl ?_
      refine j_iconst (v := 0) C dL_law_1507 (by decide) ?_
      refine j_lald C 56 sh_56 (by decide) in01 dL_law_1508 ?_
      refine j_iload C 6 dL_law_1509 rfl ?_
      refine j_if_eq C 1518 dL_law_1511 (by decide) (fun c299 => ?_) (fun c299 => ?_)
      · replace h := h.1 c299
        refine j_lconst (v := 0) C dL_law_1518 (by decide) ?_
        refine j_lcmp C dL_law_1519 ?_
        refine j_if_eq C 1525 dL_law_1520 (by decide) (fun c297 => ?_) (fun c297 => ?_)
        · replace h := h.1 c297
          refine j_goto C 1765 dL_law_1525 (by decide) ?_
          refine j_forget [0, 1, 2, 3, 4] rfl ?_
          refine j_widen (k1 := N1 + 2) (k2 := N2 + 12) (by omega) (by omega) ?_
          exact hk _ h
        · replace h := h.2 c297
          refine j_iconst (v := 0) C dL_law_1523 (by decide) ?_
          exact h.elim
      · replace h := h.2 c299
        refine j_lconst (v := 1) C dL_law_1514 (by decide) ?_
        refine j_goto C 1519 dL_law_1515 (by decide) ?_
        refine j_lcmp C dL_law_1519 ?_
        refine j_if_eq C 1525 dL_law_1520 (by decide) (fun c298 => ?_) (fun c298 => ?_)
        · replace h := h.1 c298
          refine j_goto C 1765 dL_law_1525 (by decide) ?_
          refine j_forget [0, 1, 2, 3, 4] rfl ?_
          refine j_widen (k1 := N1 + 2) (k2 := N2 + 12) (by omega) (by omega) ?_
          exact hk _ h
        · replace h := h.2 c298
          refine j_iconst (v := 0) C dL_law_1523 (by decide) ?_
          exact h.elim
  · replace h := h.2 c301
    refine j_iconst (v := 0) C dL_law_1499 (by decide) ?_
    exact h.elim
set_option maxHeartbeats 4000000 in
set_option maxRecDepth 100000 in
theorem law_c21_j {G : Gt} {X : Cxt} {Q : State → Prop} {b L N1 N2 : Nat} {xs : Nat → Int32} (C : Cx G X cL_law RL wsL_law 7 room_1) (hS : Scr G X b L xs) (hs : (xl X).stackTraces = false) (hN : N1 + 2 ≤ 601024 ∧ N2 + 12 ≤ 7293034) {v4 : Int32} {k23 : Mem → Prop} (hk : ∀ μ : Mem, k23 μ → J G X Q 7 (N1 + 2) (N2 + 12) 1765 [(0, .ref b), (1, .ref (ad G 0)), (2, .ref (ad G 31)), (3, .ref (ad G 56)), (4, .int v4)] [] μ) {μ : Mem} (h : w_law_c21 xs L k23 v4 μ) : J G X Q 7 N1 N2 1528 [(0, .ref b), (1, .ref (ad G 0)), (2, .ref (ad G 31)), (3, .ref (ad G 56)), (4, .int v4)] [] μ := by
  unfold w_law_c21 at h
  refine j_aload_n C 1 dL_law_1528 rfl ?_
  refine j_aload_n C 0 dL_law_1529 rfl ?_
  refine j_iload C 4 dL_law_1530 rfl ?_
  refine j_iconst (v := 1) C dL_law_1532 (by decide) ?_
  refine j_iadd C dL_law_1533 ?_
  have b302 := h.1
  replace h := h.2
  refine j_sld C hS b302 dL_law_1534 ?_
  refine j_aload_n C 3 dL_law_1535 rfl ?_
  refine j_cWI (n := 3) (rest := []) (k1 := (N1 + 1)) (k2 := (N2 + 6)) C (c_L_keep (xl X) G C.2.2.1 hs _ (xs (ix (v4 + (1 : Int32)))) μ) h gL_law_L_keep rfl ⟨rfl, rfl⟩ (by decide +kernel) ⟨by decide, by decide⟩ ⟨by have := hN.1; show _ ≤ 601024; omega, by have := hN.2; show _ ≤ 7293034; omega⟩ rfl rfl (Nat.le_of_ble_eq_true rfl) dL_law_1536 rfl rfl (fun r304 μ303 h => ?_)
  refine j_istore (lv' := [(0, .ref b), (1, .ref (ad G 0)), (2, .ref (ad G 31)), (3, .ref (ad G 56)), (4, .int v4), (5, .int r304)]) C dL_law_1539 (by decide) rfl rfl ?_
  refine j_aload_n C 2 dL_law_1541 rfl ?_
  refine j_aload_n C 0 dL_law_1542 rfl ?_
  refine j_iload C 4 dL_law_1543 rfl ?_
  refine j_iconst (v := 1) C dL_law_1545 (by decide) ?_
  refine j_iadd C dL_law_1546 ?_
  have b305 := h.1
  replace h := h.2
  refine j_sld C hS b305 dL_law_1547 ?_
  refine j_cVI (n := 1) (rest := []) (k1 := (N1 + 1)) (k2 := (N2 + 6)) C 31 (c_X8_keep (xl X) G C.2.2.1 _ (xs (ix (v4 + (1 : Int32)))) μ303) h gL_law_X8_keep rfl ⟨rfl, rfl⟩ (by decide +kernel) ⟨by decide, by decide⟩ ⟨by have := hN.1; show _ ≤ 601024; omega, by have := hN.2; show _ ≤ 7293034; omega⟩ sh_31 (by decide) cl_X8 rfl rfl (Nat.le_of_ble_eq_true rfl) dL_law_1548 rfl rfl (fun r307 μ306 h => ?_)
  refine j_istore (lv' := [(0, .ref b), (1, .ref (ad G 0)), (2, .ref (ad G 31)), (3, .ref (ad G 56)), (4, .int v4), (5, .int r304), (6, .int r307)]) C dL_law_1551 (by decide) rfl rfl ?_
  refine j_aload_n C 2 dL_law_1553 rfl ?_
  refine j_cVI (n := 0) (rest := []) (k1 := (N1 + 1)) (k2 := (N2 + 6)) C 31 (c_X8_thrown (xl X) G C.2.2.1 _ μ306) h gL_law_X8_thrown rfl ⟨rfl, rfl⟩ (by decide +kernel) ⟨by decide, by decide⟩ ⟨by have := hN.1; show _ ≤ 601024; omega, by have := hN.2; show _ ≤ 7293034; omega⟩ sh_31 (by decide) cl_X8 rfl rfl (Nat.le_of_ble_eq_true rfl) dL_law_1554 rfl rfl (fun r309 μ308 h => ?_)
  refine j_iload C 5 dL_law_1557 rfl ?_
  refine j_icmp_eq C 1564 dL_law_1559 (by decide) (fun c312 => ?_) (fun c312 => ?_)
  · replace h := h.1 c312
    refine j_iload C 5 dL_law_1564 rfl ?_
    refine j_if_ne C 1581 dL_law_1566 (by decide) (fun c311 => ?_) (fun c311 => ?_)
    · replace h := h.1 c311
      refine j_goto C 1765 dL_law_1581 (by decide) ?_
      refine j_forget [0, 1, 2, 3, 4] rfl ?_
      refine j_widen (k1 := N1 + 2) (k2 := N2 + 12) (by omega) (by omega) ?_
      exact hk _ h
    · replace h := h.2 c311
      refine j_aload_n C 3 dL_law_1569 rfl ?_
      refine j_iconst (v := 0) C dL_law_1570 (by decide) ?_
      refine j_lald C 56 sh_56 (by decide) in01 dL_law_1571 ?_
      refine j_iload C 6 dL_law_1572 rfl ?_
      refine j_i2l C dL_law_1574 ?_
      refine j_lcmp C dL_law_1575 ?_
      refine j_if_eq C 1581 dL_law_1576 (by decide) (fun c310 => ?_) (fun c310 => ?_)
      · replace h := h.1 c310
        refine j_goto C 1765 dL_law_1581 (by decide) ?_
        refine j_forget [0, 1, 2, 3, 4] rfl ?_
        refine j_widen (k1 := N1 + 2) (k2 := N2 + 12) (by omega) (by omega) ?_
        exact hk _ h
      · replace h := h.2 c310
        refine j_iconst (v := 0) C dL_law_1579 (by decide) ?_
        exact h.elim
  · replace h := h.2 c312
    refine j_iconst (v := 0) C dL_law_1562 (by decide) ?_
    exact h.elim
set_option maxHeartbeats 4000000 in
set_option maxRecDepth 100000 in
theorem law_c22_j {G : Gt} {X : Cxt} {Q : State → Prop} {b L N1 N2 : Nat} {xs : Nat → Int32} (C : Cx G X cL_law RL wsL_law 7 room_1) (hS : Scr G X b L xs) (hs : (xl X).stackTraces = false) (hN : N1 + 2 ≤ 601024 ∧ N2 + 12 ≤ 7293034) {v4 : Int32} {k23 : Mem → Prop} (hk : ∀ μ : Mem, k23 μ → J G X Q 7 (N1 + 2) (N2 + 12) 1765 [(0, .ref b), (1, .ref (ad G 0)), (2, .ref (ad G 31)), (3, .ref (ad G 56)), (4, .int v4)] [] μ) {μ : Mem} (h : w_law_c22 xs L k23 v4 μ) : J G X Q 7 N1 N2 1584 [(0, .ref b), (1, .ref (ad G 0)), (2, .ref (ad G 31)), (3, .ref (ad G 56)), (4, .int v4)] [] μ := by
  unfold w_law_c22 at h
  refine j_aload_n C 1 dL_law_1584 rfl ?_
  refine j_aload_n C 0 dL_law_1585 rfl ?_
  refine j_iload C 4 dL_law_1586 rfl ?_
  refine j_iconst (v := 1) C dL_law_1588 (by decide) ?_
  refine j_iadd C dL_law_1589 ?_
  have b313 := h.1
  replace h := h.2
  refine j_sld C hS b313 dL_law_1590 ?_
  refine j_aload_n C 3 dL_law_1591 rfl ?_
  refine j_cWI (n := 3) (rest := []) (k1 := (N1 + 1)) (k2 := (N2 + 6)) C (c_L_merge (xl X) G C.2.2.1 hs _ (xs (ix (v4 + (1 : Int32)))) μ) h gL_law_L_merge rfl ⟨rfl, rfl⟩ (by decide +kernel) ⟨by decide, by decide⟩ ⟨by have := hN.1; show _ ≤ 601024; omega, by have := hN.2; show _ ≤ 7293034; omega⟩ rfl rfl (Nat.le_of_ble_eq_true rfl) dL_law_1592 rfl rfl (fun r315 μ314 h => ?_)
  refine j_istore (lv' := [(0, .ref b), (1, .ref (ad G 0)), (2, .ref (ad G 31)), (3, .ref (ad G 56)), (4, .int v4), (5, .int r315)]) C dL_law_1595 (by decide) rfl rfl ?_
  refine j_aload_n C 2 dL_law_1597 rfl ?_
  refine j_aload_n C 0 dL_law_1598 rfl ?_
  refine j_iload C 4 dL_law_1599 rfl ?_
  refine j_iconst (v := 1) C dL_law_1601 (by decide) ?_
  refine j_iadd C dL_law_1602 ?_
  have b316 := h.1
  replace h := h.2
  refine j_sld C hS b316 dL_law_1603 ?_
  refine j_cVI (n := 1) (rest := []) (k1 := (N1 + 1)) (k2 := (N2 + 6)) C 31 (c_X8_merge (xl X) G C.2.2.1 _ (xs (ix (v4 + (1 : Int32)))) μ314) h gL_law_X8_merge rfl ⟨rfl, rfl⟩ (by decide +kernel) ⟨by decide, by decide⟩ ⟨by have := hN.1; show _ ≤ 601024; omega, by have := hN.2; show _ ≤ 7293034; omega⟩ sh_31 (by decide) cl_X8 rfl rfl (Nat.le_of_ble_eq_true rfl) dL_law_1604 rfl rfl (fun r318 μ317 h => ?_)
  refine j_istore (lv' := [(0, .ref b), (1, .ref (ad G 0)), (2, .ref (ad G 31)), (3, .ref (ad G 56)), (4, .int v4), (5, .int r315), (6, .int r318)]) C dL_law_1607 (by decide) rfl rfl ?_
  refine j_aload_n C 2 dL_law_1609 rfl ?_
  refine j_cVI (n := 0) (rest := []) (k1 := (N1 + 1)) (k2 := (N2 + 6)) C 31 (c_X8_thrown (xl X) G C.2.2.1 _ μ317) h gL_law_X8_thrown rfl ⟨rfl, rfl⟩ (by decide +kernel) ⟨by decide, by decide⟩ ⟨by have := hN.1; show _ ≤ 601024; omega, by have := hN.2; show _ ≤ 7293034; omega⟩ sh_31 (by decide) cl_X8 rfl rfl (Nat.le_of_ble_eq_true rfl) dL_law_1610 rfl rfl (fun r320 μ319 h => ?_)
  refine j_iload C 5 dL_law_1613 rfl ?_
  refine j_icmp_eq C 1620 dL_law_1615 (by decide) (fun c323 => ?_) (fun c323 => ?_)
  · replace h := h.1 c323
    refine j_iload C 5 dL_law_1620 rfl ?_
    refine j_if_ne C 1637 dL_law_1622 (by decide) (fun c322 => ?_) (fun c322 => ?_)
    · replace h := h.1 c322
      refine j_goto C 1765 dL_law_1637 (by decide) ?_
      refine j_forget [0, 1, 2, 3, 4] rfl ?_
      refine j_widen (k1 := N1 + 2) (k2 := N2 + 12) (by omega) (by omega) ?_
      exact hk _ h
    · replace h := h.2 c322
      refine j_aload_n C 3 dL_law_1625 rfl ?_
      refine j_iconst (v := 0) C dL_law_1626 (by decide) ?_
      refine j_lald C 56 sh_56 (by decide) in01 dL_law_1627 ?_
      refine j_iload C 6 dL_law_1628 rfl ?_
      refine j_i2l C dL_law_1630 ?_
      refine j_lcmp C dL_law_1631 ?_
      refine j_if_eq C 1637 dL_law_1632 (by decide) (fun c321 => ?_) (fun c321 => ?_)
      · replace h := h.1 c321
        refine j_goto C 1765 dL_law_1637 (by decide) ?_
        refine j_forget [0, 1, 2, 3, 4] rfl ?_
        refine j_widen (k1 := N1 + 2) (k2 := N2 + 12) (by omega) (by omega) ?_
        exact hk _ h
      · replace h := h.2 c321
        refine j_iconst (v := 0) C dL_law_1635 (by decide) ?_
        exact h.elim
  · replace h := h.2 c323
    refine j_iconst (v := 0) C dL_law_1618 (by decide) ?_
    exact h.elim
set_option maxHeartbeats 4000000 in
set_option maxRecDepth 100000 in
theorem law_c23_j {G : Gt} {X : Cxt} {Q : State → Prop} {b L N1 N2 : Nat} {xs : Nat → Int32} (C : Cx G X cL_law RL wsL_law 7 room_1) (hS : Scr G X b L xs) (hs : (xl X).stackTraces = false) (hN : N1 + 2 ≤ 601024 ∧ N2 + 12 ≤ 7293034) {v4 : Int32} {k23 : Mem → Prop} (hk : ∀ μ : Mem, k23 μ → J G X Q 7 (N1 + 2) (N2 + 12) 1765 [(0, .ref b), (1, .ref (ad G 0)), (2, .ref (ad G 31)), (3, .ref (ad G 56)), (4, .int v4)] [] μ) {μ : Mem} (h : w_law_c23 xs L k23 v4 μ) : J G X Q 7 N1 N2 1640 [(0, .ref b), (1, .ref (ad G 0)), (2, .ref (ad G 31)), (3, .ref (ad G 56)), (4, .int v4)] [] μ := by
  unfold w_law_c23 at h
  refine j_aload_n C 1 dL_law_1640 rfl ?_
  refine j_cVI (n := 0) (rest := []) (k1 := N1) (k2 := N2) C 0 (c_X7_unmerge (xl X) G C.2.2.1 _ μ) h gL_law_X7_unmerge rfl ⟨rfl, rfl⟩ (by decide +kernel) ⟨by decide, by decide⟩ ⟨by have := hN.1; show _ ≤ 601024; omega, by have := hN.2; show _ ≤ 7293034; omega⟩ sh_0 (by decide) cl_X7 rfl rfl (Nat.le_of_ble_eq_true rfl) dL_law_1641 rfl rfl (fun r325 μ324 h => ?_)
  refine j_aload_n C 2 dL_law_1644 rfl ?_
  refine j_cVI (n := 0) (rest := [.int r325]) (k1 := N1) (k2 := N2) C 31 (c_X8_unmerge (xl X) G C.2.2.1 _ μ324) h gL_law_X8_unmerge rfl ⟨rfl, rfl⟩ (by decide +kernel) ⟨by decide, by decide⟩ ⟨by have := hN.1; show _ ≤ 601024; omega, by have := hN.2; show _ ≤ 7293034; omega⟩ sh_31 (by decide) cl_X8 rfl rfl (Nat.le_of_ble_eq_true rfl) dL_law_1645 rfl rfl (fun r327 μ326 h => ?_)
  refine j_icmp_eq C 1765 dL_law_1648 (by decide) (fun c328 => ?_) (fun c328 => ?_)
  · replace h := h.1 c328
    refine j_widen (k1 := N1 + 2) (k2 := N2 + 12) (by omega) (by omega) ?_
    exact hk _ h
  · replace h := h.2 c328
    refine j_iconst (v := 0) C dL_law_1651 (by decide) ?_
    exact h.elim
set_option maxHeartbeats 4000000 in
set_option maxRecDepth 100000 in
theorem law_c24_j {G : Gt} {X : Cxt} {Q : State → Prop} {b L N1 N2 : Nat} {xs : Nat → Int32} (C : Cx G X cL_law RL wsL_law 7 room_1) (hS : Scr G X b L xs) (hs : (xl X).stackTraces = false) (hN : N1 + 2 ≤ 601024 ∧ N2 + 12 ≤ 7293034) {v4 : Int32} {k23 : Mem → Prop} (hk : ∀ μ : Mem, k23 μ → J G X Q 7 (N1 + 2) (N2 + 12) 1765 [(0, .ref b), (1, .ref (ad G 0)), (2, .ref (ad G 31)), (3, .ref (ad G 56)), (4, .int v4)] [] μ) {μ : Mem} (h : w_law_c24 xs L k23 v4 μ) : J G X Q 7 N1 N2 1653 [(0, .ref b), (1, .ref (ad G 0)), (2, .ref (ad G 31)), (3, .ref (ad G 56)), (4, .int v4)] [] μ := by
  unfold w_law_c24 at h
  refine j_aload_n C 1 dL_law_1653 rfl ?_
  refine j_aload_n C 0 dL_law_1654 rfl ?_
  refine j_iload C 4 dL_law_1655 rfl ?_
  refine j_iconst (v := 1) C dL_law_1657 (by decide) ?_
  refine j_iadd C dL_law_1658 ?_
  have b329 := h.1
  replace h := h.2
  refine j_sld C hS b329 dL_law_1659 ?_
  refine j_aload_n C 3 dL_law_1660 rfl ?_
  refine j_cWI (n := 3) (rest := []) (k1 := (N1 + 1)) (k2 := (N2 + 6)) C (c_L_days (xl X) G C.2.2.1 hs _ (xs (ix (v4 + (1 : Int32)))) μ) h gL_law_L_days rfl ⟨rfl, rfl⟩ (by decide +kernel) ⟨by decide, by decide⟩ ⟨by have := hN.1; show _ ≤ 601024; omega, by have := hN.2; show _ ≤ 7293034; omega⟩ rfl rfl (Nat.le_of_ble_eq_true rfl) dL_law_1661 rfl rfl (fun r331 μ330 h => ?_)
  refine j_istore (lv' := [(0, .ref b), (1, .ref (ad G 0)), (2, .ref (ad G 31)), (3, .ref (ad G 56)), (4, .int v4), (5, .int r331)]) C dL_law_1664 (by decide) rfl rfl ?_
  refine j_aload_n C 2 dL_law_1666 rfl ?_
  refine j_aload_n C 0 dL_law_1667 rfl ?_
  refine j_iload C 4 dL_law_1668 rfl ?_
  refine j_iconst (v := 1) C dL_law_1670 (by decide) ?_
  refine j_iadd C dL_law_1671 ?_
  have b332 := h.1
  replace h := h.2
  refine j_sld C hS b332 dL_law_1672 ?_
  refine j_cVI (n := 1) (rest := []) (k1 := (N1 + 1)) (k2 := (N2 + 6)) C 31 (c_X8_days (xl X) G C.2.2.1 _ (xs (ix (v4 + (1 : Int32)))) μ330) h gL_law_X8_days rfl ⟨rfl, rfl⟩ (by decide +kernel) ⟨by decide, by decide⟩ ⟨by have := hN.1; show _ ≤ 601024; omega, by have := hN.2; show _ ≤ 7293034; omega⟩ sh_31 (by decide) cl_X8 rfl rfl (Nat.le_of_ble_eq_true rfl) dL_law_1673 rfl rfl (fun r334 μ333 h => ?_)
  refine j_istore (lv' := [(0, .ref b), (1, .ref (ad G 0)), (2, .ref (ad G 31)), (3, .ref (ad G 56)), (4, .int v4), (5, .int r331), (6, .int r334)]) C dL_law_1676 (by decide) rfl rfl ?_
  refine j_aload_n C 2 dL_law_1678 rfl ?_
  refine j_cVI (n := 0) (rest := []) (k1 := (N1 + 1)) (k2 := (N2 + 6)) C 31 (c_X8_thrown (xl X) G C.2.2.1 _ μ333) h gL_law_X8_thrown rfl ⟨rfl, rfl⟩ (by decide +kernel) ⟨by decide, by decide⟩ ⟨by have := hN.1; show _ ≤ 601024; omega, by have := hN.2; show _ ≤ 7293034; omega⟩ sh_31 (by decide) cl_X8 rfl rfl (Nat.le_of_ble_eq_true rfl) dL_law_1679 rfl rfl (fun r336 μ335 h => ?_)
  refine j_iload C 5 dL_law_1682 rfl ?_
  refine j_icmp_eq C 1689 dL_law_1684 (by decide) (fun c339 => ?_) (fun c339 => ?_)
  · replace h := h.1 c339
    refine j_iload C 5 dL_law_1689 rfl ?_
    refine j_if_ne C 1706 dL_law_1691 (by decide) (fun c338 => ?_) (fun c338 => ?_)
    · replace h := h.1 c338
      refine j_goto C 1765 dL_law_1706 (by decide) ?_
      refine j_forget [0, 1, 2, 3, 4] rfl ?_
      refine j_widen (k1 := N1 + 2) (k2 := N2 + 12) (by omega) (by omega) ?_
      exact hk _ h
    · replace h := h.2 c338
      refine j_aload_n C 3 dL_law_1694 rfl ?_
      refine j_iconst (v := 0) C dL_law_1695 (by decide) ?_
      refine j_lald C 56 sh_56 (by decide) in01 dL_law_1696 ?_
      refine j_iload C 6 dL_law_1697 rfl ?_
      refine j_i2l C dL_law_1699 ?_
      refine j_lcmp C dL_law_1700 ?_
      refine j_if_eq C 1706 dL_law_1701 (by decide) (fun c337 => ?_) (fun c337 => ?_)
      · replace h := h.1 c337
        refine j_goto C 1765 dL_law_1706 (by decide) ?_
        refine j_forget [0, 1, 2, 3, 4] rfl ?_
        refine j_widen (k1 := N1 + 2) (k2 := N2 + 12) (by omega) (by omega) ?_
        exact hk _ h
      · replace h := h.2 c337
        refine j_iconst (v := 0) C dL_law_1704 (by decide) ?_
        exact h.elim
  · replace h := h.2 c339
    refine j_iconst (v := 0) C dL_law_1687 (by decide) ?_
    exact h.elim
set_option maxHeartbeats 4000000 in
set_option maxRecDepth 100000 in
theorem law_c25_j {G : Gt} {X : Cxt} {Q : State → Prop} {b L N1 N2 : Nat} {xs : Nat → Int32} (C : Cx G X cL_law RL wsL_law 7 room_1) (hS : Scr G X b L xs) (hs : (xl X).stackTraces = false) (hN : N1 + 2 ≤ 601024 ∧ N2 + 12 ≤ 7293034) {v4 : Int32} {k23 : Mem → Prop} (hk : ∀ μ : Mem, k23 μ → J G X Q 7 (N1 + 2) (N2 + 12) 1765 [(0, .ref b), (1, .ref (ad G 0)), (2, .ref (ad G 31)), (3, .ref (ad G 56)), (4, .int v4)] [] μ) {μ : Mem} (h : w_law_c25 xs L k23 v4 μ) : J G X Q 7 N1 N2 1709 [(0, .ref b), (1, .ref (ad G 0)), (2, .ref (ad G 31)), (3, .ref (ad G 56)), (4, .int v4)] [] μ := by
  unfold w_law_c25 at h
  refine j_aload_n C 1 dL_law_1709 rfl ?_
  refine j_aload_n C 0 dL_law_1710 rfl ?_
  refine j_iload C 4 dL_law_1711 rfl ?_
  refine j_iconst (v := 1) C dL_law_1713 (by decide) ?_
  refine j_iadd C dL_law_1714 ?_
  have b340 := h.1
  replace h := h.2
  refine j_sld C hS b340 dL_law_1715 ?_
  refine j_aload_n C 3 dL_law_1716 rfl ?_
  refine j_cWI (n := 3) (rest := []) (k1 := (N1 + 1)) (k2 := (N2 + 6)) C (c_L_count (xl X) G C.2.2.1 hs _ (xs (ix (v4 + (1 : Int32)))) μ) h gL_law_L_count rfl ⟨rfl, rfl⟩ (by decide +kernel) ⟨by decide, by decide⟩ ⟨by have := hN.1; show _ ≤ 601024; omega, by have := hN.2; show _ ≤ 7293034; omega⟩ rfl rfl (Nat.le_of_ble_eq_true rfl) dL_law_1717 rfl rfl (fun r342 μ341 h => ?_)
  refine j_istore (lv' := [(0, .ref b), (1, .ref (ad G 0)), (2, .ref (ad G 31)), (3, .ref (ad G 56)), (4, .int v4), (5, .int r342)]) C dL_law_1720 (by decide) rfl rfl ?_
  refine j_aload_n C 2 dL_law_1722 rfl ?_
  refine j_aload_n C 0 dL_law_1723 rfl ?_
  refine j_iload C 4 dL_law_1724 rfl ?_
  refine j_iconst (v := 1) C dL_law_1726 (by decide) ?_
  refine j_iadd C dL_law_1727 ?_
  have b343 := h.1
  replace h := h.2
  refine j_sld C hS b343 dL_law_1728 ?_
  refine j_cVI (n := 1) (rest := []) (k1 := (N1 + 1)) (k2 := (N2 + 6)) C 31 (c_X8_count (xl X) G C.2.2.1 _ (xs (ix (v4 + (1 : Int32)))) μ341) h gL_law_X8_count rfl ⟨rfl, rfl⟩ (by decide +kernel) ⟨by decide, by decide⟩ ⟨by have := hN.1; show _ ≤ 601024; omega, by have := hN.2; show _ ≤ 7293034; omega⟩ sh_31 (by decide) cl_X8 rfl rfl (Nat.le_of_ble_eq_true rfl) dL_law_1729 rfl rfl (fun r345 μ344 h => ?_)
  refine j_istore (lv' := [(0, .ref b), (1, .ref (ad G 0)), (2, .ref (ad G 31)), (3, .ref (ad G 56)), (4, .int v4), (5, .int r342), (6, .int r345)]) C dL_law_1732 (by decide) rfl rfl ?_
  refine j_aload_n C 2 dL_law_1734 rfl ?_
  refine j_cVI (n := 0) (rest := []) (k1 := (N1 + 1)) (k2 := (N2 + 6)) C 31 (c_X8_thrown (xl X) G C.2.2.1 _ μ344) h gL_law_X8_thrown rfl ⟨rfl, rfl⟩ (by decide +kernel) ⟨by decide, by decide⟩ ⟨by have := hN.1; show _ ≤ 601024; omega, by have := hN.2; show _ ≤ 7293034; omega⟩ sh_31 (by decide) cl_X8 rfl rfl (Nat.le_of_ble_eq_true rfl) dL_law_1735 rfl rfl (fun r347 μ346 h => ?_)
  refine j_iload C 5 dL_law_1738 rfl ?_
  refine j_icmp_eq C 1745 dL_law_1740 (by decide) (fun c350 => ?_) (fun c350 => ?_)
  · replace h := h.1 c350
    refine j_iload C 5 dL_law_1745 rfl ?_
    refine j_if_ne C 1762 dL_law_1747 (by decide) (fun c349 => ?_) (fun c349 => ?_)
    · replace h := h.1 c349
      refine j_goto C 1765 dL_law_1762 (by decide) ?_
      refine j_forget [0, 1, 2, 3, 4] rfl ?_
      refine j_widen (k1 := N1 + 2) (k2 := N2 + 12) (by omega) (by omega) ?_
      exact hk _ h
    · replace h := h.2 c349
      refine j_aload_n C 3 dL_law_1750 rfl ?_
      refine j_iconst (v := 0) C dL_law_1751 (by decide) ?_
      refine j_lald C 56 sh_56 (by decide) in01 dL_law_1752 ?_
      refine j_iload C 6 dL_law_1753 rfl ?_
      refine j_i2l C dL_law_1755 ?_
      refine j_lcmp C dL_law_1756 ?_
      refine j_if_eq C 1762 dL_law_1757 (by decide) (fun c348 => ?_) (fun c348 => ?_)
      · replace h := h.1 c348
        refine j_goto C 1765 dL_law_1762 (by decide) ?_
        refine j_forget [0, 1, 2, 3, 4] rfl ?_
        refine j_widen (k1 := N1 + 2) (k2 := N2 + 12) (by omega) (by omega) ?_
        exact hk _ h
      · replace h := h.2 c348
        refine j_iconst (v := 0) C dL_law_1760 (by decide) ?_
        exact h.elim
  · replace h := h.2 c350
    refine j_iconst (v := 0) C dL_law_1743 (by decide) ?_
    exact h.elim
set_option maxHeartbeats 4000000 in
set_option maxRecDepth 100000 in
theorem law_sw_j {G : Gt} {X : Cxt} {Q : State → Prop} {b L N1 N2 : Nat} {xs : Nat → Int32} (C : Cx G X cL_law RL wsL_law 7 room_1) (hS : Scr G X b L xs) (hs : (xl X).stackTraces = false) (hN : N1 + 2 ≤ 601024 ∧ N2 + 12 ≤ 7293034) {v4 : Int32} {k23 : Int32 → Mem → Prop} (hk : ∀ μ : Mem, k23 (v4 + (5 : Int32)) μ → J G X Q 7 (N1 + 2) (N2 + 12) 1765 [(0, .ref b), (1, .ref (ad G 0)), (2, .ref (ad G 31)), (3, .ref (ad G 56)), (4, .int v4)] [] μ) {μ : Mem} (h : w_law_sw xs L k23 v4 μ) : J G X Q 7 N1 N2 39 [(0, .ref b), (1, .ref (ad G 0)), (2, .ref (ad G 31)), (3, .ref (ad G 56)), (4, .int v4)] [.int (xs (ix v4) &&& (31 : Int32))] μ := by
  unfold w_law_sw at h
  refine j_case (x := (xs (ix v4) &&& (31 : Int32))) (v := 0) (fun c0 => ?_) (fun c0 => ?_)
  · replace h := h.1 c0
    refine j_tsIn C 156 dL_law_39 c0 (by decide) (by decide) rfl (by decide) ?_
    exact law_c0_j C hS hs hN (k23 := fun μ => k23 (v4 + (5 : Int32)) μ) hk h
  · replace h := h.2 c0
    refine j_case (x := (xs (ix v4) &&& (31 : Int32))) (v := 1) (fun c1 => ?_) (fun c1 => ?_)
    · replace h := h.1 c1
      refine j_tsIn C 224 dL_law_39 c1 (by decide) (by decide) rfl (by decide) ?_
      exact law_c1_j C hS hs hN (k23 := fun μ => k23 (v4 + (5 : Int32)) μ) hk h
    · replace h := h.2 c1
      refine j_case (x := (xs (ix v4) &&& (31 : Int32))) (v := 2) (fun c2 => ?_) (fun c2 => ?_)
      · replace h := h.1 c2
        refine j_tsIn C 316 dL_law_39 c2 (by decide) (by decide) rfl (by decide) ?_
        exact law_c2_j C hS hs hN (k23 := fun μ => k23 (v4 + (5 : Int32)) μ) hk h
      · replace h := h.2 c2
        refine j_case (x := (xs (ix v4) &&& (31 : Int32))) (v := 3) (fun c3 => ?_) (fun c3 => ?_)
        · replace h := h.1 c3
          refine j_tsIn C 396 dL_law_39 c3 (by decide) (by decide) rfl (by decide) ?_
          exact law_c3_j C hS hs hN (k23 := fun μ => k23 (v4 + (5 : Int32)) μ) hk h
        · replace h := h.2 c3
          refine j_case (x := (xs (ix v4) &&& (31 : Int32))) (v := 4) (fun c4 => ?_) (fun c4 => ?_)
          · replace h := h.1 c4
            refine j_tsIn C 476 dL_law_39 c4 (by decide) (by decide) rfl (by decide) ?_
            exact law_c4_j C hS hs hN (k23 := fun μ => k23 (v4 + (5 : Int32)) μ) hk h
          · replace h := h.2 c4
            refine j_case (x := (xs (ix v4) &&& (31 : Int32))) (v := 5) (fun c5 => ?_) (fun c5 => ?_)
            · replace h := h.1 c5
              refine j_tsIn C 563 dL_law_39 c5 (by decide) (by decide) rfl (by decide) ?_
              exact law_c5_j C hS hs hN (k23 := fun μ => k23 (v4 + (5 : Int32)) μ) hk h
            · replace h := h.2 c5
              refine j_case (x := (xs (ix v4) &&& (31 : Int32))) (v := 6) (fun c6 => ?_) (fun c6 => ?_)
              · replace h := h.1 c6
                refine j_tsIn C 619 dL_law_39 c6 (by decide) (by decide) rfl (by decide) ?_
                exact law_c6_j C hS hs hN (k23 := fun μ => k23 (v4 + (5 : Int32)) μ) hk h
              · replace h := h.2 c6
                refine j_case (x := (xs (ix v4) &&& (31 : Int32))) (v := 7) (fun c7 => ?_) (fun c7 => ?_)
                · replace h := h.1 c7
                  refine j_tsIn C 710 dL_law_39 c7 (by decide) (by decide) rfl (by decide) ?_
                  exact law_c7_j C hS hs hN (k23 := fun μ => k23 (v4 + (5 : Int32)) μ) hk h
                · replace h := h.2 c7
                  refine j_case (x := (xs (ix v4) &&& (31 : Int32))) (v := 8) (fun c8 => ?_) (fun c8 => ?_)
                  · replace h := h.1 c8
                    refine j_tsIn C 790 dL_law_39 c8 (by decide) (by decide) rfl (by decide) ?_
                    exact law_c8_j C hS hs hN (k23 := fun μ => k23 (v4 + (5 : Int32)) μ) hk h
                  · replace h := h.2 c8
                    refine j_case (x := (xs (ix v4) &&& (31 : Int32))) (v := 9) (fun c9 => ?_) (fun c9 => ?_)
                    · replace h := h.1 c9
                      refine j_tsIn C 882 dL_law_39 c9 (by decide) (by decide) rfl (by decide) ?_
                      exact law_c9_j C hS hs hN (k23 := fun μ => k23 (v4 + (5 : Int32)) μ) hk h
                    · replace h := h.2 c9
                      refine j_case (x := (xs (ix v4) &&& (31 : Int32))) (v := 10) (fun c10 => ?_) (fun c10 => ?_)
                      · replace h := h.1 c10
                        refine j_tsIn C 950 dL_law_39 c10 (by decide) (by decide) rfl (by decide) ?_
                        exact law_c10_j C hS hs hN (k23 := fun μ => k23 (v4 + (5 : Int32)) μ) hk h
                      · replace h := h.2 c10
                        refine j_case (x := (xs (ix v4) &&& (31 : Int32))) (v := 11) (fun c11 => ?_) (fun c11 => ?_)
                        · replace h := h.1 c11
                          refine j_tsIn C 1018 dL_law_39 c11 (by decide) (by decide) rfl (by decide) ?_
                          exact law_c11_j C hS hs hN (k23 := fun μ => k23 (v4 + (5 : Int32)) μ) hk h
                        · replace h := h.2 c11
                          refine j_case (x := (xs (ix v4) &&& (31 : Int32))) (v := 12) (fun c12 => ?_) (fun c12 => ?_)
                          · replace h := h.1 c12
                            refine j_tsIn C 1031 dL_law_39 c12 (by decide) (by decide) rfl (by decide) ?_
                            exact law_c12_j C hS hs hN (k23 := fun μ => k23 (v4 + (5 : Int32)) μ) hk h
                          · replace h := h.2 c12
                            refine j_case (x := (xs (ix v4) &&& (31 : Int32))) (v := 13) (fun c13 => ?_) (fun c13 => ?_)
                            · replace h := h.1 c13
                              refine j_tsIn C 1044 dL_law_39 c13 (by decide) (by decide) rfl (by decide) ?_
                              exact law_c13_j C hS hs hN (k23 := fun μ => k23 (v4 + (5 : Int32)) μ) hk h
                            · replace h := h.2 c13
                              refine j_case (x := (xs (ix v4) &&& (31 : Int32))) (v := 14) (fun c14 => ?_) (fun c14 => ?_)
                              · replace h := h.1 c14
                                refine j_tsIn C 1100 dL_law_39 c14 (by decide) (by decide) rfl (by decide) ?_
                                exact law_c14_j C hS hs hN (k23 := fun μ => k23 (v4 + (5 : Int32)) μ) hk h
                              · replace h := h.2 c14
                                refine j_case (x := (xs (ix v4) &&& (31 : Int32))) (v := 15) (fun c15 => ?_) (fun c15 => ?_)
                                · replace h := h.1 c15
                                  refine j_tsIn C 1168 dL_law_39 c15 (by decide) (by decide) rfl (by decide) ?_
                                  exact law_c15_j C hS hs hN (k23 := fun μ => k23 (v4 + (5 : Int32)) μ) hk h
                                · replace h := h.2 c15
                                  refine j_case (x := (xs (ix v4) &&& (31 : Int32))) (v := 16) (fun c16 => ?_) (fun c16 => ?_)
                                  · replace h := h.1 c16
                                    refine j_tsIn C 1236 dL_law_39 c16 (by decide) (by decide) rfl (by decide) ?_
                                    exact law_c16_j C hS hs hN (k23 := fun μ => k23 (v4 + (5 : Int32)) μ) hk h
                                  · replace h := h.2 c16
                                    refine j_case (x := (xs (ix v4) &&& (31 : Int32))) (v := 17) (fun c17 => ?_) (fun c17 => ?_)
                                    · replace h := h.1 c17
                                      refine j_tsIn C 1304 dL_law_39 c17 (by decide) (by decide) rfl (by decide) ?_
                                      exact law_c17_j C hS hs hN (k23 := fun μ => k23 (v4 + (5 : Int32)) μ) hk h
                                    · replace h := h.2 c17
                                      refine j_case (x := (xs (ix v4) &&& (31 : Int32))) (v := 18) (fun c18 => ?_) (fun c18 => ?_)
                                      · replace h := h.1 c18
                                        refine j_tsIn C 1372 dL_law_39 c18 (by decide) (by decide) rfl (by decide) ?_
                                        exact law_c18_j C hS hs hN (k23 := fun μ => k23 (v4 + (5 : Int32)) μ) hk h
                                      · replace h := h.2 c18
                                        refine j_case (x := (xs (ix v4) &&& (31 : Int32))) (v := 19) (fun c19 => ?_) (fun c19 => ?_)
                                        · replace h := h.1 c19
                                          refine j_tsIn C 1440 dL_law_39 c19 (by decide) (by decide) rfl (by decide) ?_
                                          exact law_c19_j C hS hs hN (k23 := fun μ => k23 (v4 + (5 : Int32)) μ) hk h
                                        · replace h := h.2 c19
                                          refine j_case (x := (xs (ix v4) &&& (31 : Int32))) (v := 20) (fun c20 => ?_) (fun c20 => ?_)
                                          · replace h := h.1 c20
                                            refine j_tsIn C 1453 dL_law_39 c20 (by decide) (by decide) rfl (by decide) ?_
                                            exact law_c20_j C hS hs hN (k23 := fun μ => k23 (v4 + (5 : Int32)) μ) hk h
                                          · replace h := h.2 c20
                                            refine j_case (x := (xs (ix v4) &&& (31 : Int32))) (v := 21) (fun c21 => ?_) (fun c21 => ?_)
                                            · replace h := h.1 c21
                                              refine j_tsIn C 1528 dL_law_39 c21 (by decide) (by decide) rfl (by decide) ?_
                                              exact law_c21_j C hS hs hN (k23 := fun μ => k23 (v4 + (5 : Int32)) μ) hk h
                                            · replace h := h.2 c21
                                              refine j_case (x := (xs (ix v4) &&& (31 : Int32))) (v := 22) (fun c22 => ?_) (fun c22 => ?_)
                                              · replace h := h.1 c22
                                                refine j_tsIn C 1584 dL_law_39 c22 (by decide) (by decide) rfl (by decide) ?_
                                                exact law_c22_j C hS hs hN (k23 := fun μ => k23 (v4 + (5 : Int32)) μ) hk h
                                              · replace h := h.2 c22
                                                refine j_case (x := (xs (ix v4) &&& (31 : Int32))) (v := 23) (fun c23 => ?_) (fun c23 => ?_)
                                                · replace h := h.1 c23
                                                  refine j_tsIn C 1640 dL_law_39 c23 (by decide) (by decide) rfl (by decide) ?_
                                                  exact law_c23_j C hS hs hN (k23 := fun μ => k23 (v4 + (5 : Int32)) μ) hk h
                                                · replace h := h.2 c23
                                                  refine j_case (x := (xs (ix v4) &&& (31 : Int32))) (v := 24) (fun c24 => ?_) (fun c24 => ?_)
                                                  · replace h := h.1 c24
                                                    refine j_tsIn C 1653 dL_law_39 c24 (by decide) (by decide) rfl (by decide) ?_
                                                    exact law_c24_j C hS hs hN (k23 := fun μ => k23 (v4 + (5 : Int32)) μ) hk h
                                                  · replace h := h.2 c24
                                                    refine j_case (x := (xs (ix v4) &&& (31 : Int32))) (v := 25) (fun c25 => ?_) (fun c25 => ?_)
                                                    · replace h := h.1 c25
                                                      refine j_tsIn C 1709 dL_law_39 c25 (by decide) (by decide) rfl (by decide) ?_
                                                      exact law_c25_j C hS hs hN (k23 := fun μ => k23 (v4 + (5 : Int32)) μ) hk h
                                                    · replace h := h.2 c25
                                                      refine j_tsOut C 1765 dL_law_39 ?_ (by decide) ?_
                                                      · have z0 := lv_neT (a := 0) c0 (by decide); have z1 := lv_neT (a := 1) c1 (by decide); have z2 := lv_neT (a := 2) c2 (by decide); have z3 := lv_neT (a := 3) c3 (by decide); have z4 := lv_neT (a := 4) c4 (by decide); have z5 := lv_neT (a := 5) c5 (by decide); have z6 := lv_neT (a := 6) c6 (by decide); have z7 := lv_neT (a := 7) c7 (by decide); have z8 := lv_neT (a := 8) c8 (by decide); have z9 := lv_neT (a := 9) c9 (by decide); have z10 := lv_neT (a := 10) c10 (by decide); have z11 := lv_neT (a := 11) c11 (by decide); have z12 := lv_neT (a := 12) c12 (by decide); have z13 := lv_neT (a := 13) c13 (by decide); have z14 := lv_neT (a := 14) c14 (by decide); have z15 := lv_neT (a := 15) c15 (by decide); have z16 := lv_neT (a := 16) c16 (by decide); have z17 := lv_neT (a := 17) c17 (by decide); have z18 := lv_neT (a := 18) c18 (by decide); have z19 := lv_neT (a := 19) c19 (by decide); have z20 := lv_neT (a := 20) c20 (by decide); have z21 := lv_neT (a := 21) c21 (by decide); have z22 := lv_neT (a := 22) c22 (by decide); have z23 := lv_neT (a := 23) c23 (by decide); have z24 := lv_neT (a := 24) c24 (by decide); have z25 := lv_neT (a := 25) c25 (by decide); omega
                                                      · refine j_widen (k1 := N1 + 2) (k2 := N2 + 12) (by omega) (by omega) ?_
                                                        exact hk _ h
set_option maxHeartbeats 4000000 in
set_option maxRecDepth 100000 in
theorem law_head_j {G : Gt} {X : Cxt} {Q : State → Prop} {b L N0 S0 : Nat} {xs : Nat → Int32} (C : Cx G X cL_law RL wsL_law 7 room_1) (hS : Scr G X b L xs) (hs : (xl X).stackTraces = false) (hL : L ≤ 2560) (hN : N0 + 1100 ≤ 601024 ∧ S0 + 6300 ≤ 7293034)
    (hret : ∀ (n1 n2 : Nat) (lv : List (Nat × Value)) (μ : Mem), n1 ≤ 601024 → n2 ≤ 7293034 → J G X Q 7 n1 n2 1772 lv [.int 1] μ) :
    ∀ (n j : Nat) (μ : Mem), 5 * j ≤ L + 4 → itr (fun _ _ => False) (w_law_b23 xs L) n (nI (5 * j)) μ → J G X Q 7 (N0 + 2 * j) (S0 + 12 * j) 23 [(0, .ref b), (1, .ref (ad G 0)), (2, .ref (ad G 31)), (3, .ref (ad G 56)), (4, .int (nI (5 * j)))] [] μ := by
  intro n
  induction n with
  | zero => intro j μ hj h; exact h.elim
  | succ n ih =>
    intro j μ hj h
    replace h : w_law_b23 xs L (itr (fun _ _ => False) (w_law_b23 xs L) n) (nI (5 * j)) μ := h
    generalize itr (fun _ _ => False) (w_law_b23 xs L) n = k23 at ih h
    unfold w_law_b23 at h
    refine j_iload C 4 dL_law_23 rfl ?_
    refine j_aload_n C 0 dL_law_25 rfl ?_
    refine j_slen C hS dL_law_26 ?_
    refine j_iconst (v := 5) C dL_law_27 (by decide) ?_
    refine j_isub C dL_law_28 ?_
    refine j_icmp_gt C 1771 dL_law_29 (by decide) (fun c => ?_) (fun c => ?_)
    · refine j_iconst (v := 1) C dL_law_1771 (by decide) ?_
      exact hret _ _ _ _ (by omega) (by omega)
    · obtain ⟨b1, h⟩ := h c
      have hlt : 5 * j < L := by
        have := Nat.not_le.mp fun q => b1 (Or.inr q)
        rwa [nI_clamp (by omega)] at this
      refine j_aload_n C 0 dL_law_32 rfl ?_
      refine j_iload C 4 dL_law_33 rfl ?_
      refine j_sld C hS b1 dL_law_35 ?_
      refine j_bipush (v := 31) C dL_law_36 (by decide) ?_
      refine j_iand C dL_law_38 ?_
      refine law_sw_j C hS hs (N1 := N0 + 2 * j) (N2 := S0 + 12 * j) ⟨by omega, by omega⟩ (k23 := k23) (fun μ' h' => ?_) h
      refine j_iinc (v := nI (5 * (j + 1))) (lv' := [(0, .ref b), (1, .ref (ad G 0)), (2, .ref (ad G 31)), (3, .ref (ad G 56)), (4, .int (nI (5 * (j + 1))))]) C 4 dL_law_1765 rfl (nI_add (5 * j) 5) (by decide) rfl rfl ?_
      refine j_goto C 23 dL_law_1768 (by decide) ?_
      have e : nI (5 * j) + (5 : Int32) = nI (5 * (j + 1)) := nI_add (5 * j) 5
      rw [e] at h'
      exact ih (j + 1) μ' (by omega) h'
