/-! the law: a step -/
section Step
variable {h : g_H} {Q : Option Value → g_H → Prop} {t : Nat} {x y z : Int32} {s : St}
theorem b191_L_isStep {b e k : Nat} (hb : b < e) (he : e ≤ 64) (hk : k < s.1.length + 1) {x1 y1 : Nat} (hx : x1 < 16) (hy : y1 < 16) (ht : t < 16) (hW : W3 h s (mS t s)) (hQ : ∀ h' s', W3 h' s' (mS t s') → Q (some (.int 1)) h') : J m_L_isStep 7 0 0 0 0 191 [some (.ref 1), some (.ref 57), some (.int (nI t)), some (.int x), some (.int y), some (.int z), some (.int (nI s.1.length)), some (.int (nI b)), some (.int (nI e)), some (.int (nI k)), some (.int (nI x1)), some (.int (nI y1)), none] [] h Q := by
  have hO := hW.hO
  have h4 := hW.h4
  obtain ⟨e1, e2, e3, e4⟩ := add_mk (s := s) ht hx hy hb he
  have E1 := congrArg Prod.fst e1
  have E2 := congrArg Prod.snd e1
  dsimp only at E1 E2
  refine J_aload_n dL_isStep_191 rfl ?_
  refine J_iload dL_isStep_192 rfl ?_
  refine J_iload dL_isStep_194 rfl ?_
  refine J_iload dL_isStep_196 rfl ?_
  refine J_iload dL_isStep_198 rfl ?_
  refine J_callV (As := [_, _, _, _]) (rest := []) (M' := m_X6_addLink) dL_isStep_200 ml_R_law_21 gm_X6_addLink gv_X6_addLink hW.1.o hW.b1 rfl rfl rfl (Nat.le_of_ble_eq_true rfl) (by decide) ⟨rfl, rfl, by decide, by decide⟩ (a1_addLink hW (fun h1 hW1 => ?_))
  replace hW := hW1
  refine J_istore (L' := [_, _, _, _, _, _, _, _, _, _, _, _, _]) dL_isStep_203 (by decide) rfl ?_
  refine J_iload dL_isStep_205 rfl ?_
  refine J_aload_n dL_isStep_207 rfl ?_
  refine J_iload dL_isStep_208 rfl ?_
  refine J_iload_n dL_isStep_210 rfl ?_
  refine J_ixor dL_isStep_211 ?_
  rw [xrI t ht x1 hx]
  refine J_iload dL_isStep_212 rfl ?_
  refine J_iload_n dL_isStep_214 rfl ?_
  refine J_ixor dL_isStep_215 ?_
  rw [xrI t ht y1 hy]
  refine J_bipush (x := 64) dL_isStep_216 (by decide) ?_
  refine J_iload dL_isStep_218 rfl ?_
  refine J_isub dL_isStep_220 ?_
  rw [show (64 : Int32) - nI e = nI (64 - e) from pk_sub (a := 64) (by omega)]
  refine J_bipush (x := 64) dL_isStep_221 (by decide) ?_
  refine J_iload dL_isStep_223 rfl ?_
  refine J_isub dL_isStep_225 ?_
  rw [show (64 : Int32) - nI b = nI (64 - b) from pk_sub (a := 64) (by omega)]
  refine J_callV (As := [_, _, _, _]) (rest := [_]) (M' := m_X6_addLink) dL_isStep_226 ml_R_law_21 gm_X6_addLink gv_X6_addLink hW.2.1.o hW.b2 rfl rfl rfl (Nat.le_of_ble_eq_true rfl) (by decide) ⟨rfl, rfl, by decide, by decide⟩ (a2_addLink hW (fun h1 hW1 => ?_))
  replace hW := hW1
  rw [E1]
  rw [E2] at hW
  refine J_icmp_ne (tgt := 277) dL_isStep_229 (by decide) (fun c229 => absurd rfl c229) (fun c229 => ?_)
  refine J_iload dL_isStep_232 rfl ?_
  refine J_iload dL_isStep_234 rfl ?_
  refine J_icmp_ne (tgt := 249) dL_isStep_236 (by decide) (fun c236 => ?_) (fun c236 => ?_)
  · have n1 : x1 ≠ y1 := fun q => c236 (by rw [q])
    refine J_iload dL_isStep_249 rfl ?_
    refine J_bipush (x := 40) dL_isStep_251 (by decide) ?_
    refine J_icmp_ne (tgt := 266) dL_isStep_253 (by decide) (fun c253 => ?_) (fun c253 => ?_)
    · refine J_iload dL_isStep_266 rfl ?_
      refine J_iload dL_isStep_268 rfl ?_
      refine J_icmp_ne (tgt := 277) dL_isStep_270 (by decide) (fun c270 => absurd (e4 n1 (fun q => c253 (by rw [q]; rfl))) c270) (fun c270 => ?_)
      refine J_iconst (x := 1) dL_isStep_273 (by decide) ?_
      refine J_goto (tgt := 278) dL_isStep_274 (by decide) ?_
      exact J_zret dL_isStep_278 rfl (by first | exact Or.inl rfl | exact Or.inr rfl) ⟨rfl, Nat.le_refl _⟩ (hQ _ _ hW)
    · refine J_iload dL_isStep_256 rfl ?_
      refine J_bipush (x := -3) dL_isStep_258 (by decide) ?_
      refine J_icmp_ne (tgt := 277) dL_isStep_260 (by decide) (fun c260 => absurd (e3 n1 ((nI_eq (b := 40) (by omega) (by omega)).mp c253)) c260) (fun c260 => ?_)
      refine J_goto (tgt := 273) dL_isStep_263 (by decide) ?_
      refine J_iconst (x := 1) dL_isStep_273 (by decide) ?_
      refine J_goto (tgt := 278) dL_isStep_274 (by decide) ?_
      exact J_zret dL_isStep_278 rfl (by first | exact Or.inl rfl | exact Or.inr rfl) ⟨rfl, Nat.le_refl _⟩ (hQ _ _ hW)
  · refine J_iload dL_isStep_239 rfl ?_
    refine J_bipush (x := -2) dL_isStep_241 (by decide) ?_
    refine J_icmp_ne (tgt := 277) dL_isStep_243 (by decide) (fun c243 => absurd (e2 ((nI_eq (by omega) (by omega)).mp c236)) c243) (fun c243 => ?_)
    refine J_goto (tgt := 273) dL_isStep_246 (by decide) ?_
    refine J_iconst (x := 1) dL_isStep_273 (by decide) ?_
    refine J_goto (tgt := 278) dL_isStep_274 (by decide) ?_
    exact J_zret dL_isStep_278 rfl (by first | exact Or.inl rfl | exact Or.inr rfl) ⟨rfl, Nat.le_refl _⟩ (hQ _ _ hW)
theorem b148_L_isStep {b e k : Nat} (hb : b < e) (he : e ≤ 64) (hk : k < s.1.length + 1) (ht : t < 16) (hW : W3 h s (mS t s)) (hQ : ∀ h' s', W3 h' s' (mS t s') → Q (some (.int 1)) h') : J m_L_isStep 7 0 0 0 0 148 [some (.ref 1), some (.ref 57), some (.int (nI t)), some (.int x), some (.int y), some (.int z), some (.int (nI s.1.length)), some (.int (nI b)), some (.int (nI e)), some (.int (nI k)), none, none, none] [] h Q := by
  have hO := hW.hO
  have h4 := hW.h4
  refine J_iload dL_isStep_148 rfl ?_
  refine J_bipush (x := 8) dL_isStep_150 (by decide) ?_
  refine J_callS (As := [_, _]) (rest := []) (M' := m_L_up) dL_isStep_152 ml_R_law_15 gm_L_up sm_yL_up rfl rfl (Nat.le_of_ble_eq_true rfl) (by decide) ⟨rfl, rfl, by decide, by decide⟩ (s_L_up (n := 8) rfl (by decide) (by decide) (fun k5 hk5 => ?_))
  refine J_istore (L' := [_, _, _, _, _, _, _, _, _, _, _, _, _]) dL_isStep_155 (by decide) rfl ?_
  refine J_iload dL_isStep_157 rfl ?_
  refine J_iconst (x := 3) dL_isStep_159 (by decide) ?_
  refine J_ishr dL_isStep_160 ?_
  refine J_iconst (x := 4) dL_isStep_161 (by decide) ?_
  refine J_callS (As := [_, _]) (rest := []) (M' := m_L_up) dL_isStep_162 ml_R_law_15 gm_L_up sm_yL_up rfl rfl (Nat.le_of_ble_eq_true rfl) (by decide) ⟨rfl, rfl, by decide, by decide⟩ (s_L_up (n := 4) rfl (by decide) (by decide) (fun k6 hk6 => ?_))
  refine J_if_ne (tgt := 180) dL_isStep_165 (by decide) (fun c165 => ?_) (fun c165 => ?_)
  · refine J_iload dL_isStep_180 rfl ?_
    refine J_iconst (x := 5) dL_isStep_182 (by decide) ?_
    refine J_ishr dL_isStep_183 ?_
    refine J_bipush (x := 8) dL_isStep_184 (by decide) ?_
    refine J_callS (As := [_, _]) (rest := []) (M' := m_L_up) dL_isStep_186 ml_R_law_15 gm_L_up sm_yL_up rfl rfl (Nat.le_of_ble_eq_true rfl) (by decide) ⟨rfl, rfl, by decide, by decide⟩ (s_L_up (n := 8) rfl (by decide) (by decide) (fun k8 hk8 => ?_))
    refine J_istore (L' := [_, _, _, _, _, _, _, _, _, _, _, _, _]) dL_isStep_189 (by decide) rfl ?_
    exact b191_L_isStep hb he hk (by omega) (by omega) ht hW hQ
  · refine J_iload dL_isStep_168 rfl ?_
    refine J_iconst (x := 5) dL_isStep_170 (by decide) ?_
    refine J_ishr dL_isStep_171 ?_
    refine J_bipush (x := 16) dL_isStep_172 (by decide) ?_
    refine J_callS (As := [_, _]) (rest := []) (M' := m_L_up) dL_isStep_174 ml_R_law_15 gm_L_up sm_yL_up rfl rfl (Nat.le_of_ble_eq_true rfl) (by decide) ⟨rfl, rfl, by decide, by decide⟩ (s_L_up (n := 16) rfl (by decide) (by decide) (fun k7 hk7 => ?_))
    refine J_goto (tgt := 189) dL_isStep_177 (by decide) ?_
    refine J_istore (L' := [_, _, _, _, _, _, _, _, _, _, _, _, _]) dL_isStep_189 (by decide) rfl ?_
    exact b191_L_isStep hb he hk (by omega) (by omega) ht hW hQ
theorem b279_L_isStep {b e k : Nat} (hb : b < e) (he : e ≤ 64) (hk : k < s.1.length + 1) (ht : t < 16) (hW : W3 h s (mS t s)) (hQ : ∀ h' s', W3 h' s' (mS t s') → Q (some (.int 1)) h') : J m_L_isStep 7 0 0 0 0 279 [some (.ref 1), some (.ref 57), some (.int (nI t)), some (.int x), some (.int y), some (.int z), some (.int (nI s.1.length)), some (.int (nI b)), some (.int (nI e)), some (.int (nI k)), none, none, none] [] h Q := by
  have hO := hW.hO
  have h4 := hW.h4
  obtain ⟨e1, e2, e3⟩ := rem_mk (s := s) (k := k) ht (by omega) h4
  have E1 := congrArg Prod.fst e1
  have E2 := congrArg Prod.snd e1
  dsimp only at E1 E2
  refine J_aload_n dL_isStep_279 rfl ?_
  refine J_iload dL_isStep_280 rfl ?_
  refine J_callV (As := [_]) (rest := []) (M' := m_X6_removeLink) dL_isStep_282 ml_R_law_25 gm_X6_removeLink gv_X6_removeLink hW.1.o hW.b1 rfl rfl rfl (Nat.le_of_ble_eq_true rfl) (by decide) ⟨rfl, rfl, by decide, by decide⟩ (a1_removeLink hW (fun h1 hW1 => ?_))
  replace hW := hW1
  refine J_istore (L' := [_, _, _, _, _, _, _, _, _, _, _, _, _]) dL_isStep_285 (by decide) rfl ?_
  refine J_iload dL_isStep_287 rfl ?_
  refine J_aload_n dL_isStep_289 rfl ?_
  refine J_iload dL_isStep_290 rfl ?_
  refine J_callV (As := [_]) (rest := [_]) (M' := m_X6_removeLink) dL_isStep_292 ml_R_law_25 gm_X6_removeLink gv_X6_removeLink hW.2.1.o hW.b2 rfl rfl rfl (Nat.le_of_ble_eq_true rfl) (by decide) ⟨rfl, rfl, by decide, by decide⟩ (a2_removeLink hW (fun h1 hW1 => ?_))
  replace hW := hW1
  rw [E1]
  rw [E2] at hW
  refine J_icmp_ne (tgt := 327) dL_isStep_295 (by decide) (fun c295 => absurd rfl c295) (fun c295 => ?_)
  refine J_iload dL_isStep_298 rfl ?_
  refine J_iload dL_isStep_300 rfl ?_
  refine J_icmp_ne (tgt := 314) dL_isStep_302 (by decide) (fun c302 => ?_) (fun c302 => ?_)
  · have n3 : k ≠ s.1.length := fun q => c302 (by rw [q])
    refine J_iload dL_isStep_314 rfl ?_
    refine J_iload dL_isStep_316 rfl ?_
    refine J_iconst (x := 1) dL_isStep_318 (by decide) ?_
    refine J_isub dL_isStep_319 ?_
    refine J_icmp_ne (tgt := 327) dL_isStep_320 (by decide) (fun c320 => absurd ((e3 n3).trans (pk_sub (a := s.1.length) (b := 1) (by omega)).symm) c320) (fun c320 => ?_)
    refine J_iconst (x := 1) dL_isStep_323 (by decide) ?_
    refine J_goto (tgt := 328) dL_isStep_324 (by decide) ?_
    exact J_zret dL_isStep_328 rfl (by first | exact Or.inl rfl | exact Or.inr rfl) ⟨rfl, Nat.le_refl _⟩ (hQ _ _ hW)
  · refine J_iload dL_isStep_305 rfl ?_
    refine J_iconst (x := -1) dL_isStep_307 (by decide) ?_
    refine J_icmp_ne (tgt := 327) dL_isStep_308 (by decide) (fun c308 => absurd (e2 ((nI_eq (by omega) (by omega)).mp c302)) c308) (fun c308 => ?_)
    refine J_goto (tgt := 323) dL_isStep_311 (by decide) ?_
    refine J_iconst (x := 1) dL_isStep_323 (by decide) ?_
    refine J_goto (tgt := 328) dL_isStep_324 (by decide) ?_
    exact J_zret dL_isStep_328 rfl (by first | exact Or.inl rfl | exact Or.inr rfl) ⟨rfl, Nat.le_refl _⟩ (hQ _ _ hW)
theorem b329_L_isStep {b e k : Nat} (hb : b < e) (he : e ≤ 64) (hk : k < s.1.length + 1) (ht : t < 16) (hW : W3 h s (mS t s)) (hQ : ∀ h' s', W3 h' s' (mS t s') → Q (some (.int 1)) h') : J m_L_isStep 7 0 0 0 0 329 [some (.ref 1), some (.ref 57), some (.int (nI t)), some (.int x), some (.int y), some (.int z), some (.int (nI s.1.length)), some (.int (nI b)), some (.int (nI e)), some (.int (nI k)), none, none, none] [] h Q := by
  have hO := hW.hO
  have h4 := hW.h4
  obtain ⟨e1, e2⟩ := life_mk (s := s) (k := k) ht hO (by omega) h4 hb he
  have E1 := congrArg Prod.fst e1
  have E2 := congrArg Prod.snd e1
  dsimp only at E1 E2
  refine J_aload_n dL_isStep_329 rfl ?_
  refine J_iload dL_isStep_330 rfl ?_
  refine J_iload dL_isStep_332 rfl ?_
  refine J_iload dL_isStep_334 rfl ?_
  refine J_callV (As := [_, _, _]) (rest := []) (M' := m_X6_setLife) dL_isStep_336 ml_R_law_28 gm_X6_setLife gv_X6_setLife hW.1.o hW.b1 rfl rfl rfl (Nat.le_of_ble_eq_true rfl) (by decide) ⟨rfl, rfl, by decide, by decide⟩ (a1_setLife hW (fun h1 hW1 => ?_))
  replace hW := hW1
  refine J_istore (L' := [_, _, _, _, _, _, _, _, _, _, _, _, _]) dL_isStep_339 (by decide) rfl ?_
  refine J_iload dL_isStep_341 rfl ?_
  refine J_aload_n dL_isStep_343 rfl ?_
  refine J_iload dL_isStep_344 rfl ?_
  refine J_bipush (x := 64) dL_isStep_346 (by decide) ?_
  refine J_iload dL_isStep_348 rfl ?_
  refine J_isub dL_isStep_350 ?_
  rw [show (64 : Int32) - nI e = nI (64 - e) from pk_sub (a := 64) (by omega)]
  refine J_bipush (x := 64) dL_isStep_351 (by decide) ?_
  refine J_iload dL_isStep_353 rfl ?_
  refine J_isub dL_isStep_355 ?_
  rw [show (64 : Int32) - nI b = nI (64 - b) from pk_sub (a := 64) (by omega)]
  refine J_callV (As := [_, _, _]) (rest := [_]) (M' := m_X6_setLife) dL_isStep_356 ml_R_law_28 gm_X6_setLife gv_X6_setLife hW.2.1.o hW.b2 rfl rfl rfl (Nat.le_of_ble_eq_true rfl) (by decide) ⟨rfl, rfl, by decide, by decide⟩ (a2_setLife hW (fun h1 hW1 => ?_))
  replace hW := hW1
  rw [E1]
  rw [E2] at hW
  refine J_icmp_ne (tgt := 381) dL_isStep_359 (by decide) (fun c359 => absurd rfl c359) (fun c359 => ?_)
  refine J_iload dL_isStep_362 rfl ?_
  refine J_if_lt (tgt := 377) dL_isStep_364 (by decide) (fun c364 => ?_) (fun c364 => ?_)
  · refine J_iconst (x := 1) dL_isStep_377 (by decide) ?_
    refine J_goto (tgt := 382) dL_isStep_378 (by decide) ?_
    exact J_zret dL_isStep_382 rfl (by first | exact Or.inl rfl | exact Or.inr rfl) ⟨rfl, Nat.le_refl _⟩ (hQ _ _ hW)
  · have e3 : (f_life (nI k) (nI b) (nI e) s).1 = nI e - nI b := by
      rcases e2 with q | q | q
      · exact absurd (by rw [q]; decide) c364
      · exact absurd (by rw [q]; decide) c364
      · rw [q, pk_sub (by omega)]
    refine J_iload dL_isStep_367 rfl ?_
    refine J_iload dL_isStep_369 rfl ?_
    refine J_iload dL_isStep_371 rfl ?_
    refine J_isub dL_isStep_373 ?_
    refine J_icmp_ne (tgt := 381) dL_isStep_374 (by decide) (fun c374 => absurd e3 c374) (fun c374 => ?_)
    refine J_iconst (x := 1) dL_isStep_377 (by decide) ?_
    refine J_goto (tgt := 382) dL_isStep_378 (by decide) ?_
    exact J_zret dL_isStep_382 rfl (by first | exact Or.inl rfl | exact Or.inr rfl) ⟨rfl, Nat.le_refl _⟩ (hQ _ _ hW)
theorem b383_L_isStep {b e k : Nat} (hb : b < e) (he : e ≤ 64) (hk : k < s.1.length + 1) (ht : t < 16) (hW : W3 h s (mS t s)) (hQ : ∀ h' s', W3 h' s' (mS t s') → Q (some (.int 1)) h') : J m_L_isStep 7 0 0 0 0 383 [some (.ref 1), some (.ref 57), some (.int (nI t)), some (.int x), some (.int y), some (.int z), some (.int (nI s.1.length)), some (.int (nI b)), some (.int (nI e)), some (.int (nI k)), none, none, none] [] h Q := by
  have hO := hW.hO
  have h4 := hW.h4
  obtain ⟨e1, e2, e3⟩ := clear_mk (s := s) (t := t) (m := b) hO (by omega)
  have E1 := congrArg Prod.fst e1
  have E2 := congrArg Prod.snd e1
  dsimp only at E1 E2
  have hcn : s.1.countP (lvB (b : Int)) ≤ s.1.length := List.countP_le_length
  refine J_aload_n dL_isStep_383 rfl ?_
  refine J_iload dL_isStep_384 rfl ?_
  refine J_iconst (x := 0) dL_isStep_386 (by decide) ?_
  refine J_callV (As := [_, _]) (rest := []) (M' := m_X6_moment) dL_isStep_387 ml_R_law_32 gm_X6_moment gv_X6_moment hW.1.o hW.b1 rfl rfl rfl (Nat.le_of_ble_eq_true rfl) (by decide) ⟨rfl, rfl, by decide, by decide⟩ (q1_moment hW (fun h1 hW1 => ?_))
  replace hW := hW1
  rw [v_m0 (show b < 64 by omega)]
  refine J_istore (L' := [_, _, _, _, _, _, _, _, _, _, _, _, _]) dL_isStep_390 (by decide) rfl ?_
  refine J_aload_n dL_isStep_392 rfl ?_
  refine J_iload dL_isStep_393 rfl ?_
  refine J_callV (As := [_]) (rest := []) (M' := m_X6_clear) dL_isStep_395 ml_R_law_35 gm_X6_clear gv_X6_clear hW.1.o hW.b1 rfl rfl rfl (Nat.le_of_ble_eq_true rfl) (by decide) ⟨rfl, rfl, by decide, by decide⟩ (a1_clear hW (fun h1 hW1 => ?_))
  replace hW := hW1
  refine J_istore (L' := [_, _, _, _, _, _, _, _, _, _, _, _, _]) dL_isStep_398 (by decide) rfl ?_
  refine J_iload dL_isStep_400 rfl ?_
  refine J_aload_n dL_isStep_402 rfl ?_
  refine J_bipush (x := 63) dL_isStep_403 (by decide) ?_
  refine J_iload dL_isStep_405 rfl ?_
  refine J_isub dL_isStep_407 ?_
  rw [show (63 : Int32) - nI b = nI (63 - b) from pk_sub (a := 63) (by omega)]
  refine J_callV (As := [_]) (rest := [_]) (M' := m_X6_clear) dL_isStep_408 ml_R_law_35 gm_X6_clear gv_X6_clear hW.2.1.o hW.b2 rfl rfl rfl (Nat.le_of_ble_eq_true rfl) (by decide) ⟨rfl, rfl, by decide, by decide⟩ (a2_clear hW (fun h1 hW1 => ?_))
  replace hW := hW1
  rw [E1]
  rw [E2] at hW
  refine J_icmp_ne (tgt := 452) dL_isStep_411 (by decide) (fun c411 => absurd rfl c411) (fun c411 => ?_)
  refine J_iload dL_isStep_414 rfl ?_
  refine J_if_ne (tgt := 429) dL_isStep_416 (by decide) (fun c416 => ?_) (fun c416 => ?_)
  · have n3 : s.1.countP (lvB (b : Int)) ≠ 0 := fun q => c416 (by rw [q]; rfl)
    refine J_iload dL_isStep_429 rfl ?_
    refine J_iload dL_isStep_431 rfl ?_
    refine J_icmp_ne (tgt := 452) dL_isStep_433 (by decide) (fun c433 => absurd (e3 n3).1 c433) (fun c433 => ?_)
    refine J_aload_n dL_isStep_436 rfl ?_
    refine J_iload dL_isStep_437 rfl ?_
    refine J_iconst (x := 1) dL_isStep_439 (by decide) ?_
    refine J_callV (As := [_, _]) (rest := []) (M' := m_X6_moment) dL_isStep_440 ml_R_law_32 gm_X6_moment gv_X6_moment hW.1.o hW.b1 rfl rfl rfl (Nat.le_of_ble_eq_true rfl) (by decide) ⟨rfl, rfl, by decide, by decide⟩ (q1_moment hW (fun h1 hW1 => ?_))
    replace hW := hW1
    rw [v_m1 (show b < 64 by omega), (e3 n3).2, pts_0 cnt_flt]
    refine J_bipush (x := 16) dL_isStep_443 (by decide) ?_
    refine J_icmp_ne (tgt := 452) dL_isStep_445 (by decide) (fun c445 => absurd rfl c445) (fun c445 => ?_)
    refine J_iconst (x := 1) dL_isStep_448 (by decide) ?_
    refine J_goto (tgt := 453) dL_isStep_449 (by decide) ?_
    exact J_zret dL_isStep_453 rfl (by first | exact Or.inl rfl | exact Or.inr rfl) ⟨rfl, Nat.le_refl _⟩ (hQ _ _ hW)
  · refine J_iload dL_isStep_419 rfl ?_
    refine J_bipush (x := -5) dL_isStep_421 (by decide) ?_
    refine J_icmp_ne (tgt := 452) dL_isStep_423 (by decide) (fun c423 => absurd (e2 ((nI_eq (b := 0) (by omega) (by omega)).mp c416)) c423) (fun c423 => ?_)
    refine J_goto (tgt := 448) dL_isStep_426 (by decide) ?_
    refine J_iconst (x := 1) dL_isStep_448 (by decide) ?_
    refine J_goto (tgt := 453) dL_isStep_449 (by decide) ?_
    exact J_zret dL_isStep_453 rfl (by first | exact Or.inl rfl | exact Or.inr rfl) ⟨rfl, Nat.le_refl _⟩ (hQ _ _ hW)
theorem b454_L_isStep {b e k : Nat} (hb : b < e) (he : e ≤ 64) (hk : k < s.1.length + 1) (ht : t < 16) (hW : W3 h s (mS t s)) (hQ : ∀ h' s', W3 h' s' (mS t s') → Q (some (.int 1)) h') : J m_L_isStep 7 0 0 0 0 454 [some (.ref 1), some (.ref 57), some (.int (nI t)), some (.int x), some (.int y), some (.int z), some (.int (nI s.1.length)), some (.int (nI b)), some (.int (nI e)), some (.int (nI k)), none, none, none] [] h Q := by
  have hO := hW.hO
  have h4 := hW.h4
  have e1 := undo_mk (t := t) (s := s)
  have E1 := congrArg Prod.fst e1
  have E2 := congrArg Prod.snd e1
  dsimp only at E1 E2
  refine J_aload_n dL_isStep_454 rfl ?_
  refine J_bipush (x := 7) dL_isStep_455 (by decide) ?_
  refine J_callV (As := [_]) (rest := []) (M' := m_X6_count) dL_isStep_457 ml_R_law_9 gm_X6_count gv_X6_count hW.1.o hW.b1 rfl rfl rfl (Nat.le_of_ble_eq_true rfl) (by decide) ⟨rfl, rfl, by decide, by decide⟩ (q1_count hW (fun h1 hW1 => ?_))
  replace hW := hW1
  rw [v_c7]
  refine J_if_eq (tgt := 474) dL_isStep_460 (by decide) (fun c460 => ?_) (fun c460 => ?_)
  · refine J_iconst (x := 1) dL_isStep_474 (by decide) ?_
    refine J_goto (tgt := 479) dL_isStep_475 (by decide) ?_
    exact J_zret dL_isStep_479 rfl (by first | exact Or.inl rfl | exact Or.inr rfl) ⟨rfl, Nat.le_refl _⟩ (hQ _ _ hW)
  · refine J_aload_n dL_isStep_463 rfl ?_
    refine J_callV (As := []) (rest := []) (M' := m_X6_undo) dL_isStep_464 ml_R_law_38 gm_X6_undo gv_X6_undo hW.1.o hW.b1 rfl rfl rfl (Nat.le_of_ble_eq_true rfl) (by decide) ⟨rfl, rfl, by decide, by decide⟩ (a1_undo hW (fun h1 hW1 => ?_))
    replace hW := hW1
    refine J_aload_n dL_isStep_467 rfl ?_
    refine J_callV (As := []) (rest := [_]) (M' := m_X6_undo) dL_isStep_468 ml_R_law_38 gm_X6_undo gv_X6_undo hW.2.1.o hW.b2 rfl rfl rfl (Nat.le_of_ble_eq_true rfl) (by decide) ⟨rfl, rfl, by decide, by decide⟩ (a2_undo hW (fun h1 hW1 => ?_))
    replace hW := hW1
    rw [E1]
    rw [E2] at hW
    refine J_icmp_ne (tgt := 478) dL_isStep_471 (by decide) (fun c471 => absurd rfl c471) (fun c471 => ?_)
    refine J_iconst (x := 1) dL_isStep_474 (by decide) ?_
    refine J_goto (tgt := 479) dL_isStep_475 (by decide) ?_
    exact J_zret dL_isStep_479 rfl (by first | exact Or.inl rfl | exact Or.inr rfl) ⟨rfl, Nat.le_refl _⟩ (hQ _ _ hW)
theorem b480_L_isStep {b e k : Nat} (hb : b < e) (he : e ≤ 64) (hk : k < s.1.length + 1) (ht : t < 16) (hW : W3 h s (mS t s)) (hQ : ∀ h' s', W3 h' s' (mS t s') → Q (some (.int 1)) h') : J m_L_isStep 7 0 0 0 0 480 [some (.ref 1), some (.ref 57), some (.int (nI t)), some (.int x), some (.int y), some (.int z), some (.int (nI s.1.length)), some (.int (nI b)), some (.int (nI e)), some (.int (nI k)), none, none, none] [] h Q := by
  have hO := hW.hO
  have h4 := hW.h4
  have e1 := keep_mk (t := t) (s := s)
  have E1 := congrArg Prod.fst e1
  have E2 := congrArg Prod.snd e1
  dsimp only at E1 E2
  have g1 := rest_mk (t := t) (s := (f_keep s).2)
  have G1 := congrArg Prod.fst g1
  have G2 := congrArg Prod.snd g1
  dsimp only at G1 G2
  refine J_iload dL_isStep_480 rfl ?_
  refine J_iconst (x := 3) dL_isStep_482 (by decide) ?_
  refine J_callS (As := [_, _]) (rest := []) (M' := m_L_up) dL_isStep_483 ml_R_law_15 gm_L_up sm_yL_up rfl rfl (Nat.le_of_ble_eq_true rfl) (by decide) ⟨rfl, rfl, by decide, by decide⟩ (s_L_up (n := 3) rfl (by decide) (by decide) (fun k5 hk5 => ?_))
  refine J_if_gt (tgt := 518) dL_isStep_486 (by decide) (fun c486 => ?_) (fun c486 => ?_)
  · refine J_iconst (x := 1) dL_isStep_518 (by decide) ?_
    refine J_goto (tgt := 523) dL_isStep_519 (by decide) ?_
    exact J_zret dL_isStep_523 rfl (by first | exact Or.inl rfl | exact Or.inr rfl) ⟨rfl, Nat.le_refl _⟩ (hQ _ _ hW)
  · refine J_aload_n dL_isStep_489 rfl ?_
    refine J_callV (As := []) (rest := []) (M' := m_X6_keep) dL_isStep_490 ml_R_law_42 gm_X6_keep gv_X6_keep hW.1.o hW.b1 rfl rfl rfl (Nat.le_of_ble_eq_true rfl) (by decide) ⟨rfl, rfl, by decide, by decide⟩ (a1_keep hW (fun h1 hW1 => ?_))
    replace hW := hW1
    refine J_aload_n dL_isStep_493 rfl ?_
    refine J_callV (As := []) (rest := [_]) (M' := m_X6_keep) dL_isStep_494 ml_R_law_42 gm_X6_keep gv_X6_keep hW.2.1.o hW.b2 rfl rfl rfl (Nat.le_of_ble_eq_true rfl) (by decide) ⟨rfl, rfl, by decide, by decide⟩ (a2_keep hW (fun h1 hW1 => ?_))
    replace hW := hW1
    rw [E1]
    rw [E2] at hW
    refine J_icmp_ne (tgt := 522) dL_isStep_497 (by decide) (fun c497 => absurd rfl c497) (fun c497 => ?_)
    refine J_aload_n dL_isStep_500 rfl ?_
    refine J_callV (As := []) (rest := []) (M' := m_X6_restore) dL_isStep_501 ml_R_law_45 gm_X6_restore gv_X6_restore hW.1.o hW.b1 rfl rfl rfl (Nat.le_of_ble_eq_true rfl) (by decide) ⟨rfl, rfl, by decide, by decide⟩ (a1_restore hW (fun h1 hW1 => ?_))
    replace hW := hW1
    refine J_iload dL_isStep_504 rfl ?_
    refine J_icmp_ne (tgt := 522) dL_isStep_506 (by decide) (fun c506 => absurd rfl c506) (fun c506 => ?_)
    refine J_aload_n dL_isStep_509 rfl ?_
    refine J_callV (As := []) (rest := []) (M' := m_X6_restore) dL_isStep_510 ml_R_law_45 gm_X6_restore gv_X6_restore hW.2.1.o hW.b2 rfl rfl rfl (Nat.le_of_ble_eq_true rfl) (by decide) ⟨rfl, rfl, by decide, by decide⟩ (a2_restore hW (fun h1 hW1 => ?_))
    replace hW := hW1
    rw [G1]
    rw [G2] at hW
    refine J_iload dL_isStep_513 rfl ?_
    refine J_icmp_ne (tgt := 522) dL_isStep_515 (by decide) (fun c515 => absurd rfl c515) (fun c515 => ?_)
    refine J_iconst (x := 1) dL_isStep_518 (by decide) ?_
    refine J_goto (tgt := 523) dL_isStep_519 (by decide) ?_
    exact J_zret dL_isStep_523 rfl (by first | exact Or.inl rfl | exact Or.inr rfl) ⟨rfl, Nat.le_refl _⟩ (hQ _ _ hW)
theorem b73_L_isStep {b e : Nat} (hb : b < e) (he : e ≤ 64) (ht : t < 16) (hW : W3 h s (mS t s)) (hQ : ∀ h' s', W3 h' s' (mS t s') → Q (some (.int 1)) h') : J m_L_isStep 7 0 0 0 0 73 [some (.ref 1), some (.ref 57), some (.int (nI t)), some (.int x), some (.int y), some (.int z), some (.int (nI s.1.length)), some (.int (nI b)), some (.int (nI e)), none, none, none, none] [] h Q := by
  have hO := hW.hO
  have h4 := hW.h4
  refine J_iload dL_isStep_73 rfl ?_
  refine J_iload dL_isStep_75 rfl ?_
  refine J_iconst (x := 1) dL_isStep_77 (by decide) ?_
  refine J_iadd dL_isStep_78 ?_
  refine J_callS (As := [_, _]) (rest := []) (M' := m_L_up) dL_isStep_79 ml_R_law_15 gm_L_up sm_yL_up rfl rfl (Nat.le_of_ble_eq_true rfl) (by decide) ⟨rfl, rfl, by decide, by decide⟩ (s_L_up (n := s.1.length + 1) (nI_p1q _) (by omega) (by omega) (fun k hk => ?_))
  refine J_istore (L' := [_, _, _, _, _, _, _, _, _, _, _, _, _]) dL_isStep_82 (by decide) rfl ?_
  refine J_iload_n dL_isStep_84 rfl ?_
  refine J_bipush (x := 12) dL_isStep_85 (by decide) ?_
  refine J_callS (As := [_, _]) (rest := []) (M' := m_L_up) dL_isStep_87 ml_R_law_15 gm_L_up sm_yL_up rfl rfl (Nat.le_of_ble_eq_true rfl) (by decide) ⟨rfl, rfl, by decide, by decide⟩ (s_L_up (n := 12) rfl (by decide) (by decide) (fun k4 hk4 => ?_))
  generalize nI k4 = w
  rcases sw_of w 11 (by decide) with hsw | ⟨jsw, hjsw, rfl⟩
  · refine J_tsOut (tgt := 480) dL_isStep_90 (by rcases hsw with q | q; exact Or.inl q; exact Or.inr (by omega)) (by decide) ?_
    exact b480_L_isStep hb he hk ht hW hQ
  · rcases (show jsw = 0 ∨ jsw = 1 ∨ jsw = 2 ∨ jsw = 3 ∨ jsw = 4 ∨ jsw = 5 ∨ jsw = 6 ∨ jsw = 7 ∨ jsw = 8 ∨ jsw = 9 ∨ jsw = 10 by omega) with rfl | rfl | rfl | rfl | rfl | rfl | rfl | rfl | rfl | rfl | rfl
    · refine J_tsIn (off := 58) (tgt := 148) dL_isStep_90 (by decide) (by decide) (by decide) (by decide) ?_
      exact b148_L_isStep hb he hk ht hW hQ
    · refine J_tsIn (off := 58) (tgt := 148) dL_isStep_90 (by decide) (by decide) (by decide) (by decide) ?_
      exact b148_L_isStep hb he hk ht hW hQ
    · refine J_tsIn (off := 58) (tgt := 148) dL_isStep_90 (by decide) (by decide) (by decide) (by decide) ?_
      exact b148_L_isStep hb he hk ht hW hQ
    · refine J_tsIn (off := 58) (tgt := 148) dL_isStep_90 (by decide) (by decide) (by decide) (by decide) ?_
      exact b148_L_isStep hb he hk ht hW hQ
    · refine J_tsIn (off := 58) (tgt := 148) dL_isStep_90 (by decide) (by decide) (by decide) (by decide) ?_
      exact b148_L_isStep hb he hk ht hW hQ
    · refine J_tsIn (off := 58) (tgt := 148) dL_isStep_90 (by decide) (by decide) (by decide) (by decide) ?_
      exact b148_L_isStep hb he hk ht hW hQ
    · refine J_tsIn (off := 189) (tgt := 279) dL_isStep_90 (by decide) (by decide) (by decide) (by decide) ?_
      exact b279_L_isStep hb he hk ht hW hQ
    · refine J_tsIn (off := 239) (tgt := 329) dL_isStep_90 (by decide) (by decide) (by decide) (by decide) ?_
      exact b329_L_isStep hb he hk ht hW hQ
    · refine J_tsIn (off := 239) (tgt := 329) dL_isStep_90 (by decide) (by decide) (by decide) (by decide) ?_
      exact b329_L_isStep hb he hk ht hW hQ
    · refine J_tsIn (off := 293) (tgt := 383) dL_isStep_90 (by decide) (by decide) (by decide) (by decide) ?_
      exact b383_L_isStep hb he hk ht hW hQ
    · refine J_tsIn (off := 364) (tgt := 454) dL_isStep_90 (by decide) (by decide) (by decide) (by decide) ?_
      exact b454_L_isStep hb he hk ht hW hQ
theorem b36_L_isStep {b : Nat} (hb : b < 64) (ht : t < 16) (hW : W3 h s (mS t s)) (hQ : ∀ h' s', W3 h' s' (mS t s') → Q (some (.int 1)) h') : J m_L_isStep 7 0 0 0 0 36 [some (.ref 1), some (.ref 57), some (.int (nI t)), some (.int x), some (.int y), some (.int z), some (.int (nI s.1.length)), some (.int (nI b)), none, none, none, none, none] [] h Q := by
  have hO := hW.hO
  have h4 := hW.h4
  refine J_iload dL_isStep_36 rfl ?_
  refine J_bipush (x := 9) dL_isStep_38 (by decide) ?_
  refine J_ishr dL_isStep_40 ?_
  refine J_iconst (x := 4) dL_isStep_41 (by decide) ?_
  refine J_callS (As := [_, _]) (rest := []) (M' := m_L_up) dL_isStep_42 ml_R_law_15 gm_L_up sm_yL_up rfl rfl (Nat.le_of_ble_eq_true rfl) (by decide) ⟨rfl, rfl, by decide, by decide⟩ (s_L_up (n := 4) rfl (by decide) (by decide) (fun k2 hk2 => ?_))
  refine J_if_ne (tgt := 53) dL_isStep_45 (by decide) (fun c45 => ?_) (fun c45 => ?_)
  · refine J_iload dL_isStep_53 rfl ?_
    refine J_iconst (x := 1) dL_isStep_55 (by decide) ?_
    refine J_iadd dL_isStep_56 ?_
    refine J_iload dL_isStep_57 rfl ?_
    refine J_bipush (x := 11) dL_isStep_59 (by decide) ?_
    refine J_ishr dL_isStep_61 ?_
    refine J_bipush (x := 64) dL_isStep_62 (by decide) ?_
    refine J_iload dL_isStep_64 rfl ?_
    refine J_isub dL_isStep_66 ?_
    refine J_callS (As := [_, _]) (rest := [_]) (M' := m_L_up) dL_isStep_67 ml_R_law_15 gm_L_up sm_yL_up rfl rfl (Nat.le_of_ble_eq_true rfl) (by decide) ⟨rfl, rfl, by decide, by decide⟩ (s_L_up (n := 64 - b) (pk_sub (a := 64) (by omega)) (by omega) (by omega) (fun k3 hk3 => ?_))
    refine J_iadd dL_isStep_70 ?_
    rw [nI_p1q b, nI_add]
    refine J_istore (L' := [_, _, _, _, _, _, _, _, _, _, _, _, _]) dL_isStep_71 (by decide) rfl ?_
    exact b73_L_isStep (e := b + 1 + k3) (by omega) (by omega) ht hW hQ
  · refine J_bipush (x := 64) dL_isStep_48 (by decide) ?_
    refine J_goto (tgt := 71) dL_isStep_50 (by decide) ?_
    refine J_istore (L' := [_, _, _, _, _, _, _, _, _, _, _, _, _]) dL_isStep_71 (by decide) rfl ?_
    exact b73_L_isStep (e := 64) hb (by omega) ht hW hQ
theorem s_L_isStep (ht : t < 16) (hW : W3 h s (mS t s)) (hQ : ∀ h' s', W3 h' s' (mS t s') → Q (some (.int 1)) h') : MJ m_L_isStep 7 0 0 [.ref 1, .ref 57, .int (nI t), .int x, .int y] h Q := by
  have h4 := hW.h4
  refine MJ_of_J (L := [some (.ref 1), some (.ref 57), some (.int (nI t)), some (.int x), some (.int y), none, none, none, none, none, none, none, none]) (by decide +kernel) rfl (Nat.le_of_ble_eq_true rfl) rfl ?_
  refine J_iload_n dL_isStep_0 rfl ?_
  refine J_iconst (x := 4) dL_isStep_1 (by decide) ?_
  refine J_ishr dL_isStep_2 ?_
  refine J_istore (L' := [_, _, _, _, _, _, _, _, _, _, _, _, _]) dL_isStep_3 (by decide) rfl ?_
  refine J_aload_n dL_isStep_5 rfl ?_
  refine J_iconst (x := 0) dL_isStep_6 (by decide) ?_
  refine J_callV (As := [_]) (rest := []) (M' := m_X6_count) dL_isStep_7 ml_R_law_9 gm_X6_count gv_X6_count hW.1.o hW.b1 rfl rfl rfl (Nat.le_of_ble_eq_true rfl) (by decide) ⟨rfl, rfl, by decide, by decide⟩ (q1_count hW (fun h1 hW1 => ?_))
  replace hW := hW1
  rw [v_c0]
  refine J_istore (L' := [_, _, _, _, _, _, _, _, _, _, _, _, _]) dL_isStep_10 (by decide) rfl ?_
  refine J_iload dL_isStep_12 rfl ?_
  refine J_iconst (x := 5) dL_isStep_14 (by decide) ?_
  refine J_callS (As := [_, _]) (rest := []) (M' := m_L_up) dL_isStep_15 ml_R_law_15 gm_L_up sm_yL_up rfl rfl (Nat.le_of_ble_eq_true rfl) (by decide) ⟨rfl, rfl, by decide, by decide⟩ (s_L_up (n := 5) rfl (by decide) (by decide) (fun k1 hk1 => ?_))
  refine J_if_ne (tgt := 25) dL_isStep_18 (by decide) (fun c18 => ?_) (fun c18 => ?_)
  · refine J_iload dL_isStep_25 rfl ?_
    refine J_iconst (x := 3) dL_isStep_27 (by decide) ?_
    refine J_ishr dL_isStep_28 ?_
    refine J_bipush (x := 64) dL_isStep_29 (by decide) ?_
    refine J_callS (As := [_, _]) (rest := []) (M' := m_L_up) dL_isStep_31 ml_R_law_15 gm_L_up sm_yL_up rfl rfl (Nat.le_of_ble_eq_true rfl) (by decide) ⟨rfl, rfl, by decide, by decide⟩ (s_L_up (n := 64) rfl (by decide) (by decide) (fun k2 hk2 => ?_))
    refine J_istore (L' := [_, _, _, _, _, _, _, _, _, _, _, _, _]) dL_isStep_34 (by decide) rfl ?_
    exact b36_L_isStep (b := k2) hk2 ht hW hQ
  · refine J_iconst (x := 0) dL_isStep_21 (by decide) ?_
    refine J_goto (tgt := 34) dL_isStep_22 (by decide) ?_
    refine J_istore (L' := [_, _, _, _, _, _, _, _, _, _, _, _, _]) dL_isStep_34 (by decide) rfl ?_
    exact b36_L_isStep (b := 0) (by decide) ht hW hQ
end Step
