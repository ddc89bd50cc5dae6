/-! the law: two objects alike -/
section Alike
variable {h : g_H} {Q : Option Value → g_H → Prop} {t : Nat} {x : Int32} {s : St}
theorem e_L_areAlike {w8 : Int32} {m a1 b1 : Nat} (ht : t < 16) (hO : ∀ x ∈ s.1, okK x) (h4 : s.1.length ≤ 40) (hm : m < 64) (ha : a1 < 16) (hb : b1 < 16) (hQ : ∀ h', W3 h' s (mS t s) → Q (some (.int 1)) h') (hW : W3 h s (mS t s)) : J m_L_areAlike 7 0 0 0 0 431 [some (.ref 1), some (.ref 57), some (.int (nI t)), some (.int x), some (.int 1), some (.int (nI m)), some (.int (nI a1)), some (.int (nI b1)), some (.int w8), none] [] h Q := by
  obtain ⟨T0, T3, T2⟩ := al_t (s := s) (t := t) ht hO ha hb
  refine J_aload_n dL_areAlike_431 rfl ?_
  refine J_iload dL_areAlike_432 rfl ?_
  refine J_iload dL_areAlike_434 rfl ?_
  refine J_iconst (x := 1) dL_areAlike_436 (by decide) ?_
  refine J_callV (As := [_, _, _]) (rest := []) (M' := m_X6_together) dL_areAlike_437 ml_R_law_57 gm_X6_together gv_X6_together hW.1.o hW.b1 rfl rfl rfl (Nat.le_of_ble_eq_true rfl) (by decide) ⟨rfl, rfl, by decide, by decide⟩ (q1_together hW (fun h1 hW1 => ?_))
  replace hW := hW1
  refine J_istore (L' := [_, _, _, _, _, _, _, _, _, _]) dL_areAlike_440 (by decide) rfl ?_
  refine J_aload_n dL_areAlike_442 rfl ?_
  refine J_iload dL_areAlike_443 rfl ?_
  refine J_iload dL_areAlike_445 rfl ?_
  refine J_iconst (x := 2) dL_areAlike_447 (by decide) ?_
  refine J_callV (As := [_, _, _]) (rest := []) (M' := m_X6_together) dL_areAlike_448 ml_R_law_57 gm_X6_together gv_X6_together hW.1.o hW.b1 rfl rfl rfl (Nat.le_of_ble_eq_true rfl) (by decide) ⟨rfl, rfl, by decide, by decide⟩ (q1_together hW (fun h1 hW1 => ?_))
  replace hW := hW1
  refine J_istore (L' := [_, _, _, _, _, _, _, _, _, _]) dL_areAlike_451 (by decide) rfl ?_
  refine J_iload dL_areAlike_453 rfl ?_
  refine J_if_eq (tgt := 610) dL_areAlike_455 (by decide) (fun c455 => absurd c455 (by decide)) (fun c455 => ?_)
  refine J_aload_n dL_areAlike_458 rfl ?_
  refine J_iload dL_areAlike_459 rfl ?_
  refine J_iload dL_areAlike_461 rfl ?_
  refine J_iconst (x := 2) dL_areAlike_463 (by decide) ?_
  refine J_callV (As := [_, _, _]) (rest := []) (M' := m_X6_part) dL_areAlike_464 ml_R_law_60 gm_X6_part gv_X6_part hW.1.o hW.b1 rfl rfl rfl (Nat.le_of_ble_eq_true rfl) (by decide) ⟨rfl, rfl, by decide, by decide⟩ (q1_part hW (fun h1 hW1 => ?_))
  replace hW := hW1
  rw [v_p2 hm ha]
  refine J_iload_n dL_areAlike_467 rfl ?_
  refine J_callS (As := [_, _]) (rest := []) (M' := m_L_there) dL_areAlike_468 ml_R_law_63 gm_L_there sm_yL_there rfl rfl (Nat.le_of_ble_eq_true rfl) (by decide) ⟨rfl, rfl, by decide, by decide⟩ (s_L_there ht (bt_spec (ls := s.1) m a1) (fun r1 hr1 => ?_))
  obtain rfl := al_p ht hO hm ha hr1
  refine J_aload_n dL_areAlike_471 rfl ?_
  refine J_bipush (x := 63) dL_areAlike_472 (by decide) ?_
  refine J_iload dL_areAlike_474 rfl ?_
  refine J_isub dL_areAlike_476 ?_
  rw [show (63 : Int32) - nI m = nI (63 - m) from pk_sub (a := 63) (by omega)]
  refine J_iload dL_areAlike_477 rfl ?_
  refine J_iload_n dL_areAlike_479 rfl ?_
  refine J_ixor dL_areAlike_480 ?_
  rw [xrI t ht a1 ha]
  refine J_iconst (x := 2) dL_areAlike_481 (by decide) ?_
  refine J_callV (As := [_, _, _]) (rest := [_]) (M' := m_X6_part) dL_areAlike_482 ml_R_law_60 gm_X6_part gv_X6_part hW.2.1.o hW.b2 rfl rfl rfl (Nat.le_of_ble_eq_true rfl) (by decide) ⟨rfl, rfl, by decide, by decide⟩ (q2_part hW (fun h1 hW1 => ?_))
  replace hW := hW1
  refine J_icmp_ne (tgt := 610) dL_areAlike_485 (by decide) (fun c485 => absurd rfl c485) (fun c485 => ?_)
  refine J_aload_n dL_areAlike_488 rfl ?_
  refine J_iload dL_areAlike_489 rfl ?_
  refine J_iload dL_areAlike_491 rfl ?_
  refine J_iconst (x := 0) dL_areAlike_493 (by decide) ?_
  refine J_callV (As := [_, _, _]) (rest := []) (M' := m_X6_together) dL_areAlike_494 ml_R_law_57 gm_X6_together gv_X6_together hW.1.o hW.b1 rfl rfl rfl (Nat.le_of_ble_eq_true rfl) (by decide) ⟨rfl, rfl, by decide, by decide⟩ (q1_together hW (fun h1 hW1 => ?_))
  replace hW := hW1
  refine J_aload_n dL_areAlike_497 rfl ?_
  refine J_iload dL_areAlike_498 rfl ?_
  refine J_iload_n dL_areAlike_500 rfl ?_
  refine J_ixor dL_areAlike_501 ?_
  rw [xrI t ht a1 ha]
  refine J_iload dL_areAlike_502 rfl ?_
  refine J_iload_n dL_areAlike_504 rfl ?_
  refine J_ixor dL_areAlike_505 ?_
  rw [xrI t ht b1 hb]
  refine J_iconst (x := 0) dL_areAlike_506 (by decide) ?_
  refine J_callV (As := [_, _, _]) (rest := [_]) (M' := m_X6_together) dL_areAlike_507 ml_R_law_57 gm_X6_together gv_X6_together hW.2.1.o hW.b2 rfl rfl rfl (Nat.le_of_ble_eq_true rfl) (by decide) ⟨rfl, rfl, by decide, by decide⟩ (q2_together hW (fun h1 hW1 => ?_))
  replace hW := hW1
  rw [T0]
  refine J_icmp_ne (tgt := 610) dL_areAlike_510 (by decide) (fun c510 => absurd rfl c510) (fun c510 => ?_)
  refine J_aload_n dL_areAlike_513 rfl ?_
  refine J_iload dL_areAlike_514 rfl ?_
  refine J_iload dL_areAlike_516 rfl ?_
  refine J_iconst (x := 3) dL_areAlike_518 (by decide) ?_
  refine J_callV (As := [_, _, _]) (rest := []) (M' := m_X6_together) dL_areAlike_519 ml_R_law_57 gm_X6_together gv_X6_together hW.1.o hW.b1 rfl rfl rfl (Nat.le_of_ble_eq_true rfl) (by decide) ⟨rfl, rfl, by decide, by decide⟩ (q1_together hW (fun h1 hW1 => ?_))
  replace hW := hW1
  refine J_aload_n dL_areAlike_522 rfl ?_
  refine J_iload dL_areAlike_523 rfl ?_
  refine J_iload_n dL_areAlike_525 rfl ?_
  refine J_ixor dL_areAlike_526 ?_
  rw [xrI t ht a1 ha]
  refine J_iload dL_areAlike_527 rfl ?_
  refine J_iload_n dL_areAlike_529 rfl ?_
  refine J_ixor dL_areAlike_530 ?_
  rw [xrI t ht b1 hb]
  refine J_iconst (x := 3) dL_areAlike_531 (by decide) ?_
  refine J_callV (As := [_, _, _]) (rest := [_]) (M' := m_X6_together) dL_areAlike_532 ml_R_law_57 gm_X6_together gv_X6_together hW.2.1.o hW.b2 rfl rfl rfl (Nat.le_of_ble_eq_true rfl) (by decide) ⟨rfl, rfl, by decide, by decide⟩ (q2_together hW (fun h1 hW1 => ?_))
  replace hW := hW1
  rw [T3]
  refine J_icmp_ne (tgt := 610) dL_areAlike_535 (by decide) (fun c535 => absurd rfl c535) (fun c535 => ?_)
  refine J_iload dL_areAlike_538 rfl ?_
  refine J_if_ge (tgt := 564) dL_areAlike_540 (by decide) (fun c540 => ?_) (fun c540 => ?_)
  · obtain ⟨f, l, q1, q2, q3, q4, q5, q6⟩ : ∃ f l, f < 64 ∧ l < 64 ∧ f_tog (nI a1) (nI b1) 1 s = nI f ∧ f_tog (nI a1) (nI b1) 2 s = nI l ∧ f_tog (nI (a1 ^^^ t)) (nI (b1 ^^^ t)) 2 (mS t s) = nI (63 - f) ∧ f_tog (nI (a1 ^^^ t)) (nI (b1 ^^^ t)) 1 (mS t s) = nI (63 - l) := by
      rcases T2 with ⟨z, -, -⟩ | q
      · rw [z] at c540; exact absurd c540 (by decide)
      · exact q
    refine J_aload_n dL_areAlike_564 rfl ?_
    refine J_iload dL_areAlike_565 rfl ?_
    refine J_iload_n dL_areAlike_567 rfl ?_
    refine J_ixor dL_areAlike_568 ?_
    rw [xrI t ht a1 ha]
    refine J_iload dL_areAlike_569 rfl ?_
    refine J_iload_n dL_areAlike_571 rfl ?_
    refine J_ixor dL_areAlike_572 ?_
    rw [xrI t ht b1 hb]
    refine J_iconst (x := 2) dL_areAlike_573 (by decide) ?_
    refine J_callV (As := [_, _, _]) (rest := []) (M' := m_X6_together) dL_areAlike_574 ml_R_law_57 gm_X6_together gv_X6_together hW.2.1.o hW.b2 rfl rfl rfl (Nat.le_of_ble_eq_true rfl) (by decide) ⟨rfl, rfl, by decide, by decide⟩ (q2_together hW (fun h1 hW1 => ?_))
    replace hW := hW1
    refine J_bipush (x := 63) dL_areAlike_577 (by decide) ?_
    refine J_iload dL_areAlike_579 rfl ?_
    refine J_isub dL_areAlike_581 ?_
    rw [q5, q3]
    rw [show (63 : Int32) - nI f = nI (63 - f) from pk_sub (a := 63) (by omega)]
    refine J_icmp_ne (tgt := 610) dL_areAlike_582 (by decide) (fun c582 => absurd rfl c582) (fun c582 => ?_)
    refine J_aload_n dL_areAlike_585 rfl ?_
    refine J_iload dL_areAlike_586 rfl ?_
    refine J_iload_n dL_areAlike_588 rfl ?_
    refine J_ixor dL_areAlike_589 ?_
    rw [xrI t ht a1 ha]
    refine J_iload dL_areAlike_590 rfl ?_
    refine J_iload_n dL_areAlike_592 rfl ?_
    refine J_ixor dL_areAlike_593 ?_
    rw [xrI t ht b1 hb]
    refine J_iconst (x := 1) dL_areAlike_594 (by decide) ?_
    refine J_callV (As := [_, _, _]) (rest := []) (M' := m_X6_together) dL_areAlike_595 ml_R_law_57 gm_X6_together gv_X6_together hW.2.1.o hW.b2 rfl rfl rfl (Nat.le_of_ble_eq_true rfl) (by decide) ⟨rfl, rfl, by decide, by decide⟩ (q2_together hW (fun h1 hW1 => ?_))
    replace hW := hW1
    refine J_bipush (x := 63) dL_areAlike_598 (by decide) ?_
    refine J_iload dL_areAlike_600 rfl ?_
    refine J_isub dL_areAlike_602 ?_
    rw [q6, q4]
    rw [show (63 : Int32) - nI l = nI (63 - l) from pk_sub (a := 63) (by omega)]
    refine J_icmp_ne (tgt := 610) dL_areAlike_603 (by decide) (fun c603 => absurd rfl c603) (fun c603 => ?_)
    refine J_iconst (x := 1) dL_areAlike_606 (by decide) ?_
    refine J_goto (tgt := 611) dL_areAlike_607 (by decide) ?_
    exact J_zret dL_areAlike_611 rfl (by first | exact Or.inl rfl | exact Or.inr rfl) ⟨rfl, Nat.le_refl _⟩ (hQ _ hW)
  · obtain ⟨z1, z2, z3⟩ : f_tog (nI a1) (nI b1) 1 s = -5 ∧ f_tog (nI a1) (nI b1) 2 s = -5 ∧ f_tog (nI (a1 ^^^ t)) (nI (b1 ^^^ t)) 1 (mS t s) = -5 := by
      rcases T2 with q | ⟨f, l, q1, q2, q3, q4, q5, q6⟩
      · exact q
      · exact absurd (by rw [q3]; exact nI_pos' (by omega)) c540
    refine J_aload_n dL_areAlike_543 rfl ?_
    refine J_iload dL_areAlike_544 rfl ?_
    refine J_iload_n dL_areAlike_546 rfl ?_
    refine J_ixor dL_areAlike_547 ?_
    rw [xrI t ht a1 ha]
    refine J_iload dL_areAlike_548 rfl ?_
    refine J_iload_n dL_areAlike_550 rfl ?_
    refine J_ixor dL_areAlike_551 ?_
    rw [xrI t ht b1 hb]
    refine J_iconst (x := 1) dL_areAlike_552 (by decide) ?_
    refine J_callV (As := [_, _, _]) (rest := []) (M' := m_X6_together) dL_areAlike_553 ml_R_law_57 gm_X6_together gv_X6_together hW.2.1.o hW.b2 rfl rfl rfl (Nat.le_of_ble_eq_true rfl) (by decide) ⟨rfl, rfl, by decide, by decide⟩ (q2_together hW (fun h1 hW1 => ?_))
    replace hW := hW1
    refine J_iload dL_areAlike_556 rfl ?_
    rw [z3, z1]
    refine J_icmp_ne (tgt := 610) dL_areAlike_558 (by decide) (fun c558 => absurd rfl c558) (fun c558 => ?_)
    refine J_goto (tgt := 606) dL_areAlike_561 (by decide) ?_
    refine J_iconst (x := 1) dL_areAlike_606 (by decide) ?_
    refine J_goto (tgt := 611) dL_areAlike_607 (by decide) ?_
    exact J_zret dL_areAlike_611 rfl (by first | exact Or.inl rfl | exact Or.inr rfl) ⟨rfl, Nat.le_refl _⟩ (hQ _ hW)
theorem l4_L_areAlike {m a1 b1 : Nat} (ht : t < 16) (hO : ∀ x ∈ s.1, okK x) (h4 : s.1.length ≤ 40) (hm : m < 64) (ha : a1 < 16) (hb : b1 < 16) (hQ : ∀ h', W3 h' s (mS t s) → Q (some (.int 1)) h') : ∀ (f j : Nat) (h : g_H), 7 - j < f → j ≤ 7 → W3 h s (mS t s) → J m_L_areAlike 7 0 0 0 0 294 [some (.ref 1), some (.ref 57), some (.int (nI t)), some (.int x), some (.int 1), some (.int (nI m)), some (.int (nI a1)), some (.int (nI b1)), some (.int (nI j)), none] [] h Q := by
  intro f
  induction f with
  | zero => intro j h hf; omega
  | succ f ih =>
    intro j h hf hj hW
    refine J_iload dL_areAlike_294 rfl ?_
    refine J_bipush (x := 7) dL_areAlike_296 (by decide) ?_
    refine J_icmp_ge (tgt := 431) dL_areAlike_298 (by decide) (fun c298 => ?_) (fun c298 => ?_)
    · exact e_L_areAlike ht hO h4 hm ha hb hQ hW
    · have c298 : j < 7 := Nat.not_le.mp (fun q => c298 ((nI_leI (a := 7) (b := j) (by omega) (by omega)).mpr q))
      refine J_iload dL_areAlike_301 rfl ?_
      refine J_if_eq (tgt := 422) dL_areAlike_303 (by decide) (fun c303 => absurd c303 (by decide)) (fun c303 => ?_)
      refine J_aload_n dL_areAlike_306 rfl ?_
      refine J_iload dL_areAlike_307 rfl ?_
      refine J_iload dL_areAlike_309 rfl ?_
      refine J_iconst (x := 0) dL_areAlike_311 (by decide) ?_
      refine J_callV (As := [_, _, _]) (rest := []) (M' := m_X6_span) dL_areAlike_312 ml_R_law_54 gm_X6_span gv_X6_span hW.1.o hW.b1 rfl rfl rfl (Nat.le_of_ble_eq_true rfl) (by decide) ⟨rfl, rfl, by decide, by decide⟩ (q1_span hW (fun h1 hW1 => ?_))
      replace hW := hW1
      refine J_bipush (x := 64) dL_areAlike_315 (by decide) ?_
      refine J_aload_n dL_areAlike_317 rfl ?_
      refine J_bipush (x := 63) dL_areAlike_318 (by decide) ?_
      refine J_iload dL_areAlike_320 rfl ?_
      refine J_isub dL_areAlike_322 ?_
      rw [show (63 : Int32) - nI m = nI (63 - m) from pk_sub (a := 63) (by omega)]
      refine J_iload dL_areAlike_323 rfl ?_
      refine J_iconst (x := 0) dL_areAlike_325 (by decide) ?_
      refine J_callV (As := [_, _, _]) (rest := [_, _]) (M' := m_X6_span) dL_areAlike_326 ml_R_law_54 gm_X6_span gv_X6_span hW.2.1.o hW.b2 rfl rfl rfl (Nat.le_of_ble_eq_true rfl) (by decide) ⟨rfl, rfl, by decide, by decide⟩ (q2_span hW (fun h1 hW1 => ?_))
      replace hW := hW1
      refine J_isub dL_areAlike_329 ?_
      refine J_aload_n dL_areAlike_330 rfl ?_
      refine J_bipush (x := 63) dL_areAlike_331 (by decide) ?_
      refine J_iload dL_areAlike_333 rfl ?_
      refine J_isub dL_areAlike_335 ?_
      rw [show (63 : Int32) - nI m = nI (63 - m) from pk_sub (a := 63) (by omega)]
      refine J_iload dL_areAlike_336 rfl ?_
      refine J_iconst (x := 1) dL_areAlike_338 (by decide) ?_
      refine J_callV (As := [_, _, _]) (rest := [_, _]) (M' := m_X6_span) dL_areAlike_339 ml_R_law_54 gm_X6_span gv_X6_span hW.2.1.o hW.b2 rfl rfl rfl (Nat.le_of_ble_eq_true rfl) (by decide) ⟨rfl, rfl, by decide, by decide⟩ (q2_span hW (fun h1 hW1 => ?_))
      replace hW := hW1
      refine J_isub dL_areAlike_342 ?_
      rw [← al_s0 (s := s) (t := t) hm c298]
      refine J_icmp_ne (tgt := 422) dL_areAlike_343 (by decide) (fun c343 => absurd rfl c343) (fun c343 => ?_)
      refine J_aload_n dL_areAlike_346 rfl ?_
      refine J_iload dL_areAlike_347 rfl ?_
      refine J_iload dL_areAlike_349 rfl ?_
      refine J_iconst (x := 2) dL_areAlike_351 (by decide) ?_
      refine J_callV (As := [_, _, _]) (rest := []) (M' := m_X6_span) dL_areAlike_352 ml_R_law_54 gm_X6_span gv_X6_span hW.1.o hW.b1 rfl rfl rfl (Nat.le_of_ble_eq_true rfl) (by decide) ⟨rfl, rfl, by decide, by decide⟩ (q1_span hW (fun h1 hW1 => ?_))
      replace hW := hW1
      refine J_aload_n dL_areAlike_355 rfl ?_
      refine J_bipush (x := 63) dL_areAlike_356 (by decide) ?_
      refine J_iload dL_areAlike_358 rfl ?_
      refine J_isub dL_areAlike_360 ?_
      rw [show (63 : Int32) - nI m = nI (63 - m) from pk_sub (a := 63) (by omega)]
      refine J_iload dL_areAlike_361 rfl ?_
      refine J_iconst (x := 2) dL_areAlike_363 (by decide) ?_
      refine J_callV (As := [_, _, _]) (rest := [_]) (M' := m_X6_span) dL_areAlike_364 ml_R_law_54 gm_X6_span gv_X6_span hW.2.1.o hW.b2 rfl rfl rfl (Nat.le_of_ble_eq_true rfl) (by decide) ⟨rfl, rfl, by decide, by decide⟩ (q2_span hW (fun h1 hW1 => ?_))
      replace hW := hW1
      rw [al_s2 hO hm c298]
      refine J_icmp_ne (tgt := 422) dL_areAlike_367 (by decide) (fun c367 => absurd rfl c367) (fun c367 => ?_)
      refine J_aload_n dL_areAlike_370 rfl ?_
      refine J_iload dL_areAlike_371 rfl ?_
      refine J_iload dL_areAlike_373 rfl ?_
      refine J_iconst (x := 3) dL_areAlike_375 (by decide) ?_
      refine J_callV (As := [_, _, _]) (rest := []) (M' := m_X6_span) dL_areAlike_376 ml_R_law_54 gm_X6_span gv_X6_span hW.1.o hW.b1 rfl rfl rfl (Nat.le_of_ble_eq_true rfl) (by decide) ⟨rfl, rfl, by decide, by decide⟩ (q1_span hW (fun h1 hW1 => ?_))
      replace hW := hW1
      refine J_aload_n dL_areAlike_379 rfl ?_
      refine J_bipush (x := 63) dL_areAlike_380 (by decide) ?_
      refine J_iload dL_areAlike_382 rfl ?_
      refine J_isub dL_areAlike_384 ?_
      rw [show (63 : Int32) - nI m = nI (63 - m) from pk_sub (a := 63) (by omega)]
      refine J_iload dL_areAlike_385 rfl ?_
      refine J_iconst (x := 3) dL_areAlike_387 (by decide) ?_
      refine J_callV (As := [_, _, _]) (rest := [_]) (M' := m_X6_span) dL_areAlike_388 ml_R_law_54 gm_X6_span gv_X6_span hW.2.1.o hW.b2 rfl rfl rfl (Nat.le_of_ble_eq_true rfl) (by decide) ⟨rfl, rfl, by decide, by decide⟩ (q2_span hW (fun h1 hW1 => ?_))
      replace hW := hW1
      rw [al_s3 ht hO hm c298]
      refine J_icmp_ne (tgt := 422) dL_areAlike_391 (by decide) (fun c391 => absurd rfl c391) (fun c391 => ?_)
      refine J_aload_n dL_areAlike_394 rfl ?_
      refine J_iload dL_areAlike_395 rfl ?_
      refine J_iload dL_areAlike_397 rfl ?_
      refine J_iconst (x := 4) dL_areAlike_399 (by decide) ?_
      refine J_callV (As := [_, _, _]) (rest := []) (M' := m_X6_span) dL_areAlike_400 ml_R_law_54 gm_X6_span gv_X6_span hW.1.o hW.b1 rfl rfl rfl (Nat.le_of_ble_eq_true rfl) (by decide) ⟨rfl, rfl, by decide, by decide⟩ (q1_span hW (fun h1 hW1 => ?_))
      replace hW := hW1
      refine J_aload_n dL_areAlike_403 rfl ?_
      refine J_bipush (x := 63) dL_areAlike_404 (by decide) ?_
      refine J_iload dL_areAlike_406 rfl ?_
      refine J_isub dL_areAlike_408 ?_
      rw [show (63 : Int32) - nI m = nI (63 - m) from pk_sub (a := 63) (by omega)]
      refine J_iload dL_areAlike_409 rfl ?_
      refine J_iconst (x := 4) dL_areAlike_411 (by decide) ?_
      refine J_callV (As := [_, _, _]) (rest := [_]) (M' := m_X6_span) dL_areAlike_412 ml_R_law_54 gm_X6_span gv_X6_span hW.2.1.o hW.b2 rfl rfl rfl (Nat.le_of_ble_eq_true rfl) (by decide) ⟨rfl, rfl, by decide, by decide⟩ (q2_span hW (fun h1 hW1 => ?_))
      replace hW := hW1
      rw [al_s4 ht hO hm c298]
      refine J_icmp_ne (tgt := 422) dL_areAlike_415 (by decide) (fun c415 => absurd rfl c415) (fun c415 => ?_)
      refine J_iconst (x := 1) dL_areAlike_418 (by decide) ?_
      refine J_goto (tgt := 423) dL_areAlike_419 (by decide) ?_
      refine J_istore (L' := [_, _, _, _, _, _, _, _, _, _]) dL_areAlike_423 (by decide) rfl ?_
      refine J_iinc (L' := [_, _, _, _, _, _, _, _, _, _]) dL_areAlike_425 rfl (nI_i1 j) (by decide) rfl ?_
      refine J_goto (tgt := 294) dL_areAlike_428 (by decide) ?_
      exact ih (j + 1) _ (by omega) (by omega) hW
theorem l3_L_areAlike {m a1 b1 : Nat} (ht : t < 16) (hO : ∀ x ∈ s.1, okK x) (h4 : s.1.length ≤ 40) (hm : m < 64) (ha : a1 < 16) (hb : b1 < 16) (hQ : ∀ h', W3 h' s (mS t s) → Q (some (.int 1)) h') : ∀ (f j : Nat) (h : g_H), 6 - j < f → j ≤ 6 → W3 h s (mS t s) → J m_L_areAlike 7 0 0 0 0 244 [some (.ref 1), some (.ref 57), some (.int (nI t)), some (.int x), some (.int 1), some (.int (nI m)), some (.int (nI a1)), some (.int (nI b1)), some (.int (nI j)), none] [] h Q := by
  intro f
  induction f with
  | zero => intro j h hf; omega
  | succ f ih =>
    intro j h hf hj hW
    refine J_iload dL_areAlike_244 rfl ?_
    refine J_bipush (x := 6) dL_areAlike_246 (by decide) ?_
    refine J_icmp_ge (tgt := 291) dL_areAlike_248 (by decide) (fun c248 => ?_) (fun c248 => ?_)
    · refine J_iconst (x := 0) dL_areAlike_291 (by decide) ?_
      refine J_istore (L' := [_, _, _, _, _, _, _, _, _, _]) dL_areAlike_292 (by decide) rfl ?_
      exact l4_L_areAlike ht hO h4 hm ha hb hQ 8 0 _ (by omega) (by omega) hW
    · have c248 : j < 6 := Nat.not_le.mp (fun q => c248 ((nI_leI (a := 6) (b := j) (by omega) (by omega)).mpr q))
      refine J_iload dL_areAlike_251 rfl ?_
      refine J_if_eq (tgt := 282) dL_areAlike_253 (by decide) (fun c253 => absurd c253 (by decide)) (fun c253 => ?_)
      refine J_aload_n dL_areAlike_256 rfl ?_
      refine J_iload dL_areAlike_257 rfl ?_
      refine J_iload dL_areAlike_259 rfl ?_
      refine J_callV (As := [_, _]) (rest := []) (M' := m_X6_moment) dL_areAlike_261 ml_R_law_32 gm_X6_moment gv_X6_moment hW.1.o hW.b1 rfl rfl rfl (Nat.le_of_ble_eq_true rfl) (by decide) ⟨rfl, rfl, by decide, by decide⟩ (q1_moment hW (fun h1 hW1 => ?_))
      replace hW := hW1
      refine J_aload_n dL_areAlike_264 rfl ?_
      refine J_bipush (x := 63) dL_areAlike_265 (by decide) ?_
      refine J_iload dL_areAlike_267 rfl ?_
      refine J_isub dL_areAlike_269 ?_
      rw [show (63 : Int32) - nI m = nI (63 - m) from pk_sub (a := 63) (by omega)]
      refine J_iload dL_areAlike_270 rfl ?_
      refine J_callV (As := [_, _]) (rest := [_]) (M' := m_X6_moment) dL_areAlike_272 ml_R_law_32 gm_X6_moment gv_X6_moment hW.2.1.o hW.b2 rfl rfl rfl (Nat.le_of_ble_eq_true rfl) (by decide) ⟨rfl, rfl, by decide, by decide⟩ (q2_moment hW (fun h1 hW1 => ?_))
      replace hW := hW1
      rw [al_m ht hO hm]
      refine J_icmp_ne (tgt := 282) dL_areAlike_275 (by decide) (fun c275 => absurd rfl c275) (fun c275 => ?_)
      refine J_iconst (x := 1) dL_areAlike_278 (by decide) ?_
      refine J_goto (tgt := 283) dL_areAlike_279 (by decide) ?_
      refine J_istore (L' := [_, _, _, _, _, _, _, _, _, _]) dL_areAlike_283 (by decide) rfl ?_
      refine J_iinc (L' := [_, _, _, _, _, _, _, _, _, _]) dL_areAlike_285 rfl (nI_i1 j) (by decide) rfl ?_
      refine J_goto (tgt := 244) dL_areAlike_288 (by decide) ?_
      exact ih (j + 1) _ (by omega) (by omega) hW
theorem l2_L_areAlike {m a1 b1 : Nat} (ht : t < 16) (hO : ∀ x ∈ s.1, okK x) (h4 : s.1.length ≤ 40) (hm : m < 64) (ha : a1 < 16) (hb : b1 < 16) (hQ : ∀ h', W3 h' s (mS t s) → Q (some (.int 1)) h') : ∀ (f j : Nat) (h : g_H), s.1.length - j < f → j ≤ s.1.length → W3 h s (mS t s) → J m_L_areAlike 7 0 0 0 0 79 [some (.ref 1), some (.ref 57), some (.int (nI t)), some (.int x), some (.int 1), some (.int (nI m)), some (.int (nI a1)), some (.int (nI b1)), some (.int (nI j)), none] [] h Q := by
  intro f
  induction f with
  | zero => intro j h hf; omega
  | succ f ih =>
    intro j h hf hj hW
    refine J_iload dL_areAlike_79 rfl ?_
    refine J_aload_n dL_areAlike_81 rfl ?_
    refine J_iconst (x := 0) dL_areAlike_82 (by decide) ?_
    refine J_callV (As := [_]) (rest := [_]) (M' := m_X6_count) dL_areAlike_83 ml_R_law_9 gm_X6_count gv_X6_count hW.1.o hW.b1 rfl rfl rfl (Nat.le_of_ble_eq_true rfl) (by decide) ⟨rfl, rfl, by decide, by decide⟩ (q1_count hW (fun h1 hW1 => ?_))
    replace hW := hW1
    rw [v_c0]
    refine J_icmp_ge (tgt := 241) dL_areAlike_86 (by decide) (fun c86 => ?_) (fun c86 => ?_)
    · refine J_iconst (x := 0) dL_areAlike_241 (by decide) ?_
      refine J_istore (L' := [_, _, _, _, _, _, _, _, _, _]) dL_areAlike_242 (by decide) rfl ?_
      exact l3_L_areAlike ht hO h4 hm ha hb hQ 7 0 _ (by omega) (by omega) hW
    · have c86 : j < s.1.length := Nat.not_le.mp (fun q => c86 ((nI_leI (a := s.1.length) (b := j) (by omega) (by omega)).mpr q))
      obtain ⟨y, hy⟩ := get_of c86
      refine J_iload dL_areAlike_89 rfl ?_
      refine J_if_eq (tgt := 241) dL_areAlike_91 (by decide) (fun c91 => absurd c91 (by decide)) (fun c91 => ?_)
      refine J_aload_n dL_areAlike_94 rfl ?_
      refine J_iload dL_areAlike_95 rfl ?_
      refine J_iconst (x := 0) dL_areAlike_97 (by decide) ?_
      refine J_callV (As := [_, _]) (rest := []) (M' := m_X6_link) dL_areAlike_98 ml_R_law_48 gm_X6_link gv_X6_link hW.1.o hW.b1 rfl rfl rfl (Nat.le_of_ble_eq_true rfl) (by decide) ⟨rfl, rfl, by decide, by decide⟩ (q1_link hW (fun h1 hW1 => ?_))
      replace hW := hW1
      refine J_aload_n dL_areAlike_101 rfl ?_
      refine J_iload dL_areAlike_102 rfl ?_
      refine J_iconst (x := 0) dL_areAlike_104 (by decide) ?_
      refine J_callV (As := [_, _]) (rest := [_]) (M' := m_X6_link) dL_areAlike_105 ml_R_law_48 gm_X6_link gv_X6_link hW.2.1.o hW.b2 rfl rfl rfl (Nat.le_of_ble_eq_true rfl) (by decide) ⟨rfl, rfl, by decide, by decide⟩ (q2_link hW (fun h1 hW1 => ?_))
      replace hW := hW1
      refine J_iload_n dL_areAlike_108 rfl ?_
      refine J_ixor dL_areAlike_109 ?_
      rw [al_l0 ht hO h4 hy]
      refine J_icmp_ne (tgt := 232) dL_areAlike_110 (by decide) (fun c110 => absurd rfl c110) (fun c110 => ?_)
      refine J_aload_n dL_areAlike_113 rfl ?_
      refine J_iload dL_areAlike_114 rfl ?_
      refine J_iconst (x := 1) dL_areAlike_116 (by decide) ?_
      refine J_callV (As := [_, _]) (rest := []) (M' := m_X6_link) dL_areAlike_117 ml_R_law_48 gm_X6_link gv_X6_link hW.1.o hW.b1 rfl rfl rfl (Nat.le_of_ble_eq_true rfl) (by decide) ⟨rfl, rfl, by decide, by decide⟩ (q1_link hW (fun h1 hW1 => ?_))
      replace hW := hW1
      refine J_aload_n dL_areAlike_120 rfl ?_
      refine J_iload dL_areAlike_121 rfl ?_
      refine J_iconst (x := 1) dL_areAlike_123 (by decide) ?_
      refine J_callV (As := [_, _]) (rest := [_]) (M' := m_X6_link) dL_areAlike_124 ml_R_law_48 gm_X6_link gv_X6_link hW.2.1.o hW.b2 rfl rfl rfl (Nat.le_of_ble_eq_true rfl) (by decide) ⟨rfl, rfl, by decide, by decide⟩ (q2_link hW (fun h1 hW1 => ?_))
      replace hW := hW1
      refine J_iload_n dL_areAlike_127 rfl ?_
      refine J_ixor dL_areAlike_128 ?_
      rw [al_l1 ht hO h4 hy]
      refine J_icmp_ne (tgt := 232) dL_areAlike_129 (by decide) (fun c129 => absurd rfl c129) (fun c129 => ?_)
      refine J_aload_n dL_areAlike_132 rfl ?_
      refine J_iload dL_areAlike_133 rfl ?_
      refine J_iconst (x := 2) dL_areAlike_135 (by decide) ?_
      refine J_callV (As := [_, _]) (rest := []) (M' := m_X6_link) dL_areAlike_136 ml_R_law_48 gm_X6_link gv_X6_link hW.1.o hW.b1 rfl rfl rfl (Nat.le_of_ble_eq_true rfl) (by decide) ⟨rfl, rfl, by decide, by decide⟩ (q1_link hW (fun h1 hW1 => ?_))
      replace hW := hW1
      refine J_bipush (x := 64) dL_areAlike_139 (by decide) ?_
      refine J_aload_n dL_areAlike_141 rfl ?_
      refine J_iload dL_areAlike_142 rfl ?_
      refine J_iconst (x := 3) dL_areAlike_144 (by decide) ?_
      refine J_callV (As := [_, _]) (rest := [_, _]) (M' := m_X6_link) dL_areAlike_145 ml_R_law_48 gm_X6_link gv_X6_link hW.2.1.o hW.b2 rfl rfl rfl (Nat.le_of_ble_eq_true rfl) (by decide) ⟨rfl, rfl, by decide, by decide⟩ (q2_link hW (fun h1 hW1 => ?_))
      replace hW := hW1
      refine J_isub dL_areAlike_148 ?_
      rw [al_l2 hO h4 hy]
      refine J_icmp_ne (tgt := 232) dL_areAlike_149 (by decide) (fun c149 => absurd rfl c149) (fun c149 => ?_)
      refine J_aload_n dL_areAlike_152 rfl ?_
      refine J_iload dL_areAlike_153 rfl ?_
      refine J_iconst (x := 3) dL_areAlike_155 (by decide) ?_
      refine J_callV (As := [_, _]) (rest := []) (M' := m_X6_link) dL_areAlike_156 ml_R_law_48 gm_X6_link gv_X6_link hW.1.o hW.b1 rfl rfl rfl (Nat.le_of_ble_eq_true rfl) (by decide) ⟨rfl, rfl, by decide, by decide⟩ (q1_link hW (fun h1 hW1 => ?_))
      replace hW := hW1
      refine J_bipush (x := 64) dL_areAlike_159 (by decide) ?_
      refine J_aload_n dL_areAlike_161 rfl ?_
      refine J_iload dL_areAlike_162 rfl ?_
      refine J_iconst (x := 2) dL_areAlike_164 (by decide) ?_
      refine J_callV (As := [_, _]) (rest := [_, _]) (M' := m_X6_link) dL_areAlike_165 ml_R_law_48 gm_X6_link gv_X6_link hW.2.1.o hW.b2 rfl rfl rfl (Nat.le_of_ble_eq_true rfl) (by decide) ⟨rfl, rfl, by decide, by decide⟩ (q2_link hW (fun h1 hW1 => ?_))
      replace hW := hW1
      refine J_isub dL_areAlike_168 ?_
      rw [al_l3 hO h4 hy]
      refine J_icmp_ne (tgt := 232) dL_areAlike_169 (by decide) (fun c169 => absurd rfl c169) (fun c169 => ?_)
      refine J_aload_n dL_areAlike_172 rfl ?_
      refine J_iload dL_areAlike_173 rfl ?_
      refine J_iconst (x := 4) dL_areAlike_175 (by decide) ?_
      refine J_callV (As := [_, _]) (rest := []) (M' := m_X6_link) dL_areAlike_176 ml_R_law_48 gm_X6_link gv_X6_link hW.1.o hW.b1 rfl rfl rfl (Nat.le_of_ble_eq_true rfl) (by decide) ⟨rfl, rfl, by decide, by decide⟩ (q1_link hW (fun h1 hW1 => ?_))
      replace hW := hW1
      refine J_aload_n dL_areAlike_179 rfl ?_
      refine J_iload dL_areAlike_180 rfl ?_
      refine J_iconst (x := 4) dL_areAlike_182 (by decide) ?_
      refine J_callV (As := [_, _]) (rest := [_]) (M' := m_X6_link) dL_areAlike_183 ml_R_law_48 gm_X6_link gv_X6_link hW.2.1.o hW.b2 rfl rfl rfl (Nat.le_of_ble_eq_true rfl) (by decide) ⟨rfl, rfl, by decide, by decide⟩ (q2_link hW (fun h1 hW1 => ?_))
      replace hW := hW1
      rw [al_l4 hO h4 hy]
      refine J_icmp_ne (tgt := 232) dL_areAlike_186 (by decide) (fun c186 => absurd rfl c186) (fun c186 => ?_)
      refine J_aload_n dL_areAlike_189 rfl ?_
      refine J_iload dL_areAlike_190 rfl ?_
      refine J_iconst (x := 5) dL_areAlike_192 (by decide) ?_
      refine J_callV (As := [_, _]) (rest := []) (M' := m_X6_link) dL_areAlike_193 ml_R_law_48 gm_X6_link gv_X6_link hW.1.o hW.b1 rfl rfl rfl (Nat.le_of_ble_eq_true rfl) (by decide) ⟨rfl, rfl, by decide, by decide⟩ (q1_link hW (fun h1 hW1 => ?_))
      replace hW := hW1
      refine J_aload_n dL_areAlike_196 rfl ?_
      refine J_iload dL_areAlike_197 rfl ?_
      refine J_iconst (x := 5) dL_areAlike_199 (by decide) ?_
      refine J_callV (As := [_, _]) (rest := [_]) (M' := m_X6_link) dL_areAlike_200 ml_R_law_48 gm_X6_link gv_X6_link hW.2.1.o hW.b2 rfl rfl rfl (Nat.le_of_ble_eq_true rfl) (by decide) ⟨rfl, rfl, by decide, by decide⟩ (q2_link hW (fun h1 hW1 => ?_))
      replace hW := hW1
      rw [al_l5 ht hO h4 hy]
      refine J_icmp_ne (tgt := 232) dL_areAlike_203 (by decide) (fun c203 => absurd rfl c203) (fun c203 => ?_)
      refine J_aload_n dL_areAlike_206 rfl ?_
      refine J_iload dL_areAlike_207 rfl ?_
      refine J_iload dL_areAlike_209 rfl ?_
      refine J_callV (As := [_, _]) (rest := []) (M' := m_X6_needed) dL_areAlike_211 ml_R_law_51 gm_X6_needed gv_X6_needed hW.1.o hW.b1 rfl rfl rfl (Nat.le_of_ble_eq_true rfl) (by decide) ⟨rfl, rfl, by decide, by decide⟩ (q1_needed hW (fun h1 hW1 => ?_))
      replace hW := hW1
      refine J_aload_n dL_areAlike_214 rfl ?_
      refine J_iload dL_areAlike_215 rfl ?_
      refine J_bipush (x := 63) dL_areAlike_217 (by decide) ?_
      refine J_iload dL_areAlike_219 rfl ?_
      refine J_isub dL_areAlike_221 ?_
      rw [show (63 : Int32) - nI m = nI (63 - m) from pk_sub (a := 63) (by omega)]
      refine J_callV (As := [_, _]) (rest := [_]) (M' := m_X6_needed) dL_areAlike_222 ml_R_law_51 gm_X6_needed gv_X6_needed hW.2.1.o hW.b2 rfl rfl rfl (Nat.le_of_ble_eq_true rfl) (by decide) ⟨rfl, rfl, by decide, by decide⟩ (q2_needed hW (fun h1 hW1 => ?_))
      replace hW := hW1
      rw [al_n ht hO h4 hm hy]
      refine J_icmp_ne (tgt := 232) dL_areAlike_225 (by decide) (fun c225 => absurd rfl c225) (fun c225 => ?_)
      refine J_iconst (x := 1) dL_areAlike_228 (by decide) ?_
      refine J_goto (tgt := 233) dL_areAlike_229 (by decide) ?_
      refine J_istore (L' := [_, _, _, _, _, _, _, _, _, _]) dL_areAlike_233 (by decide) rfl ?_
      refine J_iinc (L' := [_, _, _, _, _, _, _, _, _, _]) dL_areAlike_235 rfl (nI_i1 j) (by decide) rfl ?_
      refine J_goto (tgt := 79) dL_areAlike_238 (by decide) ?_
      exact ih (j + 1) _ (by omega) (by omega) hW
theorem l1_L_areAlike {m a1 b1 : Nat} (ht : t < 16) (hO : ∀ x ∈ s.1, okK x) (h4 : s.1.length ≤ 40) (hm : m < 64) (ha : a1 < 16) (hb : b1 < 16) (hQ : ∀ h', W3 h' s (mS t s) → Q (some (.int 1)) h') : ∀ (f j : Nat) (h : g_H), 8 - j < f → j ≤ 8 → W3 h s (mS t s) → J m_L_areAlike 7 0 0 0 0 36 [some (.ref 1), some (.ref 57), some (.int (nI t)), some (.int x), some (.int 1), some (.int (nI m)), some (.int (nI a1)), some (.int (nI b1)), some (.int (nI j)), none] [] h Q := by
  intro f
  induction f with
  | zero => intro j h hf; omega
  | succ f ih =>
    intro j h hf hj hW
    refine J_iload dL_areAlike_36 rfl ?_
    refine J_bipush (x := 8) dL_areAlike_38 (by decide) ?_
    refine J_icmp_ge (tgt := 76) dL_areAlike_40 (by decide) (fun c40 => ?_) (fun c40 => ?_)
    · refine J_iconst (x := 0) dL_areAlike_76 (by decide) ?_
      refine J_istore (L' := [_, _, _, _, _, _, _, _, _, _]) dL_areAlike_77 (by decide) rfl ?_
      exact l2_L_areAlike ht hO h4 hm ha hb hQ (s.1.length + 1) 0 _ (by omega) (by omega) hW
    · have c40 : j < 8 := Nat.not_le.mp (fun q => c40 ((nI_leI (a := 8) (b := j) (by omega) (by omega)).mpr q))
      refine J_iload dL_areAlike_43 rfl ?_
      refine J_if_eq (tgt := 67) dL_areAlike_45 (by decide) (fun c45 => absurd c45 (by decide)) (fun c45 => ?_)
      refine J_aload_n dL_areAlike_48 rfl ?_
      refine J_iload dL_areAlike_49 rfl ?_
      refine J_callV (As := [_]) (rest := []) (M' := m_X6_count) dL_areAlike_51 ml_R_law_9 gm_X6_count gv_X6_count hW.1.o hW.b1 rfl rfl rfl (Nat.le_of_ble_eq_true rfl) (by decide) ⟨rfl, rfl, by decide, by decide⟩ (q1_count hW (fun h1 hW1 => ?_))
      replace hW := hW1
      refine J_aload_n dL_areAlike_54 rfl ?_
      refine J_iload dL_areAlike_55 rfl ?_
      refine J_callV (As := [_]) (rest := [_]) (M' := m_X6_count) dL_areAlike_57 ml_R_law_9 gm_X6_count gv_X6_count hW.2.1.o hW.b2 rfl rfl rfl (Nat.le_of_ble_eq_true rfl) (by decide) ⟨rfl, rfl, by decide, by decide⟩ (q2_count hW (fun h1 hW1 => ?_))
      replace hW := hW1
      rw [al_c ht hO]
      refine J_icmp_ne (tgt := 67) dL_areAlike_60 (by decide) (fun c60 => absurd rfl c60) (fun c60 => ?_)
      refine J_iconst (x := 1) dL_areAlike_63 (by decide) ?_
      refine J_goto (tgt := 68) dL_areAlike_64 (by decide) ?_
      refine J_istore (L' := [_, _, _, _, _, _, _, _, _, _]) dL_areAlike_68 (by decide) rfl ?_
      refine J_iinc (L' := [_, _, _, _, _, _, _, _, _, _]) dL_areAlike_70 rfl (nI_i1 j) (by decide) rfl ?_
      refine J_goto (tgt := 36) dL_areAlike_73 (by decide) ?_
      exact ih (j + 1) _ (by omega) (by omega) hW
theorem s_L_areAlike (ht : t < 16) (hW : W3 h s (mS t s)) (hQ : ∀ h', W3 h' s (mS t s) → Q (some (.int 1)) h') : MJ m_L_areAlike 7 0 0 [.ref 1, .ref 57, .int (nI t), .int x] h Q := by
  refine MJ_of_J (L := [some (.ref 1), some (.ref 57), some (.int (nI t)), some (.int x), none, none, none, none, none, none]) (by decide +kernel) rfl (Nat.le_of_ble_eq_true rfl) rfl ?_
  refine J_iconst (x := 1) dL_areAlike_0 (by decide) ?_
  refine J_istore (L' := [_, _, _, _, _, _, _, _, _, _]) dL_areAlike_1 (by decide) rfl ?_
  refine J_iload_n dL_areAlike_3 rfl ?_
  refine J_bipush (x := 64) dL_areAlike_4 (by decide) ?_
  refine J_callS (As := [_, _]) (rest := []) (M' := m_L_up) dL_areAlike_6 ml_R_law_15 gm_L_up sm_yL_up rfl rfl (Nat.le_of_ble_eq_true rfl) (by decide) ⟨rfl, rfl, by decide, by decide⟩ (s_L_up (n := 64) rfl (by decide) (by decide) (fun m hm => ?_))
  refine J_istore (L' := [_, _, _, _, _, _, _, _, _, _]) dL_areAlike_9 (by decide) rfl ?_
  refine J_iload_n dL_areAlike_11 rfl ?_
  refine J_bipush (x := 6) dL_areAlike_12 (by decide) ?_
  refine J_ishr dL_areAlike_14 ?_
  refine J_bipush (x := 16) dL_areAlike_15 (by decide) ?_
  refine J_callS (As := [_, _]) (rest := []) (M' := m_L_up) dL_areAlike_17 ml_R_law_15 gm_L_up sm_yL_up rfl rfl (Nat.le_of_ble_eq_true rfl) (by decide) ⟨rfl, rfl, by decide, by decide⟩ (s_L_up (n := 16) rfl (by decide) (by decide) (fun a1 ha1 => ?_))
  refine J_istore (L' := [_, _, _, _, _, _, _, _, _, _]) dL_areAlike_20 (by decide) rfl ?_
  refine J_iload_n dL_areAlike_22 rfl ?_
  refine J_bipush (x := 10) dL_areAlike_23 (by decide) ?_
  refine J_ishr dL_areAlike_25 ?_
  refine J_bipush (x := 16) dL_areAlike_26 (by decide) ?_
  refine J_callS (As := [_, _]) (rest := []) (M' := m_L_up) dL_areAlike_28 ml_R_law_15 gm_L_up sm_yL_up rfl rfl (Nat.le_of_ble_eq_true rfl) (by decide) ⟨rfl, rfl, by decide, by decide⟩ (s_L_up (n := 16) rfl (by decide) (by decide) (fun b1 hb1 => ?_))
  refine J_istore (L' := [_, _, _, _, _, _, _, _, _, _]) dL_areAlike_31 (by decide) rfl ?_
  refine J_iconst (x := 0) dL_areAlike_33 (by decide) ?_
  refine J_istore (L' := [_, _, _, _, _, _, _, _, _, _]) dL_areAlike_34 (by decide) rfl ?_
  exact l1_L_areAlike ht hW.hO hW.h4 hm ha1 hb1 hQ 9 0 _ (by omega) (by omega) hW
end Alike
