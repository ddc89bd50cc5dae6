theorem low5 {x : Int32} (h : x ≠ 0) : ∃ l, l < 32 ∧ b5 x l = true ∧ ∀ i, (b5 (x &&& (x - 1)) i = (b5 x i && decide (i ≠ l)) ∧ ∀ y, y < l → ¬ b5 x y = true) := by
  obtain ⟨j, hj⟩ := b5_ne.mp h
  obtain ⟨l, h1, h2, h3⟩ := least_of (fun i => b5 x i = true) j hj
  have hl32 : l < 32 := by
    rcases Nat.lt_or_ge l 32 with q | q
    · exact q
    · have h1 : x.toBitVec.getLsbD l = true := h1
      rw [BitVec.getLsbD_of_ge _ _ q] at h1
      cases h1
  refine ⟨l, hl32, h1, fun i => ⟨?_, h3⟩⟩
  have hx0 : x.toBitVec ≠ 0#32 := fun e => h (Int32.toBitVec_inj.mp e)
  rw [b5_and]
  -- as numbers: X = 2^l * (2 u + 1)
  have hX : ∀ i, x.toBitVec.toNat.testBit i = b5 x i := fun i => rfl
  generalize hXe : x.toBitVec.toNat = X at hX
  have hlow : X % 2 ^ l = 0 := by
    apply Nat.eq_of_testBit_eq
    intro i
    rw [Nat.testBit_mod_two_pow, Nat.zero_testBit]
    by_cases q : i < l
    · have := h3 i q
      rw [hX]
      simp only [Bool.not_eq_true] at this
      simp [this]
    · simp [q]
  have hbit : X.testBit l = true := (hX l).trans h1
  have hodd : X / 2 ^ l % 2 = 1 := by
    rw [Nat.testBit_eq_decide_div_mod_eq] at hbit
    simpa using hbit
  have hp : 0 < 2 ^ l := Nat.two_pow_pos l
  obtain ⟨u, hu⟩ : ∃ u, X = 2 ^ l * (2 * u + 1) := by
    refine ⟨X / 2 ^ l / 2, ?_⟩
    have e1 : X = 2 ^ l * (X / 2 ^ l) := by
      have := Nat.div_add_mod X (2 ^ l)
      omega
    have e2 : X / 2 ^ l = 2 * (X / 2 ^ l / 2) + 1 := by omega
    rw [← e2]; exact e1
  have hpos : 1 ≤ X := by
    rw [hu]
    exact Nat.mul_pos hp (by omega)
  have hsub : (x - 1).toBitVec.toNat = X - 1 := by
    rw [Int32.toBitVec_sub, BitVec.toNat_sub]
    have e1 : (1 : Int32).toBitVec.toNat = 1 := by decide
    rw [e1, hXe]
    have := x.toBitVec.isLt
    rw [hXe] at this
    omega
  have hm : X - 1 = 2 ^ (l + 1) * u + (2 ^ l - 1) := by
    rw [hu, Nat.mul_add, Nat.mul_one, ← Nat.mul_assoc, Nat.pow_succ]
    omega
  have hb1 : b5 (x - 1) i = (X - 1).testBit i := by
    show (x - 1).toBitVec.toNat.testBit i = _
    rw [hsub]
  rw [hb1]
  rcases Nat.lt_trichotomy i l with q | q | q
  · have hf : b5 x i = false := by
      have := h3 i q
      simpa using this
    rw [hf]; rfl
  · subst q
    have e : (X - 1).testBit i = false := by
      rw [hm, Nat.testBit_two_pow_mul_add _ (by rw [Nat.pow_succ]; omega)]
      rw [if_pos (by omega)]
      exact Nat.testBit_lt_two_pow (by omega)
    rw [e]; simp
  · have e : (X - 1).testBit i = X.testBit i := by
      rw [hm, Nat.testBit_two_pow_mul_add _ (by rw [Nat.pow_succ]; omega), if_neg (by omega)]
      have e2 : X = 2 ^ (l + 1) * u + 2 ^ l := by
        rw [hu, Nat.mul_add, Nat.mul_one, ← Nat.mul_assoc, Nat.pow_succ]
      rw [e2, Nat.testBit_two_pow_mul_add _ (by rw [Nat.pow_succ]; omega), if_neg (by omega)]
    rw [e, hX]
    have : i ≠ l := by omega
    simp [this]

theorem neg_b {x : Int32} (i : Nat) : b5 (-x) i = (decide (i < 32) && !b5 (x - 1) i) := by
  have h : (-x).toBitVec = ~~~(x - 1).toBitVec := by
    rw [Int32.toBitVec_neg, Int32.toBitVec_sub]
    have e := BitVec.not_neg x.toBitVec
    have e1 : (1 : Int32).toBitVec = 1#32 := by decide
    rw [e1, ← BitVec.not_not (b := -x.toBitVec), e]
  show (-x).toBitVec.getLsbD i = _
  rw [h, BitVec.getLsbD_not]
  rfl
theorem low_one {x : Int32} (h : x ≠ 0) : ∃ l, l < 32 ∧ b5 x l = true ∧ (∀ y, y < l → ¬ b5 x y = true) ∧ ∀ i, b5 (x &&& -x) i = decide (i = l) := by
  obtain ⟨l, h1, h2, h3⟩ := low5 h
  refine ⟨l, h1, h2, (h3 0).2, fun i => ?_⟩
  have h4 := (h3 i).1
  rw [b5_and] at h4
  rw [b5_and, neg_b]
  by_cases q : b5 x i = true
  · have hi : i < 32 := by
      rcases Nat.lt_or_ge i 32 with z | z
      · exact z
      · have q : x.toBitVec.getLsbD i = true := q
        rw [BitVec.getLsbD_of_ge _ _ z] at q
        cases q
    rw [q, Bool.true_and, Bool.true_and] at h4
    rw [q, h4]
    by_cases e : i = l
    · simp [e, h1]
    · simp [e, hi]
  · simp only [Bool.not_eq_true] at q
    rw [q]
    have : i ≠ l := fun e => by rw [e, h2] at q; cases q
    simp [this]
theorem pc_one : ∀ l, l < 16 → pc6 (((1 : Int32) <<< (nI l &&& 31)) - 1).toInt64 = l := by decide +kernel
theorem BS.low {r : Int32} {P : Nat → Prop} (a : BS r P) {p : Nat} (hp : p < 16) (hP : P p) : ∃ l, l < 16 ∧ P l ∧ (∀ y, y < l → ¬ P y) ∧ pc6 (((r &&& -r) - 1).toInt64) = l := by
  have hne : r ≠ 0 := b5_ne.mpr ⟨p, (a p).mpr ⟨hp, hP⟩⟩
  obtain ⟨l, -, h2, h3, h4⟩ := low_one hne
  obtain ⟨hl, hPl⟩ := (a l).mp h2
  refine ⟨l, hl, hPl, fun y hy q => h3 y hy ((a y).mpr ⟨by omega, q⟩), ?_⟩
  have e : r &&& -r = (1 : Int32) <<< (nI l &&& 31) := b5_ext (fun i => by rw [h4, b5_one (by omega)])
  rw [e]
  exact pc_one l hl
theorem BS.iff {r : Int32} {P P' : Nat → Prop} (a : BS r P) (h : ∀ i, P i ↔ P' i) : BS r P' := fun i => (a i).trans ⟨fun q => ⟨q.1, (h i).mp q.2⟩, fun q => ⟨q.1, (h i).mpr q.2⟩⟩
theorem sel_n {w : Int32} {l : List Int32} (h : ¬ IX w l.length) : sel w l = -2 := by unfold sel; rw [ci_f h]
theorem nx3 {w : Int32} (h0 : ¬ w = 0) (h1 : ¬ w = 1) (h2 : ¬ w = 2) : ¬ IX w 3 := by
  rintro ⟨j, hj, rfl⟩
  rcases (show j = 0 ∨ j = 1 ∨ j = 2 by omega) with rfl | rfl | rfl
  · exact h0 rfl
  · exact h1 rfl
  · exact h2 rfl
theorem nx5 {w : Int32} (h0 : ¬ w = 0) (h1 : ¬ w = 1) (h2 : ¬ w = 2) (h3 : ¬ w = 3) (h4 : ¬ w = 4) : ¬ IX w 5 := by
  rintro ⟨j, hj, rfl⟩
  rcases (show j = 0 ∨ j = 1 ∨ j = 2 ∨ j = 3 ∨ j = 4 by omega) with rfl | rfl | rfl | rfl | rfl
  · exact h0 rfl
  · exact h1 rfl
  · exact h2 rfl
  · exact h3 rfl
  · exact h4 rfl
section SMod9
variable {h h' : g_H} {a : Nat} {s : St} {ls : List Lk} {Q : Option Value → g_H → Prop}
theorem s_X7_link {x v : Int32} (hV : VI h a s) (hQ : ∀ r, r = f_link x v s → Q (some (.int r)) h) : MJ m_X7_link 6 0 0 [.ref a, .int x, .int v] h Q := by
  obtain ⟨f, g, hh, sn, tx, rd, sp, nu, rm, hR, hA, ⟨hl4, hH⟩, hS, hT⟩ := hV
  have hn := hA.2.1
  have hq := hR.q hA
  refine MJ_of_J (L := [some (.ref a), some (.int x), some (.int v)]) (by decide +kernel) rfl (Nat.le_of_ble_eq_true rfl) rfl ?_
  refine J_aload_n dX7_link_0 rfl ?_
  refine J_iload_n dX7_link_1 rfl ?_
  refine J_callV (As := [_]) (rest := []) (M' := m_X7_isLink) dX7_link_2 ml_RX7_99 gm_X7_isLink gv_X7_isLink hR.o hR.bo rfl rfl rfl (Nat.le_of_ble_eq_true rfl) (by decide) ⟨rfl, rfl, by decide, by decide⟩ (s_X7_isLink hq (fun r1 hr1 => ?_))
  refine J_if_ne (tgt := 10) dX7_link_5 (by decide) (fun c5 => ?_) (fun c5 => ?_)
  · obtain ⟨j, hj, rfl⟩ := nn_of hr1 c5
    obtain ⟨y, hy⟩ := get_of hj
    obtain ⟨v1, v2, v3, v4⟩ := hA.1.2 j y hy
    refine J_iload_n dX7_link_10 rfl ?_
    rcases sw_of v 6 (by decide) with hsw | ⟨jsw, hjsw, rfl⟩
    · refine J_tsOut (tgt := 99) dX7_link_11 (by rcases hsw with q | q; exact Or.inl q; exact Or.inr (by omega)) (by decide) ?_
      refine J_bipush (x := -2) dX7_link_99 (by decide) ?_
      exact J_iret dX7_link_101 rfl ⟨rfl, Nat.le_refl _⟩ (hQ _ (by unfold f_link; rw [ci_f (fun q => q (nn_of hr1 c5)), tN_n (by omega), hy]; dsimp only; rw [sel_o (Nat.le_of_ble_eq_true rfl) hsw]))
    · rcases (show jsw = 0 ∨ jsw = 1 ∨ jsw = 2 ∨ jsw = 3 ∨ jsw = 4 ∨ jsw = 5 by omega) with rfl | rfl | rfl | rfl | rfl | rfl
      · refine J_tsIn (off := 37) (tgt := 48) dX7_link_11 (by decide) (by decide) (by decide) (by decide) ?_
        refine J_aload_n dX7_link_48 rfl ?_
        refine J_get (k := 0) dX7_link_49 gc_7 fl_RX7_7 (by decide) hR.o hR.bo rfl ?_
        refine J_iconst (x := 1) dX7_link_52 (by decide) ?_
        refine J_iload_n dX7_link_53 rfl ?_
        refine J_iadd dX7_link_54 ?_
        rw [show (1 : Int32) + nI j = nI (1 + j) from nI_add 1 j]
        refine J_iald dX7_link_55 hR.c1 hR.b1 (vp_in_nI (by omega) (by decide)) ?_
        rw [nI_clamp (n := 1 + j) (by omega), v1]
        exact J_iret dX7_link_56 rfl ⟨rfl, Nat.le_refl _⟩ (hQ _ (by unfold f_link; rw [ci_f (fun q => q (nn_of hr1 c5)), tN_n (by omega), hy]; dsimp only; exact sel_e (j := 0) (by rfl) (by rfl)))
      · refine J_tsIn (off := 46) (tgt := 57) dX7_link_11 (by decide) (by decide) (by decide) (by decide) ?_
        refine J_aload_n dX7_link_57 rfl ?_
        refine J_get (k := 0) dX7_link_58 gc_7 fl_RX7_7 (by decide) hR.o hR.bo rfl ?_
        refine J_bipush (x := 41) dX7_link_61 (by decide) ?_
        refine J_iload_n dX7_link_63 rfl ?_
        refine J_iadd dX7_link_64 ?_
        rw [show (41 : Int32) + nI j = nI (41 + j) from nI_add 41 j]
        refine J_iald dX7_link_65 hR.c1 hR.b1 (vp_in_nI (by omega) (by decide)) ?_
        rw [nI_clamp (n := 41 + j) (by omega), v2]
        exact J_iret dX7_link_66 rfl ⟨rfl, Nat.le_refl _⟩ (hQ _ (by unfold f_link; rw [ci_f (fun q => q (nn_of hr1 c5)), tN_n (by omega), hy]; dsimp only; exact sel_e (j := 1) (by rfl) (by rfl)))
      · refine J_tsIn (off := 56) (tgt := 67) dX7_link_11 (by decide) (by decide) (by decide) (by decide) ?_
        refine J_aload_n dX7_link_67 rfl ?_
        refine J_get (k := 0) dX7_link_68 gc_7 fl_RX7_7 (by decide) hR.o hR.bo rfl ?_
        refine J_bipush (x := 81) dX7_link_71 (by decide) ?_
        refine J_iload_n dX7_link_73 rfl ?_
        refine J_iadd dX7_link_74 ?_
        rw [show (81 : Int32) + nI j = nI (81 + j) from nI_add 81 j]
        refine J_iald dX7_link_75 hR.c1 hR.b1 (vp_in_nI (by omega) (by decide)) ?_
        rw [nI_clamp (n := 81 + j) (by omega), v3]
        exact J_iret dX7_link_76 rfl ⟨rfl, Nat.le_refl _⟩ (hQ _ (by unfold f_link; rw [ci_f (fun q => q (nn_of hr1 c5)), tN_n (by omega), hy]; dsimp only; exact sel_e (j := 2) (by rfl) (by rfl)))
      · refine J_tsIn (off := 66) (tgt := 77) dX7_link_11 (by decide) (by decide) (by decide) (by decide) ?_
        refine J_aload_n dX7_link_77 rfl ?_
        refine J_get (k := 0) dX7_link_78 gc_7 fl_RX7_7 (by decide) hR.o hR.bo rfl ?_
        refine J_bipush (x := 121) dX7_link_81 (by decide) ?_
        refine J_iload_n dX7_link_83 rfl ?_
        refine J_iadd dX7_link_84 ?_
        rw [show (121 : Int32) + nI j = nI (121 + j) from nI_add 121 j]
        refine J_iald dX7_link_85 hR.c1 hR.b1 (vp_in_nI (by omega) (by decide)) ?_
        rw [nI_clamp (n := 121 + j) (by omega), v4]
        exact J_iret dX7_link_86 rfl ⟨rfl, Nat.le_refl _⟩ (hQ _ (by unfold f_link; rw [ci_f (fun q => q (nn_of hr1 c5)), tN_n (by omega), hy]; dsimp only; exact sel_e (j := 3) (by rfl) (by rfl)))
      · refine J_tsIn (off := 76) (tgt := 87) dX7_link_11 (by decide) (by decide) (by decide) (by decide) ?_
        refine J_aload_n dX7_link_87 rfl ?_
        refine J_iload_n dX7_link_88 rfl ?_
        refine J_callV (As := [_]) (rest := []) (M' := m_X7_spansOf) dX7_link_89 ml_RX7_153 gm_X7_spansOf gv_X7_spansOf hR.o hR.bo rfl rfl rfl (Nat.le_of_ble_eq_true rfl) (by decide) ⟨rfl, rfl, by decide, by decide⟩ (s_X7_spansOf hq hy (fun r5 hr5 => ?_))
        exact J_iret dX7_link_92 rfl ⟨rfl, Nat.le_refl _⟩ (hQ _ (by unfold f_link; rw [ci_f (fun q => q (nn_of hr1 c5)), tN_n (by omega), hy]; dsimp only; rw [hr5]; exact sel_e (j := 4) (by rfl) (by rfl)))
      · refine J_tsIn (off := 82) (tgt := 93) dX7_link_11 (by decide) (by decide) (by decide) (by decide) ?_
        refine J_aload_n dX7_link_93 rfl ?_
        refine J_iload_n dX7_link_94 rfl ?_
        refine J_callV (As := [_]) (rest := []) (M' := m_X7_momentsNeeded) dX7_link_95 ml_RX7_156 gm_X7_momentsNeeded gv_X7_momentsNeeded hR.o hR.bo rfl rfl rfl (Nat.le_of_ble_eq_true rfl) (by decide) ⟨rfl, rfl, by decide, by decide⟩ (s_X7_momentsNeeded hq hy (fun r5 hr5 => ?_))
        exact J_iret dX7_link_98 rfl ⟨rfl, Nat.le_refl _⟩ (hQ _ (by unfold f_link; rw [ci_f (fun q => q (nn_of hr1 c5)), tN_n (by omega), hy]; dsimp only; rw [hr5]; exact sel_e (j := 5) (by rfl) (by rfl)))
  · refine J_iconst (x := -1) dX7_link_8 (by decide) ?_
    exact J_iret dX7_link_9 rfl ⟨rfl, Nat.le_refl _⟩ (hQ _ (by unfold f_link; rw [ci_t ((bI_0 hr1).mp c5)]))
theorem s_X7_joined {m x y : Int32} (hV : VI h a s) (hQ : ∀ r, r = f_joined m x y s → Q (some (.int r)) h) : MJ m_X7_joined 6 0 0 [.ref a, .int m, .int x, .int y] h Q := by
  obtain ⟨f, g, hh, sn, tx, rd, sp, nu, rm, hR, hA, ⟨hl4, hH⟩, hS, hT⟩ := hV
  have hn := hA.2.1
  have hq := hR.q hA
  refine MJ_of_J (L := [some (.ref a), some (.int m), some (.int x), some (.int y)]) (by decide +kernel) rfl (Nat.le_of_ble_eq_true rfl) rfl ?_
  refine J_iload_n dX7_joined_0 rfl ?_
  refine J_callS (As := [_]) (rest := []) (M' := m_X7_isMoment) dX7_joined_1 ml_RX7_40 gm_X7_isMoment sm_yX7_isMoment rfl rfl (Nat.le_of_ble_eq_true rfl) (by decide) ⟨rfl, rfl, by decide, by decide⟩ (s_X7_isMoment (fun r1 hr1 => ?_))
  refine J_if_eq (tgt := 21) dX7_joined_4 (by decide) (fun c4 => ?_) (fun c4 => ?_)
  · refine J_iconst (x := -1) dX7_joined_21 (by decide) ?_
    exact J_iret dX7_joined_22 rfl ⟨rfl, Nat.le_refl _⟩ (hQ _ (by unfold f_joined; rw [ci_t (fun q => (bI_0 hr1).mp c4 q.1)]))
  · refine J_iload_n dX7_joined_7 rfl ?_
    refine J_callS (As := [_]) (rest := []) (M' := m_X7_isPoint) dX7_joined_8 ml_RX7_83 gm_X7_isPoint sm_yX7_isPoint rfl rfl (Nat.le_of_ble_eq_true rfl) (by decide) ⟨rfl, rfl, by decide, by decide⟩ (s_X7_isPoint (fun r2 hr2 => ?_))
    refine J_if_eq (tgt := 21) dX7_joined_11 (by decide) (fun c11 => ?_) (fun c11 => ?_)
    · refine J_iconst (x := -1) dX7_joined_21 (by decide) ?_
      exact J_iret dX7_joined_22 rfl ⟨rfl, Nat.le_refl _⟩ (hQ _ (by unfold f_joined; rw [ci_t (fun q => (bI_0 hr2).mp c11 q.2.1)]))
    · refine J_iload_n dX7_joined_14 rfl ?_
      refine J_callS (As := [_]) (rest := []) (M' := m_X7_isPoint) dX7_joined_15 ml_RX7_83 gm_X7_isPoint sm_yX7_isPoint rfl rfl (Nat.le_of_ble_eq_true rfl) (by decide) ⟨rfl, rfl, by decide, by decide⟩ (s_X7_isPoint (fun r3 hr3 => ?_))
      refine J_if_ne (tgt := 23) dX7_joined_18 (by decide) (fun c18 => ?_) (fun c18 => ?_)
      · obtain ⟨k, hk, rfl⟩ := nn_of hr1 c4
        obtain ⟨i, hi, rfl⟩ := nn_of hr2 c11
        obtain ⟨j, hj, rfl⟩ := nn_of hr3 c18
        refine J_aload_n dX7_joined_23 rfl ?_
        refine J_aload_n dX7_joined_24 rfl ?_
        refine J_iload_n dX7_joined_25 rfl ?_
        refine J_callV (As := [_]) (rest := [_]) (M' := m_X7_livingAt) dX7_joined_26 ml_RX7_106 gm_X7_livingAt gv_X7_livingAt hR.o hR.bo rfl rfl rfl (Nat.le_of_ble_eq_true rfl) (by decide) ⟨rfl, rfl, by decide, by decide⟩ (s_X7_livingAt hq hk (fun x hx => ?_))
        refine J_iload_n dX7_joined_29 rfl ?_
        refine J_iload_n dX7_joined_30 rfl ?_
        refine J_callV (As := [_, _, _]) (rest := []) (M' := m_X7_join) dX7_joined_31 ml_RX7_60 gm_X7_join gv_X7_join hR.o hR.bo rfl rfl rfl (Nat.le_of_ble_eq_true rfl) (by decide) ⟨rfl, rfl, by decide, by decide⟩ (s_X7_join hq hi hj (fun r5 hr5 => ?_))
        refine J_if_eq (tgt := 41) dX7_joined_34 (by decide) (fun c34 => ?_) (fun c34 => ?_)
        · refine J_iconst (x := 0) dX7_joined_41 (by decide) ?_
          exact J_iret dX7_joined_42 rfl ⟨rfl, Nat.le_refl _⟩ (hQ _ (by unfold f_joined; rw [ci_f (fun q => q ⟨nn_of hr1 c4, nn_of hr2 c11, nn_of hr3 c18⟩), tN_n (by omega), tN_n (by omega), tN_n (by omega)]; exact (bI_f (fun q => (bI_0 hr5).mp c34 ((lst_CM hx _ _).mpr q))).symm))
        · refine J_iconst (x := 1) dX7_joined_37 (by decide) ?_
          refine J_goto (tgt := 42) dX7_joined_38 (by decide) ?_
          exact J_iret dX7_joined_42 rfl ⟨rfl, Nat.le_refl _⟩ (hQ _ (by unfold f_joined; rw [ci_f (fun q => q ⟨nn_of hr1 c4, nn_of hr2 c11, nn_of hr3 c18⟩), tN_n (by omega), tN_n (by omega), tN_n (by omega)]; exact (bI_t ((lst_CM hx _ _).mp (nn_of hr5 c34))).symm))
      · refine J_iconst (x := -1) dX7_joined_21 (by decide) ?_
        exact J_iret dX7_joined_22 rfl ⟨rfl, Nat.le_refl _⟩ (hQ _ (by unfold f_joined; rw [ci_t (fun q => (bI_0 hr3).mp c18 q.2.2)]))
theorem s_X7_moment {m v : Int32} (hV : VI h a s) (hQ : ∀ r, r = f_moment m v s → Q (some (.int r)) h) : MJ m_X7_moment 6 0 0 [.ref a, .int m, .int v] h Q := by
  obtain ⟨f, g, hh, sn, tx, rd, sp, nu, rm, hR, hA, ⟨hl4, hH⟩, hS, hT⟩ := hV
  have hn := hA.2.1
  have hq := hR.q hA
  refine MJ_of_J (L := [some (.ref a), some (.int m), some (.int v), none, none]) (by decide +kernel) rfl (Nat.le_of_ble_eq_true rfl) rfl ?_
  refine J_iload_n dX7_moment_0 rfl ?_
  refine J_callS (As := [_]) (rest := []) (M' := m_X7_isMoment) dX7_moment_1 ml_RX7_40 gm_X7_isMoment sm_yX7_isMoment rfl rfl (Nat.le_of_ble_eq_true rfl) (by decide) ⟨rfl, rfl, by decide, by decide⟩ (s_X7_isMoment (fun r1 hr1 => ?_))
  refine J_if_ne (tgt := 9) dX7_moment_4 (by decide) (fun c4 => ?_) (fun c4 => ?_)
  · obtain ⟨k, hk, rfl⟩ := nn_of hr1 c4
    refine J_aload_n dX7_moment_9 rfl ?_
    refine J_iload_n dX7_moment_10 rfl ?_
    refine J_callV (As := [_]) (rest := []) (M' := m_X7_livingAt) dX7_moment_11 ml_RX7_106 gm_X7_livingAt gv_X7_livingAt hR.o hR.bo rfl rfl rfl (Nat.le_of_ble_eq_true rfl) (by decide) ⟨rfl, rfl, by decide, by decide⟩ (s_X7_livingAt hq hk (fun x hx => ?_))
    refine J_lstore_n (L' := [_, _, _, _, _]) dX7_moment_14 (by decide) rfl ?_
    refine J_iload_n dX7_moment_15 rfl ?_
    rcases sw_of v 6 (by decide) with hsw | ⟨jsw, hjsw, rfl⟩
    · refine J_tsOut (tgt := 99) dX7_moment_16 (by rcases hsw with q | q; exact Or.inl q; exact Or.inr (by omega)) (by decide) ?_
      refine J_bipush (x := -2) dX7_moment_99 (by decide) ?_
      exact J_iret dX7_moment_101 rfl ⟨rfl, Nat.le_refl _⟩ (hQ _ (by unfold f_moment; rw [ci_f (fun q => q (nn_of hr1 c4)), tN_n (by omega)]; rw [sel_o (Nat.le_of_ble_eq_true rfl) hsw]))
    · rcases (show jsw = 0 ∨ jsw = 1 ∨ jsw = 2 ∨ jsw = 3 ∨ jsw = 4 ∨ jsw = 5 by omega) with rfl | rfl | rfl | rfl | rfl | rfl
      · refine J_tsIn (off := 40) (tgt := 56) dX7_moment_16 (by decide) (by decide) (by decide) (by decide) ?_
        refine J_lload_n dX7_moment_56 rfl ?_
        refine J_callS (As := [_]) (rest := []) (M' := m_X7_bits) dX7_moment_57 ml_RX7_110 gm_X7_bits sm_yX7_bits rfl rfl (Nat.le_of_ble_eq_true rfl) (by decide) ⟨rfl, rfl, by decide, by decide⟩ (s_X7_bits (fun r5 hr5 => ?_))
        rw [hx.cnt hn] at hr5
        exact J_iret dX7_moment_60 rfl ⟨rfl, Nat.le_refl _⟩ (hQ _ (by unfold f_moment; rw [ci_f (fun q => q (nn_of hr1 c4)), tN_n (by omega)]; rw [hr5]; exact sel_e (j := 0) (by rfl) (by rfl)))
      · refine J_tsIn (off := 45) (tgt := 61) dX7_moment_16 (by decide) (by decide) (by decide) (by decide) ?_
        refine J_aload_n dX7_moment_61 rfl ?_
        refine J_lload_n dX7_moment_62 rfl ?_
        refine J_callV (As := [_]) (rest := []) (M' := m_X7_parts) dX7_moment_63 ml_RX7_79 gm_X7_parts gv_X7_parts hR.o hR.bo rfl rfl rfl (Nat.le_of_ble_eq_true rfl) (by decide) ⟨rfl, rfl, by decide, by decide⟩ (s_X7_parts hq (fun r5 hr5 => ?_))
        rw [lst_pts hx] at hr5
        exact J_iret dX7_moment_66 rfl ⟨rfl, Nat.le_refl _⟩ (hQ _ (by unfold f_moment; rw [ci_f (fun q => q (nn_of hr1 c4)), tN_n (by omega)]; rw [hr5]; exact sel_e (j := 1) (by rfl) (by rfl)))
      · refine J_tsIn (off := 51) (tgt := 67) dX7_moment_16 (by decide) (by decide) (by decide) (by decide) ?_
        refine J_aload_n dX7_moment_67 rfl ?_
        refine J_lload_n dX7_moment_68 rfl ?_
        refine J_callV (As := [_]) (rest := []) (M' := m_X7_isOdd) dX7_moment_69 ml_RX7_159 gm_X7_isOdd gv_X7_isOdd hR.o hR.bo rfl rfl rfl (Nat.le_of_ble_eq_true rfl) (by decide) ⟨rfl, rfl, by decide, by decide⟩ (s_X7_isOdd hq (fun r5 hr5 => ?_))
        have hom := lst_OM hx
        refine J_if_eq (tgt := 79) dX7_moment_72 (by decide) (fun c72 => ?_) (fun c72 => ?_)
        · refine J_iconst (x := 0) dX7_moment_79 (by decide) ?_
          exact J_iret dX7_moment_80 rfl ⟨rfl, Nat.le_refl _⟩ (hQ _ (by unfold f_moment; rw [ci_f (fun q => q (nn_of hr1 c4)), tN_n (by omega)]; rw [← sel_e (j := 2) (v := bI (OM s.1 k)) (by rfl) (by rfl), bI_f (fun q => (bI_0 hr5).mp c72 (hom.mpr q))]))
        · refine J_iconst (x := 1) dX7_moment_75 (by decide) ?_
          refine J_goto (tgt := 80) dX7_moment_76 (by decide) ?_
          exact J_iret dX7_moment_80 rfl ⟨rfl, Nat.le_refl _⟩ (hQ _ (by unfold f_moment; rw [ci_f (fun q => q (nn_of hr1 c4)), tN_n (by omega)]; rw [← sel_e (j := 2) (v := bI (OM s.1 k)) (by rfl) (by rfl), bI_t (hom.mp (nn_of hr5 c72))]))
      · refine J_tsIn (off := 65) (tgt := 81) dX7_moment_16 (by decide) (by decide) (by decide) (by decide) ?_
        refine J_aload_n dX7_moment_81 rfl ?_
        refine J_lload_n dX7_moment_82 rfl ?_
        refine J_callV (As := [_]) (rest := []) (M' := m_X7_greatestPart) dX7_moment_83 ml_RX7_163 gm_X7_greatestPart gv_X7_greatestPart hR.o hR.bo rfl rfl rfl (Nat.le_of_ble_eq_true rfl) (by decide) ⟨rfl, rfl, by decide, by decide⟩ (s_X7_greatestPart hq hx (fun r5 hr5 => ?_))
        exact J_iret dX7_moment_86 rfl ⟨rfl, Nat.le_refl _⟩ (hQ _ (by unfold f_moment; rw [ci_f (fun q => q (nn_of hr1 c4)), tN_n (by omega)]; rw [hr5]; exact sel_e (j := 3) (by rfl) (by rfl)))
      · refine J_tsIn (off := 71) (tgt := 87) dX7_moment_16 (by decide) (by decide) (by decide) (by decide) ?_
        refine J_aload_n dX7_moment_87 rfl ?_
        refine J_lload_n dX7_moment_88 rfl ?_
        refine J_callV (As := [_]) (rest := []) (M' := m_X7_neededAt) dX7_moment_89 ml_RX7_166 gm_X7_neededAt gv_X7_neededAt hR.o hR.bo rfl rfl rfl (Nat.le_of_ble_eq_true rfl) (by decide) ⟨rfl, rfl, by decide, by decide⟩ (s_X7_neededAt hq hx (fun r5 hr5 => ?_))
        exact J_iret dX7_moment_92 rfl ⟨rfl, Nat.le_refl _⟩ (hQ _ (by unfold f_moment; rw [ci_f (fun q => q (nn_of hr1 c4)), tN_n (by omega)]; rw [hr5]; exact sel_e (j := 4) (by rfl) (by rfl)))
      · refine J_tsIn (off := 77) (tgt := 93) dX7_moment_16 (by decide) (by decide) (by decide) (by decide) ?_
        refine J_aload_n dX7_moment_93 rfl ?_
        refine J_lload_n dX7_moment_94 rfl ?_
        refine J_callV (As := [_]) (rest := []) (M' := m_X7_alone) dX7_moment_95 ml_RX7_169 gm_X7_alone gv_X7_alone hR.o hR.bo rfl rfl rfl (Nat.le_of_ble_eq_true rfl) (by decide) ⟨rfl, rfl, by decide, by decide⟩ (s_X7_alone hq hx (fun r5 hr5 => ?_))
        exact J_iret dX7_moment_98 rfl ⟨rfl, Nat.le_refl _⟩ (hQ _ (by unfold f_moment; rw [ci_f (fun q => q (nn_of hr1 c4)), tN_n (by omega)]; rw [hr5]; exact sel_e (j := 5) (by rfl) (by rfl)))
  · refine J_iconst (x := -1) dX7_moment_7 (by decide) ?_
    exact J_iret dX7_moment_8 rfl ⟨rfl, Nat.le_refl _⟩ (hQ _ (by unfold f_moment; rw [ci_t ((bI_0 hr1).mp c4)]))
theorem s_X7_part {m p v : Int32} (hV : VI h a s) (hQ : ∀ r, r = f_part m p v s → Q (some (.int r)) h) : MJ m_X7_part 6 0 0 [.ref a, .int m, .int p, .int v] h Q := by
  obtain ⟨f, g, hh, sn, tx, rd, sp, nu, rm, hR, hA, ⟨hl4, hH⟩, hS, hT⟩ := hV
  have hn := hA.2.1
  have hq := hR.q hA
  refine MJ_of_J (L := [some (.ref a), some (.int m), some (.int p), some (.int v), none]) (by decide +kernel) rfl (Nat.le_of_ble_eq_true rfl) rfl ?_
  refine J_iload_n dX7_part_0 rfl ?_
  refine J_callS (As := [_]) (rest := []) (M' := m_X7_isMoment) dX7_part_1 ml_RX7_40 gm_X7_isMoment sm_yX7_isMoment rfl rfl (Nat.le_of_ble_eq_true rfl) (by decide) ⟨rfl, rfl, by decide, by decide⟩ (s_X7_isMoment (fun r1 hr1 => ?_))
  refine J_if_eq (tgt := 14) dX7_part_4 (by decide) (fun c4 => ?_) (fun c4 => ?_)
  · refine J_iconst (x := -1) dX7_part_14 (by decide) ?_
    exact J_iret dX7_part_15 rfl ⟨rfl, Nat.le_refl _⟩ (hQ _ (by unfold f_part; rw [ci_t (fun q => (bI_0 hr1).mp c4 q.1)]))
  · refine J_iload_n dX7_part_7 rfl ?_
    refine J_callS (As := [_]) (rest := []) (M' := m_X7_isPoint) dX7_part_8 ml_RX7_83 gm_X7_isPoint sm_yX7_isPoint rfl rfl (Nat.le_of_ble_eq_true rfl) (by decide) ⟨rfl, rfl, by decide, by decide⟩ (s_X7_isPoint (fun r2 hr2 => ?_))
    refine J_if_ne (tgt := 16) dX7_part_11 (by decide) (fun c11 => ?_) (fun c11 => ?_)
    · obtain ⟨k, hk, rfl⟩ := nn_of hr1 c4
      obtain ⟨i, hi, rfl⟩ := nn_of hr2 c11
      refine J_aload_n dX7_part_16 rfl ?_
      refine J_aload_n dX7_part_17 rfl ?_
      refine J_iload_n dX7_part_18 rfl ?_
      refine J_callV (As := [_]) (rest := [_]) (M' := m_X7_livingAt) dX7_part_19 ml_RX7_106 gm_X7_livingAt gv_X7_livingAt hR.o hR.bo rfl rfl rfl (Nat.le_of_ble_eq_true rfl) (by decide) ⟨rfl, rfl, by decide, by decide⟩ (s_X7_livingAt hq hk (fun x hx => ?_))
      refine J_iload_n dX7_part_22 rfl ?_
      refine J_callV (As := [_, _]) (rest := []) (M' := m_X7_reach) dX7_part_23 ml_RX7_54 gm_X7_reach gv_X7_reach hR.o hR.bo rfl rfl rfl (Nat.le_of_ble_eq_true rfl) (by decide) ⟨rfl, rfl, by decide, by decide⟩ (s_X7_reach hq hi (fun r3 hr3 => ?_))
      refine J_istore (L' := [_, _, _, _, _]) dX7_part_26 (by decide) rfl ?_
      refine J_iload_n dX7_part_28 rfl ?_
      refine J_if_ne (tgt := 47) dX7_part_29 (by decide) (fun c29 => ?_) (fun c29 => ?_)
      · refine J_iload_n dX7_part_47 rfl ?_
        refine J_iconst (x := 1) dX7_part_48 (by decide) ?_
        refine J_icmp_ne (tgt := 61) dX7_part_49 (by decide) (fun c49 => ?_) (fun c49 => ?_)
        · refine J_iload_n dX7_part_61 rfl ?_
          refine J_iconst (x := 2) dX7_part_62 (by decide) ?_
          refine J_icmp_ne (tgt := 71) dX7_part_63 (by decide) (fun c63 => ?_) (fun c63 => ?_)
          · refine J_bipush (x := -2) dX7_part_71 (by decide) ?_
            exact J_iret dX7_part_73 rfl ⟨rfl, Nat.le_refl _⟩ (hQ _ (by unfold f_part; rw [ci_f (fun q => q ⟨nn_of hr1 c4, nn_of hr2 c11⟩), tN_n (by omega), tN_n (by omega)]; rw [sel_n (nx3 c29 c49 c63)]))
          · refine J_iload dX7_part_66 rfl ?_
            refine J_goto (tgt := 73) dX7_part_68 (by decide) ?_
            exact J_iret dX7_part_73 rfl ⟨rfl, Nat.le_refl _⟩ (hQ _ (by unfold f_part; rw [ci_f (fun q => q ⟨nn_of hr1 c4, nn_of hr2 c11⟩), tN_n (by omega), tN_n (by omega)]; rw [c63, btN_of (hr3.iff (fun i2 => lst_CM hx i i2))]; exact sel_e (j := 2) (by rfl) (by rfl)))
        · refine J_iload dX7_part_52 rfl ?_
          refine J_i2l dX7_part_54 ?_
          refine J_callS (As := [_]) (rest := []) (M' := m_X7_bits) dX7_part_55 ml_RX7_110 gm_X7_bits sm_yX7_bits rfl rfl (Nat.le_of_ble_eq_true rfl) (by decide) ⟨rfl, rfl, by decide, by decide⟩ (s_X7_bits (fun r5 hr5 => ?_))
          rw [BS.sz hx hr3] at hr5
          refine J_goto (tgt := 73) dX7_part_58 (by decide) ?_
          exact J_iret dX7_part_73 rfl ⟨rfl, Nat.le_refl _⟩ (hQ _ (by unfold f_part; rw [ci_f (fun q => q ⟨nn_of hr1 c4, nn_of hr2 c11⟩), tN_n (by omega), tN_n (by omega)]; rw [c49, hr5]; exact sel_e (j := 1) (by rfl) (by rfl)))
      · refine J_iload dX7_part_32 rfl ?_
        refine J_iload dX7_part_34 rfl ?_
        refine J_ineg dX7_part_36 ?_
        refine J_iand dX7_part_37 ?_
        refine J_iconst (x := 1) dX7_part_38 (by decide) ?_
        refine J_isub dX7_part_39 ?_
        refine J_i2l dX7_part_40 ?_
        refine J_callS (As := [_]) (rest := []) (M' := m_X7_bits) dX7_part_41 ml_RX7_110 gm_X7_bits sm_yX7_bits rfl rfl (Nat.le_of_ble_eq_true rfl) (by decide) ⟨rfl, rfl, by decide, by decide⟩ (s_X7_bits (fun r5 hr5 => ?_))
        refine J_goto (tgt := 73) dX7_part_44 (by decide) ?_
        exact J_iret dX7_part_73 rfl ⟨rfl, Nat.le_refl _⟩ (hQ _ (by obtain ⟨l, q1, q2, q3, q4⟩ := BS.low hr3 hi (Cn.rf _); rw [q4, lwN_of (ls := s.1) (m := k) (p := i) q1 ((lst_CM hx _ _).mp q2) (fun y hy z => q3 y hy ((lst_CM hx _ _).mpr z))] at hr5; unfold f_part; rw [ci_f (fun q => q ⟨nn_of hr1 c4, nn_of hr2 c11⟩), tN_n (by omega), tN_n (by omega)]; rw [c29, hr5]; exact sel_e (j := 0) (by rfl) (by rfl)))
    · refine J_iconst (x := -1) dX7_part_14 (by decide) ?_
      exact J_iret dX7_part_15 rfl ⟨rfl, Nat.le_refl _⟩ (hQ _ (by unfold f_part; rw [ci_t (fun q => (bI_0 hr2).mp c11 q.2)]))
theorem s_X7_needed {x m : Int32} (hV : VI h a s) (hQ : ∀ r, r = f_needed x m s → Q (some (.int r)) h) : MJ m_X7_needed 6 0 0 [.ref a, .int x, .int m] h Q := by
  obtain ⟨f, g, hh, sn, tx, rd, sp, nu, rm, hR, hA, ⟨hl4, hH⟩, hS, hT⟩ := hV
  have hn := hA.2.1
  have hq := hR.q hA
  refine MJ_of_J (L := [some (.ref a), some (.int x), some (.int m)]) (by decide +kernel) rfl (Nat.le_of_ble_eq_true rfl) rfl ?_
  refine J_aload_n dX7_needed_0 rfl ?_
  refine J_iload_n dX7_needed_1 rfl ?_
  refine J_callV (As := [_]) (rest := []) (M' := m_X7_isLink) dX7_needed_2 ml_RX7_99 gm_X7_isLink gv_X7_isLink hR.o hR.bo rfl rfl rfl (Nat.le_of_ble_eq_true rfl) (by decide) ⟨rfl, rfl, by decide, by decide⟩ (s_X7_isLink hq (fun r1 hr1 => ?_))
  refine J_if_eq (tgt := 15) dX7_needed_5 (by decide) (fun c5 => ?_) (fun c5 => ?_)
  · refine J_iconst (x := -1) dX7_needed_15 (by decide) ?_
    exact J_iret dX7_needed_16 rfl ⟨rfl, Nat.le_refl _⟩ (hQ _ (by unfold f_needed; rw [ci_t (fun q => (bI_0 hr1).mp c5 q.1)]))
  · refine J_iload_n dX7_needed_8 rfl ?_
    refine J_callS (As := [_]) (rest := []) (M' := m_X7_isMoment) dX7_needed_9 ml_RX7_40 gm_X7_isMoment sm_yX7_isMoment rfl rfl (Nat.le_of_ble_eq_true rfl) (by decide) ⟨rfl, rfl, by decide, by decide⟩ (s_X7_isMoment (fun r2 hr2 => ?_))
    refine J_if_ne (tgt := 17) dX7_needed_12 (by decide) (fun c12 => ?_) (fun c12 => ?_)
    · obtain ⟨j, hj, rfl⟩ := nn_of hr1 c5
      obtain ⟨y, hy⟩ := get_of hj
      obtain ⟨v1, v2, v3, v4⟩ := hA.1.2 j y hy
      obtain ⟨k, hk, rfl⟩ := nn_of hr2 c12
      refine J_aload_n dX7_needed_17 rfl ?_
      refine J_iload_n dX7_needed_18 rfl ?_
      refine J_iload_n dX7_needed_19 rfl ?_
      refine J_callV (As := [_, _]) (rest := []) (M' := m_X7_livesAt) dX7_needed_20 ml_RX7_50 gm_X7_livesAt gv_X7_livesAt hR.o hR.bo rfl rfl rfl (Nat.le_of_ble_eq_true rfl) (by decide) ⟨rfl, rfl, by decide, by decide⟩ (s_X7_livesAt hq hy (by rw [m_p1 (by omega), nI_toInt (by omega)]) (fun r3 hr3 => ?_))
      rw [nI_toInt (show k < 2 ^ 31 by omega)] at hr3
      refine J_if_ne (tgt := 29) dX7_needed_23 (by decide) (fun c23 => ?_) (fun c23 => ?_)
      · refine J_aload_n dX7_needed_29 rfl ?_
        refine J_aload_n dX7_needed_30 rfl ?_
        refine J_iload_n dX7_needed_31 rfl ?_
        refine J_callV (As := [_]) (rest := [_]) (M' := m_X7_livingAt) dX7_needed_32 ml_RX7_106 gm_X7_livingAt gv_X7_livingAt hR.o hR.bo rfl rfl rfl (Nat.le_of_ble_eq_true rfl) (by decide) ⟨rfl, rfl, by decide, by decide⟩ (s_X7_livingAt hq hk (fun x hx => ?_))
        refine J_iload_n dX7_needed_35 rfl ?_
        refine J_callV (As := [_, _]) (rest := []) (M' := m_X7_isNeeded) dX7_needed_36 ml_RX7_149 gm_X7_isNeeded gv_X7_isNeeded hR.o hR.bo rfl rfl rfl (Nat.le_of_ble_eq_true rfl) (by decide) ⟨rfl, rfl, by decide, by decide⟩ (s_X7_isNeeded hq hy (fun r5 hr5 => ?_))
        have hcx := lst_CX hx hn hj y.1 y.2.1
        refine J_if_eq (tgt := 46) dX7_needed_39 (by decide) (fun c39 => ?_) (fun c39 => ?_)
        · refine J_iconst (x := 0) dX7_needed_46 (by decide) ?_
          exact J_iret dX7_needed_47 rfl ⟨rfl, Nat.le_refl _⟩ (hQ _ (by unfold f_needed; rw [ci_f (fun q => q ⟨nn_of hr1 c5, nn_of hr2 c12⟩), tN_n (by omega), tN_n (by omega), hy]; dsimp only; rw [ci_f (fun q => q (nn_of hr3 c23)), bI_f (fun q => (bI_0 hr5).mp c39 (fun z => q.2 (hcx.mp z)))]))
        · refine J_iconst (x := 1) dX7_needed_42 (by decide) ?_
          refine J_goto (tgt := 47) dX7_needed_43 (by decide) ?_
          exact J_iret dX7_needed_47 rfl ⟨rfl, Nat.le_refl _⟩ (hQ _ (by unfold f_needed; rw [ci_f (fun q => q ⟨nn_of hr1 c5, nn_of hr2 c12⟩), tN_n (by omega), tN_n (by omega), hy]; dsimp only; rw [ci_f (fun q => q (nn_of hr3 c23)), bI_t ⟨nn_of hr3 c23, fun z => nn_of hr5 c39 (hcx.mpr z)⟩]))
      · refine J_bipush (x := -5) dX7_needed_26 (by decide) ?_
        exact J_iret dX7_needed_28 rfl ⟨rfl, Nat.le_refl _⟩ (hQ _ (by unfold f_needed; rw [ci_f (fun q => q ⟨nn_of hr1 c5, nn_of hr2 c12⟩), tN_n (by omega), tN_n (by omega), hy]; dsimp only; rw [ci_t ((bI_0 hr3).mp c23)]))
    · refine J_iconst (x := -1) dX7_needed_15 (by decide) ?_
      exact J_iret dX7_needed_16 rfl ⟨rfl, Nat.le_refl _⟩ (hQ _ (by unfold f_needed; rw [ci_t (fun q => (bI_0 hr2).mp c12 q.2)]))
theorem l_X7_odd {m0 : Nat} (hq : VQ h a ls) (hQ : ∀ r, r = fsO (OM ls) (64 - m0) m0 → Q (some (.int r)) h) : ∀ (t m : Nat), t + m = 64 → fsO (OM ls) (64 - m0) m0 = fsO (OM ls) t m → J m_X7_odd 6 0 0 0 0 11 [some (.ref a), some (.int (nI m0)), some (.int (nI m))] [] h Q := by
  intro t
  induction t with
  | zero =>
    intro m ht he
    refine J_iload_n dX7_odd_11 rfl ?_
    refine J_bipush (x := 64) dX7_odd_12 (by decide) ?_
    refine J_icmp_ge (tgt := 37) dX7_odd_14 (by decide) (fun c14 => ?_) (fun c14 => absurd ((nI_leI (a := 64) (b := m) (by omega) (by omega)).mpr (by omega)) c14)
    refine J_bipush (x := -5) dX7_odd_37 (by decide) ?_
    exact J_iret dX7_odd_39 rfl ⟨rfl, Nat.le_refl _⟩ (hQ _ (by rw [he]; rfl))
  | succ t ih =>
    intro m ht he
    have hm : m < 64 := by omega
    have e1 : fsO (OM ls) (t + 1) m = ci (OM ls m) (nI m) (fsO (OM ls) t (m + 1)) := rfl
    rw [e1] at he
    obtain ⟨fs0, hO⟩ := hq.o
    have hB := hq.bo
    refine J_iload_n dX7_odd_11 rfl ?_
    refine J_bipush (x := 64) dX7_odd_12 (by decide) ?_
    refine J_icmp_ge (tgt := 37) dX7_odd_14 (by decide) (fun c14 => absurd ((nI_leI (a := 64) (b := m) (by omega) (by omega)).mp c14) (by omega)) (fun c14 => ?_)
    refine J_aload_n dX7_odd_17 rfl ?_
    refine J_aload_n dX7_odd_18 rfl ?_
    refine J_iload_n dX7_odd_19 rfl ?_
    refine J_callV (As := [_]) (rest := [_]) (M' := m_X7_livingAt) dX7_odd_20 ml_RX7_106 gm_X7_livingAt gv_X7_livingAt hO hB rfl rfl rfl (Nat.le_of_ble_eq_true rfl) (by decide) ⟨rfl, rfl, by decide, by decide⟩ (s_X7_livingAt hq hm (fun x hx => ?_))
    refine J_callV (As := [_]) (rest := []) (M' := m_X7_isOdd) dX7_odd_23 ml_RX7_159 gm_X7_isOdd gv_X7_isOdd hO hB rfl rfl rfl (Nat.le_of_ble_eq_true rfl) (by decide) ⟨rfl, rfl, by decide, by decide⟩ (s_X7_isOdd hq (fun r5 hr5 => ?_))
    have hom := lst_OM hx
    refine J_if_eq (tgt := 31) dX7_odd_26 (by decide) (fun c26 => ?_) (fun c26 => ?_)
    · refine J_iinc (L' := [_, _, _]) dX7_odd_31 rfl (nI_i1 m) (by decide) rfl ?_
      refine J_goto (tgt := 11) dX7_odd_34 (by decide) ?_
      exact ih (m + 1) (by omega) (by rw [he, ci_f (fun q => (bI_0 hr5).mp c26 (hom.mpr q))])
    · refine J_iload_n dX7_odd_29 rfl ?_
      exact J_iret dX7_odd_30 rfl ⟨rfl, Nat.le_refl _⟩ (hQ _ (by rw [he, ci_t (hom.mp (nn_of hr5 c26))]))
theorem s_X7_odd {m : Int32} (hV : VI h a s) (hQ : ∀ r, r = f_odd m s → Q (some (.int r)) h) : MJ m_X7_odd 6 0 0 [.ref a, .int m] h Q := by
  obtain ⟨f, g, hh, sn, tx, rd, sp, nu, rm, hR, hA, ⟨hl4, hH⟩, hS, hT⟩ := hV
  have hn := hA.2.1
  have hq := hR.q hA
  refine MJ_of_J (L := [some (.ref a), some (.int m), none]) (by decide +kernel) rfl (Nat.le_of_ble_eq_true rfl) rfl ?_
  refine J_iload_n dX7_odd_0 rfl ?_
  refine J_callS (As := [_]) (rest := []) (M' := m_X7_isMoment) dX7_odd_1 ml_RX7_40 gm_X7_isMoment sm_yX7_isMoment rfl rfl (Nat.le_of_ble_eq_true rfl) (by decide) ⟨rfl, rfl, by decide, by decide⟩ (s_X7_isMoment (fun r1 hr1 => ?_))
  refine J_if_ne (tgt := 9) dX7_odd_4 (by decide) (fun c4 => ?_) (fun c4 => ?_)
  · obtain ⟨k, hk, rfl⟩ := nn_of hr1 c4
    refine J_iload_n dX7_odd_9 rfl ?_
    refine J_istore_n (L' := [_, _, _]) dX7_odd_10 (by decide) rfl ?_
    exact l_X7_odd (m0 := k) hq (fun r hr => hQ r (by unfold f_odd; rw [ci_f (fun q => q (nn_of hr1 c4)), tN_n (by omega)]; exact hr)) (64 - k) k (by omega) rfl
  · refine J_iconst (x := -1) dX7_odd_7 (by decide) ?_
    exact J_iret dX7_odd_8 rfl ⟨rfl, Nat.le_refl _⟩ (hQ _ (by unfold f_odd; rw [ci_t ((bI_0 hr1).mp c4)]))
theorem s_X7_span {m d v : Int32} (hV : VI h a s) (hQ : ∀ r, r = f_span m d v s → Q (some (.int r)) h) : MJ m_X7_span 6 0 0 [.ref a, .int m, .int d, .int v] h Q := by
  obtain ⟨f, g, hh, sn, tx, rd, sp, nu, rm, hR, hA, ⟨hl4, hH⟩, hS, hT⟩ := hV
  have hn := hA.2.1
  have hq := hR.q hA
  refine MJ_of_J (L := [some (.ref a), some (.int m), some (.int d), some (.int v)]) (by decide +kernel) rfl (Nat.le_of_ble_eq_true rfl) rfl ?_
  refine J_iload_n dX7_span_0 rfl ?_
  refine J_callS (As := [_]) (rest := []) (M' := m_X7_isMoment) dX7_span_1 ml_RX7_40 gm_X7_isMoment sm_yX7_isMoment rfl rfl (Nat.le_of_ble_eq_true rfl) (by decide) ⟨rfl, rfl, by decide, by decide⟩ (s_X7_isMoment (fun r1 hr1 => ?_))
  refine J_if_ne (tgt := 9) dX7_span_4 (by decide) (fun c4 => ?_) (fun c4 => ?_)
  · obtain ⟨k, hk, rfl⟩ := nn_of hr1 c4
    refine J_iload_n dX7_span_9 rfl ?_
    refine J_i2l dX7_span_10 ?_
    refine J_lconst (x := 0) dX7_span_11 (by decide) ?_
    refine J_ldc2 dX7_span_12 kl_RX7_172 ?_
    refine J_callS (As := [_, _, _]) (rest := []) (M' := m_X7_in) dX7_span_15 ml_RX7_34 gm_X7_in sm_yX7_in rfl rfl (Nat.le_of_ble_eq_true rfl) (by decide) ⟨rfl, rfl, by decide, by decide⟩ (s_X7_in (fun r2 hr2 => ?_))
    rw [bI_c (inI (n := 7) (by decide) (by decide))] at hr2
    refine J_if_eq (tgt := 33) dX7_span_18 (by decide) (fun c18 => ?_) (fun c18 => ?_)
    · refine J_bipush (x := -2) dX7_span_33 (by decide) ?_
      exact J_iret dX7_span_35 rfl ⟨rfl, Nat.le_refl _⟩ (hQ _ (by unfold f_span; rw [ci_f (fun q => q (nn_of hr1 c4)), ci_t ((bI_0 hr2).mp c18)]))
    · refine J_iload_n dX7_span_21 rfl ?_
      refine J_i2l dX7_span_22 ?_
      refine J_lconst (x := 0) dX7_span_23 (by decide) ?_
      refine J_ldc2 dX7_span_24 kl_RX7_174 ?_
      refine J_callS (As := [_, _, _]) (rest := []) (M' := m_X7_in) dX7_span_27 ml_RX7_34 gm_X7_in sm_yX7_in rfl rfl (Nat.le_of_ble_eq_true rfl) (by decide) ⟨rfl, rfl, by decide, by decide⟩ (s_X7_in (fun r3 hr3 => ?_))
      rw [bI_c (inI (n := 5) (by decide) (by decide))] at hr3
      refine J_if_ne (tgt := 36) dX7_span_30 (by decide) (fun c30 => ?_) (fun c30 => ?_)
      · obtain ⟨e, he, rfl⟩ := nn_of hr2 c18
        obtain ⟨w, hw, rfl⟩ := nn_of hr3 c30
        refine J_iload_n dX7_span_36 rfl ?_
        rcases sw_of (nI w) 4 (by decide) with hsw | ⟨jsw, hjsw, ejs⟩
        · refine J_tsOut (tgt := 96) dX7_span_37 (by rcases hsw with q | q; exact Or.inl q; exact Or.inr (by omega)) (by decide) ?_
          refine J_aload_n dX7_span_96 rfl ?_
          refine J_iload_n dX7_span_97 rfl ?_
          refine J_iload_n dX7_span_98 rfl ?_
          refine J_callV (As := [_, _]) (rest := []) (M' := m_X7_laidAt) dX7_span_99 ml_RX7_176 gm_X7_laidAt gv_X7_laidAt hR.o hR.bo rfl rfl rfl (Nat.le_of_ble_eq_true rfl) (by decide) ⟨rfl, rfl, by decide, by decide⟩ (s_X7_laidAt hq hk he (fun x hx => ?_))
          refine J_callS (As := [_]) (rest := []) (M' := m_X7_bits) dX7_span_102 ml_RX7_110 gm_X7_bits sm_yX7_bits rfl rfl (Nat.le_of_ble_eq_true rfl) (by decide) ⟨rfl, rfl, by decide, by decide⟩ (s_X7_bits (fun r5 hr5 => ?_))
          rw [ld_cnt hx hn hk he] at hr5
          subst hr5
          refine J_aload_n dX7_span_105 rfl ?_
          refine J_iload_n dX7_span_106 rfl ?_
          refine J_iload_n dX7_span_107 rfl ?_
          refine J_callV (As := [_, _]) (rest := [_]) (M' := m_X7_madeAt) dX7_span_108 ml_RX7_179 gm_X7_madeAt gv_X7_madeAt hR.o hR.bo rfl rfl rfl (Nat.le_of_ble_eq_true rfl) (by decide) ⟨rfl, rfl, by decide, by decide⟩ (s_X7_madeAt hq hk he (fun r6 hr6 => ?_))
          subst hr6
          refine J_isub dX7_span_111 ?_
          exact J_iret dX7_span_112 rfl ⟨rfl, Nat.le_refl _⟩ (hQ _ (by have hw4 : w = 4 := by { rw [nI_toInt (by omega)] at hsw; omega }; subst hw4; unfold f_span; rw [ci_f (fun q => q (nn_of hr1 c4)), ci_f (fun q => q (nn_of hr2 c18)), tN_n (by omega), tN_n (by omega)]; exact sel_e (j := 4) (by rfl) (by rfl)))
        · obtain rfl : w = jsw := (nI_eq (by omega) (by omega)).mp ejs
          rcases (show w = 0 ∨ w = 1 ∨ w = 2 ∨ w = 3 by omega) with rfl | rfl | rfl | rfl
          · refine J_tsIn (off := 31) (tgt := 68) dX7_span_37 (by decide) (by decide) (by decide) (by decide) ?_
            refine J_iload_n dX7_span_68 rfl ?_
            refine J_iload_n dX7_span_69 rfl ?_
            refine J_callS (As := [_, _]) (rest := []) (M' := m_X7_begin) dX7_span_70 ml_RX7_68 gm_X7_begin sm_yX7_begin rfl rfl (Nat.le_of_ble_eq_true rfl) (by decide) ⟨rfl, rfl, by decide, by decide⟩ (s_X7_begin hk he (fun r5 hr5 => ?_))
            exact J_iret dX7_span_73 rfl ⟨rfl, Nat.le_refl _⟩ (hQ _ (by unfold f_span; rw [ci_f (fun q => q (nn_of hr1 c4)), ci_f (fun q => q (nn_of hr2 c18)), tN_n (by omega), tN_n (by omega)]; rw [hr5]; exact sel_e (j := 0) (by rfl) (by rfl)))
          · refine J_tsIn (off := 37) (tgt := 74) dX7_span_37 (by decide) (by decide) (by decide) (by decide) ?_
            refine J_iload_n dX7_span_74 rfl ?_
            refine J_callS (As := [_]) (rest := []) (M' := m_X7_spanLong) dX7_span_75 ml_RX7_64 gm_X7_spanLong sm_yX7_spanLong rfl rfl (Nat.le_of_ble_eq_true rfl) (by decide) ⟨rfl, rfl, by decide, by decide⟩ (s_X7_spanLong he (fun r5 hr5 => ?_))
            exact J_iret dX7_span_78 rfl ⟨rfl, Nat.le_refl _⟩ (hQ _ (by unfold f_span; rw [ci_f (fun q => q (nn_of hr1 c4)), ci_f (fun q => q (nn_of hr2 c18)), tN_n (by omega), tN_n (by omega)]; rw [hr5]; exact sel_e (j := 1) (by rfl) (by rfl)))
          · refine J_tsIn (off := 42) (tgt := 79) dX7_span_37 (by decide) (by decide) (by decide) (by decide) ?_
            refine J_aload_n dX7_span_79 rfl ?_
            refine J_iload_n dX7_span_80 rfl ?_
            refine J_iload_n dX7_span_81 rfl ?_
            refine J_callV (As := [_, _]) (rest := []) (M' := m_X7_laidAt) dX7_span_82 ml_RX7_176 gm_X7_laidAt gv_X7_laidAt hR.o hR.bo rfl rfl rfl (Nat.le_of_ble_eq_true rfl) (by decide) ⟨rfl, rfl, by decide, by decide⟩ (s_X7_laidAt hq hk he (fun x hx => ?_))
            refine J_callS (As := [_]) (rest := []) (M' := m_X7_bits) dX7_span_85 ml_RX7_110 gm_X7_bits sm_yX7_bits rfl rfl (Nat.le_of_ble_eq_true rfl) (by decide) ⟨rfl, rfl, by decide, by decide⟩ (s_X7_bits (fun r5 hr5 => ?_))
            rw [ld_cnt hx hn hk he] at hr5
            subst hr5
            exact J_iret dX7_span_88 rfl ⟨rfl, Nat.le_refl _⟩ (hQ _ (by unfold f_span; rw [ci_f (fun q => q (nn_of hr1 c4)), ci_f (fun q => q (nn_of hr2 c18)), tN_n (by omega), tN_n (by omega)]; exact sel_e (j := 2) (by rfl) (by rfl)))
          · refine J_tsIn (off := 52) (tgt := 89) dX7_span_37 (by decide) (by decide) (by decide) (by decide) ?_
            refine J_aload_n dX7_span_89 rfl ?_
            refine J_iload_n dX7_span_90 rfl ?_
            refine J_iload_n dX7_span_91 rfl ?_
            refine J_callV (As := [_, _]) (rest := []) (M' := m_X7_madeAt) dX7_span_92 ml_RX7_179 gm_X7_madeAt gv_X7_madeAt hR.o hR.bo rfl rfl rfl (Nat.le_of_ble_eq_true rfl) (by decide) ⟨rfl, rfl, by decide, by decide⟩ (s_X7_madeAt hq hk he (fun r5 hr5 => ?_))
            exact J_iret dX7_span_95 rfl ⟨rfl, Nat.le_refl _⟩ (hQ _ (by unfold f_span; rw [ci_f (fun q => q (nn_of hr1 c4)), ci_f (fun q => q (nn_of hr2 c18)), tN_n (by omega), tN_n (by omega)]; rw [hr5]; exact sel_e (j := 3) (by rfl) (by rfl)))
      · refine J_bipush (x := -2) dX7_span_33 (by decide) ?_
        exact J_iret dX7_span_35 rfl ⟨rfl, Nat.le_refl _⟩ (hQ _ (by unfold f_span; rw [ci_f (fun q => q (nn_of hr1 c4)), ci_f (fun q => q (nn_of hr2 c18))]; rw [sel_n ((bI_0 hr3).mp c30)]))
  · refine J_iconst (x := -1) dX7_span_7 (by decide) ?_
    exact J_iret dX7_span_8 rfl ⟨rfl, Nat.le_refl _⟩ (hQ _ (by unfold f_span; rw [ci_t ((bI_0 hr1).mp c4)]))
theorem s_X7_count {v : Int32} (hV : VI h a s) (hQ : ∀ r, r = f_count v s → Q (some (.int r)) h) : MJ m_X7_count 6 0 0 [.ref a, .int v] h Q := by
  obtain ⟨f, g, hh, sn, tx, rd, sp, nu, rm, hR, hA, ⟨hl4, hH⟩, hS, hT⟩ := hV
  have hn := hA.2.1
  have hq := hR.q hA
  refine MJ_of_J (L := [some (.ref a), some (.int v)]) (by decide +kernel) rfl (Nat.le_of_ble_eq_true rfl) rfl ?_
  refine J_iload_n dX7_count_0 rfl ?_
  rcases sw_of v 9 (by decide) with hsw | ⟨jsw, hjsw, rfl⟩
  · refine J_tsOut (tgt := 91) dX7_count_1 (by rcases hsw with q | q; exact Or.inl q; exact Or.inr (by omega)) (by decide) ?_
    refine J_bipush (x := -2) dX7_count_91 (by decide) ?_
    exact J_iret dX7_count_93 rfl ⟨rfl, Nat.le_refl _⟩ (hQ _ (by unfold f_count; rw [sel_o (Nat.le_of_ble_eq_true rfl) hsw]))
  · rcases (show jsw = 0 ∨ jsw = 1 ∨ jsw = 2 ∨ jsw = 3 ∨ jsw = 4 ∨ jsw = 5 ∨ jsw = 6 ∨ jsw = 7 ∨ jsw = 8 by omega) with rfl | rfl | rfl | rfl | rfl | rfl | rfl | rfl | rfl
    · refine J_tsIn (off := 51) (tgt := 52) dX7_count_1 (by decide) (by decide) (by decide) (by decide) ?_
      refine J_aload_n dX7_count_52 rfl ?_
      refine J_get (k := 0) dX7_count_53 gc_7 fl_RX7_7 (by decide) hR.o hR.bo rfl ?_
      refine J_iconst (x := 0) dX7_count_56 (by decide) ?_
      refine J_iald dX7_count_57 hR.c1 hR.b1 (vp_in_nI (n := 0) (by decide) (by decide)) ?_
      rw [show (0 : Int32).toNatClampNeg = 0 from rfl, hA.1.1]
      exact J_iret dX7_count_58 rfl ⟨rfl, Nat.le_refl _⟩ (hQ _ (by unfold f_count; exact sel_e (j := 0) (by rfl) (by rfl)))
    · refine J_tsIn (off := 58) (tgt := 59) dX7_count_1 (by decide) (by decide) (by decide) (by decide) ?_
      refine J_aload_n dX7_count_59 rfl ?_
      refine J_iload_n dX7_count_60 rfl ?_
      refine J_callV (As := [_]) (rest := []) (M' := m_X7_ofSpans) dX7_count_61 ml_RX7_182 gm_X7_ofSpans gv_X7_ofSpans hR.o hR.bo rfl rfl rfl (Nat.le_of_ble_eq_true rfl) (by decide) ⟨rfl, rfl, by decide, by decide⟩ (s_X7_ofSpans hq (fun r5 hr5 => ?_))
      exact J_iret dX7_count_64 rfl ⟨rfl, Nat.le_refl _⟩ (hQ _ (by rw [hr5, ci_t (by rfl)]; unfold f_count; exact sel_e (j := 1) (by rfl) (by rfl)))
    · refine J_tsIn (off := 58) (tgt := 59) dX7_count_1 (by decide) (by decide) (by decide) (by decide) ?_
      refine J_aload_n dX7_count_59 rfl ?_
      refine J_iload_n dX7_count_60 rfl ?_
      refine J_callV (As := [_]) (rest := []) (M' := m_X7_ofSpans) dX7_count_61 ml_RX7_182 gm_X7_ofSpans gv_X7_ofSpans hR.o hR.bo rfl rfl rfl (Nat.le_of_ble_eq_true rfl) (by decide) ⟨rfl, rfl, by decide, by decide⟩ (s_X7_ofSpans hq (fun r5 hr5 => ?_))
      exact J_iret dX7_count_64 rfl ⟨rfl, Nat.le_refl _⟩ (hQ _ (by rw [hr5, ci_f (by decide)]; unfold f_count; exact sel_e (j := 2) (by rfl) (by rfl)))
    · refine J_tsIn (off := 64) (tgt := 65) dX7_count_1 (by decide) (by decide) (by decide) (by decide) ?_
      refine J_bipush (x := 16) dX7_count_65 (by decide) ?_
      refine J_aload_n dX7_count_67 rfl ?_
      refine J_bipush (x := 6) dX7_count_68 (by decide) ?_
      refine J_callV (As := [_]) (rest := [_]) (M' := m_X7_ofMoments) dX7_count_70 ml_RX7_185 gm_X7_ofMoments gv_X7_ofMoments hR.o hR.bo rfl rfl rfl (Nat.le_of_ble_eq_true rfl) (by decide) ⟨rfl, rfl, by decide, by decide⟩ (s_X7_ofMoments hq (fun r5 hr5 => ?_))
      refine J_isub dX7_count_73 ?_
      exact J_iret dX7_count_74 rfl ⟨rfl, Nat.le_refl _⟩ (hQ _ (by rw [hr5, ci_f (by decide), ci_f (by decide), show (16 : Int32) - nI (minN (pts s.1) 64) = nI (mx2 (stN s.1) 64) from mx_i s.1]; unfold f_count; exact sel_e (j := 3) (by rfl) (by rfl)))
    · refine J_tsIn (off := 74) (tgt := 75) dX7_count_1 (by decide) (by decide) (by decide) (by decide) ?_
      refine J_aload_n dX7_count_75 rfl ?_
      refine J_iload_n dX7_count_76 rfl ?_
      refine J_callV (As := [_]) (rest := []) (M' := m_X7_ofMoments) dX7_count_77 ml_RX7_185 gm_X7_ofMoments gv_X7_ofMoments hR.o hR.bo rfl rfl rfl (Nat.le_of_ble_eq_true rfl) (by decide) ⟨rfl, rfl, by decide, by decide⟩ (s_X7_ofMoments hq (fun r5 hr5 => ?_))
      exact J_iret dX7_count_80 rfl ⟨rfl, Nat.le_refl _⟩ (hQ _ (by rw [hr5, ci_t (by rfl)]; unfold f_count; exact sel_e (j := 4) (by rfl) (by rfl)))
    · refine J_tsIn (off := 74) (tgt := 75) dX7_count_1 (by decide) (by decide) (by decide) (by decide) ?_
      refine J_aload_n dX7_count_75 rfl ?_
      refine J_iload_n dX7_count_76 rfl ?_
      refine J_callV (As := [_]) (rest := []) (M' := m_X7_ofMoments) dX7_count_77 ml_RX7_185 gm_X7_ofMoments gv_X7_ofMoments hR.o hR.bo rfl rfl rfl (Nat.le_of_ble_eq_true rfl) (by decide) ⟨rfl, rfl, by decide, by decide⟩ (s_X7_ofMoments hq (fun r5 hr5 => ?_))
      exact J_iret dX7_count_80 rfl ⟨rfl, Nat.le_refl _⟩ (hQ _ (by rw [hr5, ci_f (by decide), ci_t (by rfl)]; unfold f_count; exact sel_e (j := 5) (by rfl) (by rfl)))
    · refine J_tsIn (off := 74) (tgt := 75) dX7_count_1 (by decide) (by decide) (by decide) (by decide) ?_
      refine J_aload_n dX7_count_75 rfl ?_
      refine J_iload_n dX7_count_76 rfl ?_
      refine J_callV (As := [_]) (rest := []) (M' := m_X7_ofMoments) dX7_count_77 ml_RX7_185 gm_X7_ofMoments gv_X7_ofMoments hR.o hR.bo rfl rfl rfl (Nat.le_of_ble_eq_true rfl) (by decide) ⟨rfl, rfl, by decide, by decide⟩ (s_X7_ofMoments hq (fun r5 hr5 => ?_))
      exact J_iret dX7_count_80 rfl ⟨rfl, Nat.le_refl _⟩ (hQ _ (by rw [hr5, ci_f (by decide), ci_f (by decide)]; unfold f_count; exact sel_e (j := 6) (by rfl) (by rfl)))
    · refine J_tsIn (off := 80) (tgt := 81) dX7_count_1 (by decide) (by decide) (by decide) (by decide) ?_
      refine J_aload_n dX7_count_81 rfl ?_
      refine J_get (k := 3) dX7_count_82 gc_7 fl_RX7_28 (by decide) hR.o hR.bo rfl ?_
      exact J_iret dX7_count_85 rfl ⟨rfl, Nat.le_refl _⟩ (hQ _ (by unfold f_count; exact sel_e (j := 7) (by rfl) (by rfl)))
    · refine J_tsIn (off := 85) (tgt := 86) dX7_count_1 (by decide) (by decide) (by decide) (by decide) ?_
      refine J_aload_n dX7_count_86 rfl ?_
      refine J_get (k := 7) dX7_count_87 gc_7 fl_RX7_113 (by decide) hR.o hR.bo rfl ?_
      exact J_iret dX7_count_90 rfl ⟨rfl, Nat.le_refl _⟩ (hQ _ (by unfold f_count; exact sel_e (j := 8) (by rfl) (by rfl)))
theorem nI_m5 {m : Nat} (hm : m < 2 ^ 31) : ¬ nI m = -5 := fun e => by
  have h1 := congrArg Int32.toInt e
  rw [nI_toInt hm] at h1
  have h2 : (-5 : Int32).toInt = -5 := by decide
  omega
theorem l_X7_together {x y : Nat} {v : Int32} (hq : VQ h a ls) (hx : x < 16) (hy : y < 16) (K : ∀ mn fi la ro lo bg, tgN (fun m => CM ls m x y) 64 = (mn, fi, la, ro, lo, bg) → J m_X7_together 6 0 0 0 0 169 [some (.ref a), some (.int (nI x)), some (.int (nI y)), some (.int v), some (.int (nI mn)), some (.int fi), some (.int la), some (.int (nI ro)), some (.int (nI lo)), some (.int bg), some (.int (nI 64)), none] [] h Q) : ∀ (t m mn : Nat) (fi la : Int32) (ro lo : Nat) (bg : Int32), 64 - m < t → m ≤ 64 → tgN (fun m => CM ls m x y) m = (mn, fi, la, ro, lo, bg) → mn ≤ m ∧ ro ≤ m ∧ lo ≤ m → (fi = -5 ↔ mn = 0) → J m_X7_together 6 0 0 0 0 40 [some (.ref a), some (.int (nI x)), some (.int (nI y)), some (.int v), some (.int (nI mn)), some (.int fi), some (.int la), some (.int (nI ro)), some (.int (nI lo)), some (.int bg), some (.int (nI m)), none] [] h Q := by
  intro t
  induction t with
  | zero => intro m mn fi la ro lo bg ht; omega
  | succ t ih =>
    intro m mn fi la ro lo bg ht hm hT hb hfi
    obtain ⟨hb1, hb2, hb3⟩ := hb
    obtain ⟨fs0, hO⟩ := hq.o
    have hB := hq.bo
    have hst : tgN (fun m => CM ls m x y) (m + 1) = tgS (fun m => CM ls m x y) m (tgN (fun m => CM ls m x y) m) := rfl
    rw [hT] at hst
    refine J_iload dX7_together_40 rfl ?_
    refine J_bipush (x := 64) dX7_together_42 (by decide) ?_
    refine J_icmp_ge (tgt := 169) dX7_together_44 (by decide) (fun c44 => ?_) (fun c44 => ?_)
    · have c44 : 64 ≤ m := (nI_leI (a := 64) (b := m) (by omega) (by omega)).mp c44
      obtain rfl : m = 64 := by omega
      exact K _ _ _ _ _ _ hT
    · have c44 : m < 64 := Nat.not_le.mp (fun q => c44 ((nI_leI (a := 64) (b := m) (by omega) (by omega)).mpr q))
      refine J_aload_n dX7_together_47 rfl ?_
      refine J_aload_n dX7_together_48 rfl ?_
      refine J_iload dX7_together_49 rfl ?_
      refine J_callV (As := [_]) (rest := [_]) (M' := m_X7_livingAt) dX7_together_51 ml_RX7_106 gm_X7_livingAt gv_X7_livingAt hO hB rfl rfl rfl (Nat.le_of_ble_eq_true rfl) (by decide) ⟨rfl, rfl, by decide, by decide⟩ (s_X7_livingAt hq c44 (fun z hz => ?_))
      refine J_iload_n dX7_together_54 rfl ?_
      refine J_iload_n dX7_together_55 rfl ?_
      refine J_callV (As := [_, _, _]) (rest := []) (M' := m_X7_join) dX7_together_56 ml_RX7_60 gm_X7_join gv_X7_join hO hB rfl rfl rfl (Nat.le_of_ble_eq_true rfl) (by decide) ⟨rfl, rfl, by decide, by decide⟩ (s_X7_join hq hx hy (fun r5 hr5 => ?_))
      have hcm := lst_CM hz x y
      refine J_istore (L' := [_, _, _, _, _, _, _, _, _, _, _, _]) dX7_together_59 (by decide) rfl ?_
      rcases Classical.em (CM ls m x y) with hp | hp
      · have e5 : r5 = 1 := hr5.trans (bI_t (hcm.mpr hp))
        subst e5
        refine J_iload dX7_together_61 rfl ?_
        refine J_if_eq (tgt := 73) dX7_together_63 (by decide) (fun c63 => absurd c63 (by decide)) (fun c63 => ?_)
        refine J_iload dX7_together_66 rfl ?_
        refine J_iconst (x := 1) dX7_together_68 (by decide) ?_
        refine J_iadd dX7_together_69 ?_
        refine J_goto (tgt := 74) dX7_together_70 (by decide) ?_
        rw [nI_1]
        refine J_istore (L' := [_, _, _, _, _, _, _, _, _, _, _, _]) dX7_together_74 (by decide) rfl ?_
        refine J_iload dX7_together_76 rfl ?_
        refine J_iload dX7_together_78 rfl ?_
        refine J_if_eq (tgt := 87) dX7_together_80 (by decide) (fun c80 => absurd c80 (by decide)) (fun c80 => ?_)
        refine J_iconst (x := 1) dX7_together_83 (by decide) ?_
        refine J_goto (tgt := 88) dX7_together_84 (by decide) ?_
        refine J_iadd dX7_together_88 ?_
        rw [nI_1]
        refine J_istore (L' := [_, _, _, _, _, _, _, _, _, _, _, _]) dX7_together_89 (by decide) rfl ?_
        refine J_iload dX7_together_91 rfl ?_
        refine J_if_eq (tgt := 108) dX7_together_93 (by decide) (fun c93 => absurd c93 (by decide)) (fun c93 => ?_)
        refine J_iload dX7_together_96 rfl ?_
        refine J_bipush (x := -5) dX7_together_98 (by decide) ?_
        refine J_icmp_ne (tgt := 108) dX7_together_100 (by decide) (fun c100 => ?_) (fun c100 => ?_)
        · refine J_iload dX7_together_108 rfl ?_
          refine J_istore (L' := [_, _, _, _, _, _, _, _, _, _, _, _]) dX7_together_110 (by decide) rfl ?_
          refine J_iload dX7_together_112 rfl ?_
          refine J_if_eq (tgt := 122) dX7_together_114 (by decide) (fun c114 => absurd c114 (by decide)) (fun c114 => ?_)
          refine J_iload dX7_together_117 rfl ?_
          refine J_goto (tgt := 124) dX7_together_119 (by decide) ?_
          refine J_istore (L' := [_, _, _, _, _, _, _, _, _, _, _, _]) dX7_together_124 (by decide) rfl ?_
          refine J_iload dX7_together_126 rfl ?_
          refine J_iload dX7_together_128 rfl ?_
          refine J_icmp_le (tgt := 143) dX7_together_130 (by decide) (fun c130 => ?_) (fun c130 => ?_)
          · refine J_iload dX7_together_143 rfl ?_
            refine J_istore (L' := [_, _, _, _, _, _, _, _, _, _, _, _]) dX7_together_145 (by decide) rfl ?_
            refine J_iload dX7_together_147 rfl ?_
            refine J_iload dX7_together_149 rfl ?_
            refine J_icmp_le (tgt := 159) dX7_together_151 (by decide) (fun c151 => ?_) (fun c151 => ?_)
            · refine J_iload dX7_together_159 rfl ?_
              refine J_istore (L' := [_, _, _, _, _, _, _, _, _, _, _, _]) dX7_together_161 (by decide) rfl ?_
              refine J_iinc (L' := [_, _, _, _, _, _, _, _, _, _, _, _]) dX7_together_163 rfl (nI_i1 m) (by decide) rfl ?_
              refine J_goto (tgt := 40) dX7_together_166 (by decide) ?_
              have hq2 : ¬ (CM ls m x y ∧ mn = 0) := fun q => c100 (hfi.mpr q.2)
              have hs : ¬ lo < ro + 1 := Nat.not_lt.mpr ((nI_leI (by omega) (by omega)).mp c130)
              have hst2 := hst
              unfold tgS at hst2
              simp only [ci_t hp, ci_f hq2, ci_f hs] at hst2
              refine J_drop [11] rfl ?_
              exact ih (m + 1) (mn + 1) fi (nI m) (ro + 1) lo bg (by omega) (by omega) hst2 (by refine ⟨?_, ?_, ?_⟩ <;> omega) ⟨fun q => absurd q c100, fun q => by omega⟩
            · refine J_iload dX7_together_154 rfl ?_
              refine J_goto (tgt := 161) dX7_together_156 (by decide) ?_
              refine J_istore (L' := [_, _, _, _, _, _, _, _, _, _, _, _]) dX7_together_161 (by decide) rfl ?_
              refine J_iinc (L' := [_, _, _, _, _, _, _, _, _, _, _, _]) dX7_together_163 rfl (nI_i1 m) (by decide) rfl ?_
              refine J_goto (tgt := 40) dX7_together_166 (by decide) ?_
              exact absurd c130 c151
          · refine J_iload dX7_together_133 rfl ?_
            refine J_iload dX7_together_135 rfl ?_
            refine J_isub dX7_together_137 ?_
            refine J_iconst (x := 1) dX7_together_138 (by decide) ?_
            refine J_iadd dX7_together_139 ?_
            refine J_goto (tgt := 145) dX7_together_140 (by decide) ?_
            refine J_istore (L' := [_, _, _, _, _, _, _, _, _, _, _, _]) dX7_together_145 (by decide) rfl ?_
            refine J_iload dX7_together_147 rfl ?_
            refine J_iload dX7_together_149 rfl ?_
            refine J_icmp_le (tgt := 159) dX7_together_151 (by decide) (fun c151 => ?_) (fun c151 => ?_)
            · refine J_iload dX7_together_159 rfl ?_
              refine J_istore (L' := [_, _, _, _, _, _, _, _, _, _, _, _]) dX7_together_161 (by decide) rfl ?_
              refine J_iinc (L' := [_, _, _, _, _, _, _, _, _, _, _, _]) dX7_together_163 rfl (nI_i1 m) (by decide) rfl ?_
              refine J_goto (tgt := 40) dX7_together_166 (by decide) ?_
              exact absurd c151 c130
            · refine J_iload dX7_together_154 rfl ?_
              refine J_goto (tgt := 161) dX7_together_156 (by decide) ?_
              refine J_istore (L' := [_, _, _, _, _, _, _, _, _, _, _, _]) dX7_together_161 (by decide) rfl ?_
              refine J_iinc (L' := [_, _, _, _, _, _, _, _, _, _, _, _]) dX7_together_163 rfl (nI_i1 m) (by decide) rfl ?_
              refine J_goto (tgt := 40) dX7_together_166 (by decide) ?_
              have hq2 : ¬ (CM ls m x y ∧ mn = 0) := fun q => c100 (hfi.mpr q.2)
              have hs : lo < ro + 1 := Nat.not_le.mp (fun q => c130 ((nI_leI (by omega) (by omega)).mpr q))
              have hst2 := hst
              unfold tgS at hst2
              simp only [ci_t hp, ci_f hq2, ci_t hs] at hst2
              refine J_drop [11] rfl ?_
              exact ih (m + 1) (mn + 1) fi (nI m) (ro + 1) (ro + 1) (nI m - nI (ro + 1) + 1) (by omega) (by omega) hst2 (by refine ⟨?_, ?_, ?_⟩ <;> omega) ⟨fun q => absurd q c100, fun q => by omega⟩
        · refine J_iload dX7_together_103 rfl ?_
          refine J_goto (tgt := 110) dX7_together_105 (by decide) ?_
          refine J_istore (L' := [_, _, _, _, _, _, _, _, _, _, _, _]) dX7_together_110 (by decide) rfl ?_
          refine J_iload dX7_together_112 rfl ?_
          refine J_if_eq (tgt := 122) dX7_together_114 (by decide) (fun c114 => absurd c114 (by decide)) (fun c114 => ?_)
          refine J_iload dX7_together_117 rfl ?_
          refine J_goto (tgt := 124) dX7_together_119 (by decide) ?_
          refine J_istore (L' := [_, _, _, _, _, _, _, _, _, _, _, _]) dX7_together_124 (by decide) rfl ?_
          refine J_iload dX7_together_126 rfl ?_
          refine J_iload dX7_together_128 rfl ?_
          refine J_icmp_le (tgt := 143) dX7_together_130 (by decide) (fun c130 => ?_) (fun c130 => ?_)
          · refine J_iload dX7_together_143 rfl ?_
            refine J_istore (L' := [_, _, _, _, _, _, _, _, _, _, _, _]) dX7_together_145 (by decide) rfl ?_
            refine J_iload dX7_together_147 rfl ?_
            refine J_iload dX7_together_149 rfl ?_
            refine J_icmp_le (tgt := 159) dX7_together_151 (by decide) (fun c151 => ?_) (fun c151 => ?_)
            · refine J_iload dX7_together_159 rfl ?_
              refine J_istore (L' := [_, _, _, _, _, _, _, _, _, _, _, _]) dX7_together_161 (by decide) rfl ?_
              refine J_iinc (L' := [_, _, _, _, _, _, _, _, _, _, _, _]) dX7_together_163 rfl (nI_i1 m) (by decide) rfl ?_
              refine J_goto (tgt := 40) dX7_together_166 (by decide) ?_
              have hq2 : CM ls m x y ∧ mn = 0 := ⟨hp, hfi.mp c100⟩
              have hs : ¬ lo < ro + 1 := Nat.not_lt.mpr ((nI_leI (by omega) (by omega)).mp c130)
              have hst2 := hst
              unfold tgS at hst2
              simp only [ci_t hp, ci_t hq2, ci_f hs] at hst2
              refine J_drop [11] rfl ?_
              exact ih (m + 1) (mn + 1) (nI m) (nI m) (ro + 1) lo bg (by omega) (by omega) hst2 (by refine ⟨?_, ?_, ?_⟩ <;> omega) ⟨fun q => absurd q (nI_m5 (by omega)), fun q => by omega⟩
            · refine J_iload dX7_together_154 rfl ?_
              refine J_goto (tgt := 161) dX7_together_156 (by decide) ?_
              refine J_istore (L' := [_, _, _, _, _, _, _, _, _, _, _, _]) dX7_together_161 (by decide) rfl ?_
              refine J_iinc (L' := [_, _, _, _, _, _, _, _, _, _, _, _]) dX7_together_163 rfl (nI_i1 m) (by decide) rfl ?_
              refine J_goto (tgt := 40) dX7_together_166 (by decide) ?_
              exact absurd c130 c151
          · refine J_iload dX7_together_133 rfl ?_
            refine J_iload dX7_together_135 rfl ?_
            refine J_isub dX7_together_137 ?_
            refine J_iconst (x := 1) dX7_together_138 (by decide) ?_
            refine J_iadd dX7_together_139 ?_
            refine J_goto (tgt := 145) dX7_together_140 (by decide) ?_
            refine J_istore (L' := [_, _, _, _, _, _, _, _, _, _, _, _]) dX7_together_145 (by decide) rfl ?_
            refine J_iload dX7_together_147 rfl ?_
            refine J_iload dX7_together_149 rfl ?_
            refine J_icmp_le (tgt := 159) dX7_together_151 (by decide) (fun c151 => ?_) (fun c151 => ?_)
            · refine J_iload dX7_together_159 rfl ?_
              refine J_istore (L' := [_, _, _, _, _, _, _, _, _, _, _, _]) dX7_together_161 (by decide) rfl ?_
              refine J_iinc (L' := [_, _, _, _, _, _, _, _, _, _, _, _]) dX7_together_163 rfl (nI_i1 m) (by decide) rfl ?_
              refine J_goto (tgt := 40) dX7_together_166 (by decide) ?_
              exact absurd c151 c130
            · refine J_iload dX7_together_154 rfl ?_
              refine J_goto (tgt := 161) dX7_together_156 (by decide) ?_
              refine J_istore (L' := [_, _, _, _, _, _, _, _, _, _, _, _]) dX7_together_161 (by decide) rfl ?_
              refine J_iinc (L' := [_, _, _, _, _, _, _, _, _, _, _, _]) dX7_together_163 rfl (nI_i1 m) (by decide) rfl ?_
              refine J_goto (tgt := 40) dX7_together_166 (by decide) ?_
              have hq2 : CM ls m x y ∧ mn = 0 := ⟨hp, hfi.mp c100⟩
              have hs : lo < ro + 1 := Nat.not_le.mp (fun q => c130 ((nI_leI (by omega) (by omega)).mpr q))
              have hst2 := hst
              unfold tgS at hst2
              simp only [ci_t hp, ci_t hq2, ci_t hs] at hst2
              refine J_drop [11] rfl ?_
              exact ih (m + 1) (mn + 1) (nI m) (nI m) (ro + 1) (ro + 1) (nI m - nI (ro + 1) + 1) (by omega) (by omega) hst2 (by refine ⟨?_, ?_, ?_⟩ <;> omega) ⟨fun q => absurd q (nI_m5 (by omega)), fun q => by omega⟩
      · have e5 : r5 = 0 := hr5.trans (bI_f (fun q => hp (hcm.mp q)))
        subst e5
        refine J_iload dX7_together_61 rfl ?_
        refine J_if_eq (tgt := 73) dX7_together_63 (by decide) (fun c63 => ?_) (fun c63 => absurd rfl c63)
        refine J_iconst (x := 0) dX7_together_73 (by decide) ?_
        refine J_istore (L' := [_, _, _, _, _, _, _, _, _, _, _, _]) dX7_together_74 (by decide) rfl ?_
        refine J_iload dX7_together_76 rfl ?_
        refine J_iload dX7_together_78 rfl ?_
        refine J_if_eq (tgt := 87) dX7_together_80 (by decide) (fun c80 => ?_) (fun c80 => absurd rfl c80)
        refine J_iconst (x := 0) dX7_together_87 (by decide) ?_
        refine J_iadd dX7_together_88 ?_
        rw [show nI mn + 0 = nI mn from nI_add mn 0]
        refine J_istore (L' := [_, _, _, _, _, _, _, _, _, _, _, _]) dX7_together_89 (by decide) rfl ?_
        refine J_iload dX7_together_91 rfl ?_
        refine J_if_eq (tgt := 108) dX7_together_93 (by decide) (fun c93 => ?_) (fun c93 => absurd rfl c93)
        refine J_iload dX7_together_108 rfl ?_
        refine J_istore (L' := [_, _, _, _, _, _, _, _, _, _, _, _]) dX7_together_110 (by decide) rfl ?_
        refine J_iload dX7_together_112 rfl ?_
        refine J_if_eq (tgt := 122) dX7_together_114 (by decide) (fun c114 => ?_) (fun c114 => absurd rfl c114)
        refine J_iload dX7_together_122 rfl ?_
        refine J_istore (L' := [_, _, _, _, _, _, _, _, _, _, _, _]) dX7_together_124 (by decide) rfl ?_
        refine J_iload dX7_together_126 rfl ?_
        refine J_iload dX7_together_128 rfl ?_
        refine J_icmp_le (tgt := 143) dX7_together_130 (by decide) (fun c130 => ?_) (fun c130 => absurd ((nI_leI (a := 0) (b := lo) (by omega) (by omega)).mpr (Nat.zero_le _)) c130)
        refine J_iload dX7_together_143 rfl ?_
        refine J_istore (L' := [_, _, _, _, _, _, _, _, _, _, _, _]) dX7_together_145 (by decide) rfl ?_
        refine J_iload dX7_together_147 rfl ?_
        refine J_iload dX7_together_149 rfl ?_
        refine J_icmp_le (tgt := 159) dX7_together_151 (by decide) (fun c151 => ?_) (fun c151 => absurd ((nI_leI (a := 0) (b := lo) (by omega) (by omega)).mpr (Nat.zero_le _)) c151)
        refine J_iload dX7_together_159 rfl ?_
        refine J_istore (L' := [_, _, _, _, _, _, _, _, _, _, _, _]) dX7_together_161 (by decide) rfl ?_
        refine J_iinc (L' := [_, _, _, _, _, _, _, _, _, _, _, _]) dX7_together_163 rfl (nI_i1 m) (by decide) rfl ?_
        refine J_goto (tgt := 40) dX7_together_166 (by decide) ?_
        have hq2 : ¬ (CM ls m x y ∧ mn = 0) := fun q => hp q.1
        have hs : ¬ lo < 0 := Nat.not_lt_zero _
        have hst2 := hst
        unfold tgS at hst2
        simp only [ci_f hp, ci_f hq2, ci_f hs] at hst2
        refine J_drop [11] rfl ?_
        exact ih (m + 1) mn fi la 0 lo bg (by omega) (by omega) hst2 (by refine ⟨?_, ?_, ?_⟩ <;> omega) hfi
theorem s_X7_together {x y v : Int32} (hV : VI h a s) (hQ : ∀ r, r = f_tog x y v s → Q (some (.int r)) h) : MJ m_X7_together 6 0 0 [.ref a, .int x, .int y, .int v] h Q := by
  obtain ⟨f, g, hh, sn, tx, rd, sp, nu, rm, hR, hA, ⟨hl4, hH⟩, hS, hT⟩ := hV
  have hn := hA.2.1
  have hq := hR.q hA
  refine MJ_of_J (L := [some (.ref a), some (.int x), some (.int y), some (.int v), none, none, none, none, none, none, none, none]) (by decide +kernel) rfl (Nat.le_of_ble_eq_true rfl) rfl ?_
  refine J_iload_n dX7_together_0 rfl ?_
  refine J_callS (As := [_]) (rest := []) (M' := m_X7_isPoint) dX7_together_1 ml_RX7_83 gm_X7_isPoint sm_yX7_isPoint rfl rfl (Nat.le_of_ble_eq_true rfl) (by decide) ⟨rfl, rfl, by decide, by decide⟩ (s_X7_isPoint (fun r1 hr1 => ?_))
  refine J_if_eq (tgt := 14) dX7_together_4 (by decide) (fun c4 => ?_) (fun c4 => ?_)
  · refine J_iconst (x := -1) dX7_together_14 (by decide) ?_
    exact J_iret dX7_together_15 rfl ⟨rfl, Nat.le_refl _⟩ (hQ _ (by unfold f_tog; rw [ci_t (fun q => (bI_0 hr1).mp c4 q.1)]))
  · refine J_iload_n dX7_together_7 rfl ?_
    refine J_callS (As := [_]) (rest := []) (M' := m_X7_isPoint) dX7_together_8 ml_RX7_83 gm_X7_isPoint sm_yX7_isPoint rfl rfl (Nat.le_of_ble_eq_true rfl) (by decide) ⟨rfl, rfl, by decide, by decide⟩ (s_X7_isPoint (fun r2 hr2 => ?_))
    refine J_if_ne (tgt := 16) dX7_together_11 (by decide) (fun c11 => ?_) (fun c11 => ?_)
    · obtain ⟨i, hi, rfl⟩ := nn_of hr1 c4
      obtain ⟨j, hj, rfl⟩ := nn_of hr2 c11
      refine J_iconst (x := 0) dX7_together_16 (by decide) ?_
      refine J_istore (L' := [_, _, _, _, _, _, _, _, _, _, _, _]) dX7_together_17 (by decide) rfl ?_
      refine J_bipush (x := -5) dX7_together_19 (by decide) ?_
      refine J_istore (L' := [_, _, _, _, _, _, _, _, _, _, _, _]) dX7_together_21 (by decide) rfl ?_
      refine J_bipush (x := -5) dX7_together_23 (by decide) ?_
      refine J_istore (L' := [_, _, _, _, _, _, _, _, _, _, _, _]) dX7_together_25 (by decide) rfl ?_
      refine J_iconst (x := 0) dX7_together_27 (by decide) ?_
      refine J_istore (L' := [_, _, _, _, _, _, _, _, _, _, _, _]) dX7_together_28 (by decide) rfl ?_
      refine J_iconst (x := 0) dX7_together_30 (by decide) ?_
      refine J_istore (L' := [_, _, _, _, _, _, _, _, _, _, _, _]) dX7_together_31 (by decide) rfl ?_
      refine J_bipush (x := -5) dX7_together_33 (by decide) ?_
      refine J_istore (L' := [_, _, _, _, _, _, _, _, _, _, _, _]) dX7_together_35 (by decide) rfl ?_
      refine J_iconst (x := 0) dX7_together_37 (by decide) ?_
      refine J_istore (L' := [_, _, _, _, _, _, _, _, _, _, _, _]) dX7_together_38 (by decide) rfl ?_
      refine l_X7_together (ls := s.1) hq hi hj (fun mn fi la ro lo bg hT => ?_) 65 0 0 (-5) (-5) 0 0 (-5) (by omega) (by omega) rfl (by omega) ⟨fun _ => rfl, fun _ => rfl⟩
      refine J_iload_n dX7_together_169 rfl ?_
      refine J_if_ne (tgt := 178) dX7_together_170 (by decide) (fun c170 => ?_) (fun c170 => ?_)
      · refine J_iload_n dX7_together_178 rfl ?_
        refine J_iconst (x := 1) dX7_together_179 (by decide) ?_
        refine J_icmp_ne (tgt := 188) dX7_together_180 (by decide) (fun c180 => ?_) (fun c180 => ?_)
        · refine J_iload_n dX7_together_188 rfl ?_
          refine J_iconst (x := 2) dX7_together_189 (by decide) ?_
          refine J_icmp_ne (tgt := 198) dX7_together_190 (by decide) (fun c190 => ?_) (fun c190 => ?_)
          · refine J_iload_n dX7_together_198 rfl ?_
            refine J_iconst (x := 3) dX7_together_199 (by decide) ?_
            refine J_icmp_ne (tgt := 208) dX7_together_200 (by decide) (fun c200 => ?_) (fun c200 => ?_)
            · refine J_iload_n dX7_together_208 rfl ?_
              refine J_iconst (x := 4) dX7_together_209 (by decide) ?_
              refine J_icmp_ne (tgt := 218) dX7_together_210 (by decide) (fun c210 => ?_) (fun c210 => ?_)
              · refine J_bipush (x := -2) dX7_together_218 (by decide) ?_
                exact J_iret dX7_together_220 rfl ⟨rfl, Nat.le_refl _⟩ (hQ _ (by unfold f_tog; rw [ci_f (fun q => q ⟨nn_of hr1 c4, nn_of hr2 c11⟩), tN_n (by omega), tN_n (by omega)]; unfold tgL; rw [hT]; rw [sel_n (nx5 c170 c180 c190 c200 c210)]))
              · refine J_iload dX7_together_213 rfl ?_
                refine J_goto (tgt := 220) dX7_together_215 (by decide) ?_
                exact J_iret dX7_together_220 rfl ⟨rfl, Nat.le_refl _⟩ (hQ _ (by unfold f_tog; rw [ci_f (fun q => q ⟨nn_of hr1 c4, nn_of hr2 c11⟩), tN_n (by omega), tN_n (by omega)]; unfold tgL; rw [hT]; rw [c210]; exact sel_e (j := 4) (by rfl) (by rfl)))
            · refine J_iload dX7_together_203 rfl ?_
              refine J_goto (tgt := 220) dX7_together_205 (by decide) ?_
              exact J_iret dX7_together_220 rfl ⟨rfl, Nat.le_refl _⟩ (hQ _ (by unfold f_tog; rw [ci_f (fun q => q ⟨nn_of hr1 c4, nn_of hr2 c11⟩), tN_n (by omega), tN_n (by omega)]; unfold tgL; rw [hT]; rw [c200]; exact sel_e (j := 3) (by rfl) (by rfl)))
          · refine J_iload dX7_together_193 rfl ?_
            refine J_goto (tgt := 220) dX7_together_195 (by decide) ?_
            exact J_iret dX7_together_220 rfl ⟨rfl, Nat.le_refl _⟩ (hQ _ (by unfold f_tog; rw [ci_f (fun q => q ⟨nn_of hr1 c4, nn_of hr2 c11⟩), tN_n (by omega), tN_n (by omega)]; unfold tgL; rw [hT]; rw [c190]; exact sel_e (j := 2) (by rfl) (by rfl)))
        · refine J_iload dX7_together_183 rfl ?_
          refine J_goto (tgt := 220) dX7_together_185 (by decide) ?_
          exact J_iret dX7_together_220 rfl ⟨rfl, Nat.le_refl _⟩ (hQ _ (by unfold f_tog; rw [ci_f (fun q => q ⟨nn_of hr1 c4, nn_of hr2 c11⟩), tN_n (by omega), tN_n (by omega)]; unfold tgL; rw [hT]; rw [c180]; exact sel_e (j := 1) (by rfl) (by rfl)))
      · refine J_iload dX7_together_173 rfl ?_
        refine J_goto (tgt := 220) dX7_together_175 (by decide) ?_
        exact J_iret dX7_together_220 rfl ⟨rfl, Nat.le_refl _⟩ (hQ _ (by unfold f_tog; rw [ci_f (fun q => q ⟨nn_of hr1 c4, nn_of hr2 c11⟩), tN_n (by omega), tN_n (by omega)]; unfold tgL; rw [hT]; rw [c170]; exact sel_e (j := 0) (by rfl) (by rfl)))
    · refine J_iconst (x := -1) dX7_together_14 (by decide) ?_
      exact J_iret dX7_together_15 rfl ⟨rfl, Nat.le_refl _⟩ (hQ _ (by unfold f_tog; rw [ci_t (fun q => (bI_0 hr2).mp c11 q.2)]))
end SMod9
