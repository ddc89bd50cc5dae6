/-! the law -/
abbrev m_law (N : Nat) (xs : Nat → Int32) : g_M := (x, code, 6, ret, some (N, xs))
theorem e_L_law {N t : Nat} {xs : Nat → Int32} (hN : N ≤ 260) (ht : t < 16) {s : St} {h : g_H} {w5 : Int32} (hW : W3 h s (mS t s)) : J (m_law N xs) 8 112 2918 112 2918 106 [some (.ref 0), some (.ref 1), some (.ref 57), some (.int (nI t)), some (.int 1), some (.int w5)] [] h (fun r _ => r = some (.int 1)) := by
  refine J_iload dL_law_106 rfl ?_
  refine J_if_eq (tgt := 158) dL_law_108 (by decide) (fun c108 => absurd c108 (by decide)) (fun c108 => ?_)
  refine J_aload_n dL_law_111 rfl ?_
  refine J_aload_n dL_law_112 rfl ?_
  refine J_iload_n dL_law_113 rfl ?_
  refine J_aload_n dL_law_114 rfl ?_
  refine J_bipush (x := 45) dL_law_115 (by decide) ?_
  refine J_callSX rfl (As := [_, _]) (rest := [_, _, _]) (M' := m_L_cell _ _) dL_law_117 ml_R_law_73 (gm_L_cell _ _) sm_yL_cell rfl rfl (Nat.le_of_ble_eq_true rfl) (by decide) ⟨rfl, rfl, by decide, by decide⟩ (s_L_cell hN (k := 45) (by omega) (fun r1 => ?_))
  refine J_callS (As := [_, _, _, _]) (rest := []) (M' := m_L_areAlike) dL_law_120 ml_R_law_85 gm_L_areAlike sm_yL_areAlike rfl rfl (Nat.le_of_ble_eq_true rfl) (by decide) ⟨rfl, rfl, by decide, by decide⟩ (s_L_areAlike ht hW (fun h1 hW1 => ?_))
  replace hW := hW1
  refine J_if_eq (tgt := 158) dL_law_123 (by decide) (fun c123 => absurd c123 (by decide)) (fun c123 => ?_)
  refine J_aload_n dL_law_126 rfl ?_
  refine J_aload_n dL_law_127 rfl ?_
  refine J_iload_n dL_law_128 rfl ?_
  refine J_aload_n dL_law_129 rfl ?_
  refine J_bipush (x := 46) dL_law_130 (by decide) ?_
  refine J_callSX rfl (As := [_, _]) (rest := [_, _, _]) (M' := m_L_cell _ _) dL_law_132 ml_R_law_73 (gm_L_cell _ _) sm_yL_cell rfl rfl (Nat.le_of_ble_eq_true rfl) (by decide) ⟨rfl, rfl, by decide, by decide⟩ (s_L_cell hN (k := 46) (by omega) (fun r1 => ?_))
  refine J_callS (As := [_, _, _, _]) (rest := []) (M' := m_L_areAlike) dL_law_135 ml_R_law_85 gm_L_areAlike sm_yL_areAlike rfl rfl (Nat.le_of_ble_eq_true rfl) (by decide) ⟨rfl, rfl, by decide, by decide⟩ (s_L_areAlike ht hW (fun h1 hW1 => ?_))
  replace hW := hW1
  refine J_if_eq (tgt := 158) dL_law_138 (by decide) (fun c138 => absurd c138 (by decide)) (fun c138 => ?_)
  refine J_aload_n dL_law_141 rfl ?_
  refine J_aload_n dL_law_142 rfl ?_
  refine J_bipush (x := 47) dL_law_143 (by decide) ?_
  refine J_callSX rfl (As := [_, _]) (rest := [_]) (M' := m_L_cell _ _) dL_law_145 ml_R_law_73 (gm_L_cell _ _) sm_yL_cell rfl rfl (Nat.le_of_ble_eq_true rfl) (by decide) ⟨rfl, rfl, by decide, by decide⟩ (s_L_cell hN (k := 47) (by omega) (fun r1 => ?_))
  refine J_callS (As := [_, _]) (rest := []) (M' := m_L_isWell) dL_law_148 ml_R_law_81 gm_L_isWell sm_yL_isWell rfl rfl (Nat.le_of_ble_eq_true rfl) (by decide) ⟨rfl, rfl, by decide, by decide⟩ (s_L_isWell hW (fun h1 hW1 => ?_))
  replace hW := hW1
  refine J_if_eq (tgt := 158) dL_law_151 (by decide) (fun c151 => absurd c151 (by decide)) (fun c151 => ?_)
  refine J_iconst (x := 1) dL_law_154 (by decide) ?_
  refine J_goto (tgt := 159) dL_law_155 (by decide) ?_
  exact J_zret dL_law_159 rfl (by first | exact Or.inl rfl | exact Or.inr rfl) ⟨rfl, Nat.le_refl _⟩ (rfl)
theorem l_L_law {N t : Nat} {xs : Nat → Int32} (hN : N ≤ 260) (ht : t < 16) : ∀ (f k : Nat) (s : St) (h : g_H), 44 - k < f → k ≤ 44 → W3 h s (mS t s) → J (m_law N xs) 8 112 2918 112 2918 33 [some (.ref 0), some (.ref 1), some (.ref 57), some (.int (nI t)), some (.int 1), some (.int (nI k))] [] h (fun r _ => r = some (.int 1)) := by
  intro f
  induction f with
  | zero => intro k s h hf
            exact fun _ _ _ _ _ _ => absurd hf (Nat.not_lt_zero _)
  | succ f ih =>
    intro k s h hf hk hW
    refine J_iload dL_law_33 rfl ?_
    refine J_bipush (x := 44) dL_law_35 (by decide) ?_
    refine J_icmp_ge (tgt := 106) dL_law_37 (by decide) (fun c37 => ?_) (fun c37 => ?_)
    · exact e_L_law hN ht hW
    · have c37 : k < 44 := Nat.not_le.mp (fun q => c37 ((nI_leI (a := 44) (b := k) (by omega) (by omega)).mpr q))
      refine J_iload dL_law_40 rfl ?_
      refine J_if_eq (tgt := 106) dL_law_42 (by decide) (fun c42 => absurd c42 (by decide)) (fun c42 => ?_)
      refine J_aload_n dL_law_45 rfl ?_
      refine J_aload_n dL_law_46 rfl ?_
      refine J_iload_n dL_law_47 rfl ?_
      refine J_aload_n dL_law_48 rfl ?_
      refine J_iload dL_law_49 rfl ?_
      refine J_callSX rfl (As := [_, _]) (rest := [_, _, _]) (M' := m_L_cell _ _) dL_law_51 ml_R_law_73 (gm_L_cell _ _) sm_yL_cell rfl rfl (Nat.le_of_ble_eq_true rfl) (by decide) ⟨rfl, rfl, by decide, by decide⟩ (s_L_cell hN (k := k) (by omega) (fun r1 => ?_))
      refine J_aload_n dL_law_54 rfl ?_
      refine J_iload dL_law_55 rfl ?_
      refine J_iconst (x := 1) dL_law_57 (by decide) ?_
      refine J_iadd dL_law_58 ?_
      rw [nI_p1q k]
      refine J_callSX rfl (As := [_, _]) (rest := [_, _, _, _]) (M' := m_L_cell _ _) dL_law_59 ml_R_law_73 (gm_L_cell _ _) sm_yL_cell rfl rfl (Nat.le_of_ble_eq_true rfl) (by decide) ⟨rfl, rfl, by decide, by decide⟩ (s_L_cell hN (k := k + 1) (by omega) (fun r1 => ?_))
      refine J_iconst (x := 2) dL_law_62 (by decide) ?_
      refine J_ishr dL_law_63 ?_
      refine J_callS (As := [_, _, _, _, _]) (rest := []) (M' := m_L_isStep) dL_law_64 ml_R_law_77 gm_L_isStep sm_yL_isStep rfl rfl (Nat.le_of_ble_eq_true rfl) (by decide) ⟨rfl, rfl, by decide, by decide⟩ (s_L_isStep ht hW (fun h1 s1 hW1 => ?_))
      replace hW := hW1
      refine J_if_eq (tgt := 97) dL_law_67 (by decide) (fun c67 => absurd c67 (by decide)) (fun c67 => ?_)
      refine J_iload dL_law_70 rfl ?_
      refine J_iconst (x := 5) dL_law_72 (by decide) ?_
      refine J_irem dL_law_73 (nI_ne0 (n := 5) (by decide) (by decide)) ?_
      rw [show nI k - nI k / 5 * 5 = nI (k % 5) from pk_rem (d := 5) (by omega) (by decide) (by decide)]
      refine J_if_gt (tgt := 93) dL_law_74 (by decide) (fun c74 => ?_) (fun c74 => ?_)
      · refine J_iconst (x := 1) dL_law_93 (by decide) ?_
        refine J_goto (tgt := 98) dL_law_94 (by decide) ?_
        refine J_istore (L' := [_, _, _, _, _, _]) dL_law_98 (show 4 < 6 by decide) rfl ?_
        refine J_iinc (L' := [_, _, _, _, _, _]) dL_law_100 rfl (nI_i1 k) (show 5 < 6 by decide) rfl ?_
        refine J_goto (tgt := 33) dL_law_103 (by decide) ?_
        exact ih (k + 1) _ _ (by omega) (by omega) hW
      · refine J_aload_n dL_law_77 rfl ?_
        refine J_aload_n dL_law_78 rfl ?_
        refine J_iload dL_law_79 rfl ?_
        refine J_callSX rfl (As := [_, _]) (rest := [_]) (M' := m_L_cell _ _) dL_law_81 ml_R_law_73 (gm_L_cell _ _) sm_yL_cell rfl rfl (Nat.le_of_ble_eq_true rfl) (by decide) ⟨rfl, rfl, by decide, by decide⟩ (s_L_cell hN (k := k) (by omega) (fun r1 => ?_))
        refine J_bipush (x := 6) dL_law_84 (by decide) ?_
        refine J_ishr dL_law_86 ?_
        refine J_callS (As := [_, _]) (rest := []) (M' := m_L_isWell) dL_law_87 ml_R_law_81 gm_L_isWell sm_yL_isWell rfl rfl (Nat.le_of_ble_eq_true rfl) (by decide) ⟨rfl, rfl, by decide, by decide⟩ (s_L_isWell hW (fun h1 hW1 => ?_))
        replace hW := hW1
        refine J_if_eq (tgt := 97) dL_law_90 (by decide) (fun c90 => absurd c90 (by decide)) (fun c90 => ?_)
        refine J_iconst (x := 1) dL_law_93 (by decide) ?_
        refine J_goto (tgt := 98) dL_law_94 (by decide) ?_
        refine J_istore (L' := [_, _, _, _, _, _]) dL_law_98 (show 4 < 6 by decide) rfl ?_
        refine J_iinc (L' := [_, _, _, _, _, _]) dL_law_100 rfl (nI_i1 k) (show 5 < 6 by decide) rfl ?_
        refine J_goto (tgt := 33) dL_law_103 (by decide) ?_
        exact ih (k + 1) _ _ (by omega) (by omega) hW
theorem s_law {N : Nat} {xs : Nat → Int32} (hN : N ≤ 260) {h : g_H} (hz : h.2 = 0) : J (m_law N xs) 8 112 2918 0 0 0 [some (.ref 0), none, none, none, none, none] [] h (fun r _ => r = some (.int 1)) := by
  refine J_new (fs := [.null, .null, .int 0, .null, .null, .null, .null, .null, .null]) dL_law_0 gc_6 cl_R_law_10 ins_RX6 ini_LivedLinks (fun j hj ad => by rcases (show j = 0 ∨ j = 1 ∨ j = 2 ∨ j = 3 ∨ j = 4 ∨ j = 5 ∨ j = 6 ∨ j = 7 ∨ j = 8 by omega) with rfl | rfl | rfl | rfl | rfl | rfl | rfl | rfl | rfl <;> rfl) ⟨by decide, by decide⟩ ?_
  refine J_dup dL_law_3 rfl ?_
  refine J_callI (As := []) (rest := [_]) (M' := m_X6_init) dL_law_4 ml_R_law_72 gm_X6_init ⟨rfl, im_yX6_init⟩ rfl rfl rfl (Nat.le_of_ble_eq_true rfl) (by decide) ⟨rfl, rfl, by decide, by decide⟩ (s_X6_init (h := g_push _ _) (by show 1 ≤ h.2 + 1; omega) (g_push_s _ _) (fun h1 w1 => ?_))
  have y1 : h1.2 = 56 := by have := w1.sz; omega
  rw [show h.2 + 1 = 1 by omega]
  refine J_astore_n (L' := [_, _, _, _, _, _]) dL_law_7 (show 1 < 6 by decide) rfl ?_
  refine J_new (fs := [.null, .null, .int 0, .null, .null, .null, .null, .null, .null]) dL_law_8 gc_6 cl_R_law_10 ins_RX6 ini_LivedLinks (fun j hj ad => by rcases (show j = 0 ∨ j = 1 ∨ j = 2 ∨ j = 3 ∨ j = 4 ∨ j = 5 ∨ j = 6 ∨ j = 7 ∨ j = 8 by omega) with rfl | rfl | rfl | rfl | rfl | rfl | rfl | rfl | rfl <;> rfl) ⟨by decide, by decide⟩ ?_
  refine J_dup dL_law_11 rfl ?_
  refine J_callI (As := []) (rest := [_]) (M' := m_X6_init) dL_law_12 ml_R_law_72 gm_X6_init ⟨rfl, im_yX6_init⟩ rfl rfl rfl (Nat.le_of_ble_eq_true rfl) (by decide) ⟨rfl, rfl, by decide, by decide⟩ (s_X6_init (h := g_push _ _) (by show 1 ≤ h1.2 + 1; omega) (g_push_s _ _) (fun h2 w2 => ?_))
  have y2 : h2.2 = 112 := by have := w2.sz; omega
  have q2 : CI h2 (h1.2 + 1) ([], [], none, []) := w2.2.2 h2 (Nat.le_refl _) (fun _ _ _ => rfl)
  have q3 : CI h2 (h.2 + 1) ([], [], none, []) := w1.2.2 h2 (by omega) (fun k _ z => w2.at z)
  rw [show h1.2 + 1 = 57 by omega]
  rw [show h1.2 + 1 = 57 by omega] at q2
  rw [show h.2 + 1 = 1 by omega] at q3
  refine J_astore_n (L' := [_, _, _, _, _, _]) dL_law_15 (show 2 < 6 by decide) rfl ?_
  refine J_aload_n dL_law_16 rfl ?_
  refine J_iconst (x := 0) dL_law_17 (by decide) ?_
  refine J_callSX rfl (As := [_, _]) (rest := []) (M' := m_L_cell _ _) dL_law_18 ml_R_law_73 (gm_L_cell _ _) sm_yL_cell rfl rfl (Nat.le_of_ble_eq_true rfl) (by decide) ⟨rfl, rfl, by decide, by decide⟩ (s_L_cell hN (k := 0) (by omega) (fun r1 => ?_))
  refine J_bipush (x := 16) dL_law_21 (by decide) ?_
  refine J_callS (As := [_, _]) (rest := []) (M' := m_L_up) dL_law_23 ml_R_law_15 gm_L_up sm_yL_up rfl rfl (Nat.le_of_ble_eq_true rfl) (by decide) ⟨rfl, rfl, by decide, by decide⟩ (s_L_up (n := 16) rfl (by decide) (by decide) (fun t ht => ?_))
  refine J_istore_n (L' := [_, _, _, _, _, _]) dL_law_26 (show 3 < 6 by decide) rfl ?_
  refine J_iconst (x := 1) dL_law_27 (by decide) ?_
  refine J_istore (L' := [_, _, _, _, _, _]) dL_law_28 (show 4 < 6 by decide) rfl ?_
  refine J_iconst (x := 1) dL_law_30 (by decide) ?_
  refine J_istore (L' := [_, _, _, _, _, _]) dL_law_31 (show 5 < 6 by decide) rfl ?_
  exact l_L_law hN ht 44 1 ([], [], none, []) h2 (by omega) (by omega) ⟨q3, q2, y2⟩
