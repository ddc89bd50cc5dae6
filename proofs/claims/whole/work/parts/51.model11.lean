section SMod11
variable {h h' : g_H} {a p : Nat} {T : List Nat} {s : St} {ls acc : List Lk} {f g hh sn tx rd : Nat → Int32} {hl it tl sp nu rm : Int32} {Q : Option Value → g_H → Prop}
def NX (T : List Nat) (gr p : Nat) (r u : Int32) (q : Nat) : Prop := (rN T gr p = none ∧ r = 0 ∧ q = p) ∨ ∃ v, rN T gr p = some (v, q) ∧ r = 1 ∧ u = nI v
theorem NX.n {gr q : Nat} {r u : Int32} (hN : NX T gr p r u q) (c : r = 0) : rN T gr p = none ∧ q = p := by
  rcases hN with ⟨h1, h2, h3⟩ | ⟨v, h1, h2, h3⟩
  · exact ⟨h1, h3⟩
  · rw [h2] at c; exact absurd c (by decide)
theorem NX.y {gr q : Nat} {r u : Int32} (hN : NX T gr p r u q) (hg : 9 ≤ gr) (c : ¬ r = 0) : ∃ v, rN T gr p = some (v, q) ∧ u = nI v ∧ v ≤ gr ∧ p + 1 ≤ q ∧ q ≤ T.length := by
  rcases hN with ⟨h1, h2, h3⟩ | ⟨v, h1, h2, h3⟩
  · exact absurd h2 c
  · have := rN_b hg h1
    exact ⟨v, h1, h3, this⟩
theorem s2_X7_readsNumber {gr : Nat} (hR : VR h a f g hh sn tx rd hl it (nI T.length) (nI p) nu rm) (hT : TX T tx) (hp : p ≤ T.length) (hg2 : gr < 100) (hQ : ∀ r h' u q, NX T gr p r u q → Fr a (a + 7) h h' → VR h' a f g hh sn tx rd hl it (nI T.length) (nI q) u rm → Q (some (.int r)) h') : MJ m_X7_readsNumber 2 0 0 [.ref a, .int (nI gr)] h Q :=
  s_X7_readsNumber hR hT hp hg2 (fun e => hQ 0 h nu p (Or.inl ⟨e, rfl, rfl⟩) Fr.rf hR) (fun h1 v q e F R => hQ 1 h1 _ q (Or.inr ⟨v, e, rfl, rfl⟩) F R)
def UR (rd : Nat → Int32) (n : Nat) (y : Lk) : Nat → Int32 := upd (upd (upd (upd rd (4 * n) (nI y.1)) (4 * n + 1) (nI y.2.1)) (4 * n + 2) (nI y.2.2.1)) (4 * n + 3) (nI y.2.2.2)
def LX (T : List Nat) (p n : Nat) (rd : Nat → Int32) (r : Int32) (q : Nat) (rd' : Nat → Int32) (n' : Nat) : Prop := (rL T p = (none, q) ∧ r = 0 ∧ n' = n ∧ q ≤ T.length) ∨ ∃ y, rL T p = (some y, q) ∧ r = 1 ∧ rd' = UR rd n y ∧ n' = n + 1
theorem s_X7_readsLink {n : Nat} (hR : VR h a f g hh sn tx rd hl it (nI T.length) (nI p) nu (nI n)) (hT : TX T tx) (hp : p ≤ T.length) (hn : 8 * n ≤ p) (hQ : ∀ r h' u q rd' n', LX T p n rd r q rd' n' → Fr a (a + 7) h h' → VR h' a f g hh sn tx rd' hl it (nI T.length) (nI q) u (nI n') → Q (some (.int r)) h') : MJ m_X7_readsLink 3 0 0 [.ref a] h Q := by
  have h60 := hT.2.1
  have B : ∀ h' u q, rL T p = (none, q) → q ≤ T.length → Fr a (a + 7) h h' → VR h' a f g hh sn tx rd hl it (nI T.length) (nI q) u (nI n) → Q (some (.int 0)) h' := fun h' u q e1 e2 F R => hQ 0 h' u q rd n (Or.inl ⟨e1, rfl, rfl, e2⟩) F R
  refine MJ_of_J (L := [some (.ref a), none, none, none, none]) (by decide +kernel) rfl (Nat.le_of_ble_eq_true rfl) rfl ?_
  refine J_iconst (x := 4) dX7_readsLink_0 (by decide) ?_
  refine J_aload_n dX7_readsLink_1 rfl ?_
  refine J_get (k := 11) dX7_readsLink_2 gc_7 fl_RX7_125 (by decide) hR.o hR.bo rfl ?_
  refine J_imul dX7_readsLink_5 ?_
  rw [show (4 : Int32) * nI n = nI (4 * n) from pk_mul 4 n]
  refine J_istore_n (L' := [_, _, _, _, _]) dX7_readsLink_6 (by decide) rfl ?_
  refine J_aload_n dX7_readsLink_7 rfl ?_
  refine J_bipush (x := 15) dX7_readsLink_8 (by decide) ?_
  refine J_callV (As := [_]) (rest := []) (M' := m_X7_readsNumber) dX7_readsLink_10 ml_RX7_128 gm_X7_readsNumber gv_X7_readsNumber hR.o hR.bo rfl rfl rfl (Nat.le_of_ble_eq_true rfl) (by decide) ⟨rfl, rfl, by decide, by decide⟩ (s2_X7_readsNumber (gr := 15) hR hT hp (by decide) (fun r1 h1 u1 q1 hN1 hF1 hR1 => ?_))
  replace hR := hR1
  refine J_if_ne (tgt := 18) dX7_readsLink_13 (by decide) (fun c13 => ?_) (fun c13 => ?_)
  · obtain ⟨v1, e1, rfl, b3, b4, b5'⟩ := hN1.y (by decide) c13
    refine J_aload_n dX7_readsLink_18 rfl ?_
    refine J_get (k := 9) dX7_readsLink_19 gc_7 fl_RX7_122 (by decide) hR.o hR.bo rfl ?_
    refine J_istore_n (L' := [_, _, _, _, _]) dX7_readsLink_22 (by decide) rfl ?_
    refine J_aload_n dX7_readsLink_23 rfl ?_
    refine J_bipush (x := 45) dX7_readsLink_24 (by decide) ?_
    refine J_callV (As := [_]) (rest := []) (M' := m_X7_takes) dX7_readsLink_26 ml_RX7_131 gm_X7_takes gv_X7_takes hR.o hR.bo rfl rfl rfl (Nat.le_of_ble_eq_true rfl) (by decide) ⟨rfl, rfl, by decide, by decide⟩ (s_X7_takes (c0 := 45) hR hT b5' (by decide) (fun t1 g1 hS1 hG1 hRs1 => ?_))
    replace hR := hRs1
    refine J_if_eq (tgt := 61) dX7_readsLink_29 (by decide) (fun c29 => ?_) (fun c29 => ?_)
    · refine J_iconst (x := 0) dX7_readsLink_61 (by decide) ?_
      exact J_zret dX7_readsLink_62 rfl (by first | exact Or.inl rfl | exact Or.inr rfl) ⟨rfl, Nat.le_refl _⟩ (by rw [if_neg ((bI_0 hS1).mp c29)] at hR; exact B _ _ q1 (by unfold rL; rw [e1]; dsimp only; rw [if_pos ((bI_0 hS1).mp c29)]) b5' (hF1.tr hG1) hR)
    · have s1 := nn_of hS1 c29
      rw [if_pos s1] at hR
      have l1 := get_lt s1
      refine J_aload_n dX7_readsLink_32 rfl ?_
      refine J_bipush (x := 15) dX7_readsLink_33 (by decide) ?_
      refine J_callV (As := [_]) (rest := []) (M' := m_X7_readsNumber) dX7_readsLink_35 ml_RX7_128 gm_X7_readsNumber gv_X7_readsNumber hR.o hR.bo rfl rfl rfl (Nat.le_of_ble_eq_true rfl) (by decide) ⟨rfl, rfl, by decide, by decide⟩ (s2_X7_readsNumber (gr := 15) hR hT l1 (by decide) (fun r2 h2 u2 q2 hN2 hF2 hR2 => ?_))
      replace hR := hR2
      refine J_if_eq (tgt := 61) dX7_readsLink_38 (by decide) (fun c38 => ?_) (fun c38 => ?_)
      · refine J_iconst (x := 0) dX7_readsLink_61 (by decide) ?_
        exact J_zret dX7_readsLink_62 rfl (by first | exact Or.inl rfl | exact Or.inr rfl) ⟨rfl, Nat.le_refl _⟩ (by obtain ⟨w1, rfl⟩ := hN2.n c38; exact B _ _ (q1 + 1) (by unfold rL; rw [e1]; dsimp only; rw [if_neg (fun z => z s1), w1]) l1 ((hF1.tr hG1).tr hF2) hR)
      · obtain ⟨v2, e2, rfl, k3, k4, k5⟩ := hN2.y (by decide) c38
        refine J_aload_n dX7_readsLink_41 rfl ?_
        refine J_aload_n dX7_readsLink_42 rfl ?_
        refine J_get (k := 9) dX7_readsLink_43 gc_7 fl_RX7_122 (by decide) hR.o hR.bo rfl ?_
        refine J_iload_n dX7_readsLink_46 rfl ?_
        refine J_icmp_eq (tgt := 54) dX7_readsLink_47 (by decide) (fun c47 => ?_) (fun c47 => ?_)
        · refine J_iconst (x := 0) dX7_readsLink_54 (by decide) ?_
          have c47 := (nI_eq (by omega) (by omega)).mp c47
          obtain ⟨z2, rfl⟩ : ∃ z, q2 = z + 1 := ⟨q2 - 1, by omega⟩
          refine J_callV (As := [_]) (rest := []) (M' := m_X7_isTold) dX7_readsLink_55 ml_RX7_134 gm_X7_isTold gv_X7_isTold hR.o hR.bo rfl rfl rfl (Nat.le_of_ble_eq_true rfl) (by decide) ⟨rfl, rfl, by decide, by decide⟩ (s0_X7_isTold hR (fun i1 hI1 hRi1 => ?_))
          replace hR := hRi1
          refine J_if_ne (tgt := 63) dX7_readsLink_58 (by decide) (fun c58 => absurd c58 (by decide)) (fun c58 => ?_)
          refine J_iconst (x := 0) dX7_readsLink_61 (by decide) ?_
          exact J_zret dX7_readsLink_62 rfl (by first | exact Or.inl rfl | exact Or.inr rfl) ⟨rfl, Nat.le_refl _⟩ (B _ _ z2 (by unfold rL; rw [e1]; dsimp only; rw [if_neg (fun z => z s1), e2]; dsimp only; rw [if_pos c47]; rfl) (by omega) (((hF1.tr hG1).tr hF2).tr hI1) hR)
        · refine J_iconst (x := 1) dX7_readsLink_50 (by decide) ?_
          refine J_goto (tgt := 55) dX7_readsLink_51 (by decide) ?_
          have c47 : ¬ v2 = v1 := fun q => c47 (by rw [q])
          refine J_callV (As := [_]) (rest := []) (M' := m_X7_isTold) dX7_readsLink_55 ml_RX7_134 gm_X7_isTold gv_X7_isTold hR.o hR.bo rfl rfl rfl (Nat.le_of_ble_eq_true rfl) (by decide) ⟨rfl, rfl, by decide, by decide⟩ (s1_X7_isTold hR (fun i1 hI1 hRi1 => ?_))
          replace hR := hRi1
          have ne12 := c47
          refine J_if_ne (tgt := 63) dX7_readsLink_58 (by decide) (fun c58 => ?_) (fun c58 => absurd c58 (by decide))
          refine J_aload_n dX7_readsLink_63 rfl ?_
          refine J_get (k := 9) dX7_readsLink_64 gc_7 fl_RX7_122 (by decide) hR.o hR.bo rfl ?_
          refine J_istore_n (L' := [_, _, _, _, _]) dX7_readsLink_67 (by decide) rfl ?_
          refine J_aload_n dX7_readsLink_68 rfl ?_
          refine J_bipush (x := 64) dX7_readsLink_69 (by decide) ?_
          refine J_callV (As := [_]) (rest := []) (M' := m_X7_takes) dX7_readsLink_71 ml_RX7_131 gm_X7_takes gv_X7_takes hR.o hR.bo rfl rfl rfl (Nat.le_of_ble_eq_true rfl) (by decide) ⟨rfl, rfl, by decide, by decide⟩ (s_X7_takes (c0 := 64) hR hT k5 (by decide) (fun t2 g2 hS2 hG2 hRs2 => ?_))
          replace hR := hRs2
          refine J_if_eq (tgt := 86) dX7_readsLink_74 (by decide) (fun c74 => ?_) (fun c74 => ?_)
          · refine J_iconst (x := 0) dX7_readsLink_86 (by decide) ?_
            exact J_zret dX7_readsLink_87 rfl (by first | exact Or.inl rfl | exact Or.inr rfl) ⟨rfl, Nat.le_refl _⟩ (by rw [if_neg ((bI_0 hS2).mp c74)] at hR; exact B _ _ q2 (by unfold rL; rw [e1]; dsimp only; rw [if_neg (fun z => z s1), e2]; dsimp only; rw [if_neg ne12]; rw [if_pos ((bI_0 hS2).mp c74)]) k5 ((((hF1.tr hG1).tr hF2).tr hI1).tr hG2) hR)
          · have s2 := nn_of hS2 c74
            rw [if_pos s2] at hR
            have l2 := get_lt s2
            refine J_aload_n dX7_readsLink_77 rfl ?_
            refine J_bipush (x := 63) dX7_readsLink_78 (by decide) ?_
            refine J_callV (As := [_]) (rest := []) (M' := m_X7_readsNumber) dX7_readsLink_80 ml_RX7_128 gm_X7_readsNumber gv_X7_readsNumber hR.o hR.bo rfl rfl rfl (Nat.le_of_ble_eq_true rfl) (by decide) ⟨rfl, rfl, by decide, by decide⟩ (s2_X7_readsNumber (gr := 63) hR hT l2 (by decide) (fun r3 h3 u3 q3 hN3 hF3 hR3 => ?_))
            replace hR := hR3
            refine J_if_ne (tgt := 88) dX7_readsLink_83 (by decide) (fun c83 => ?_) (fun c83 => ?_)
            · obtain ⟨v3, e3, rfl, d3, d4, d5⟩ := hN3.y (by decide) c83
              refine J_aload_n dX7_readsLink_88 rfl ?_
              refine J_get (k := 9) dX7_readsLink_89 gc_7 fl_RX7_122 (by decide) hR.o hR.bo rfl ?_
              refine J_istore (L' := [_, _, _, _, _]) dX7_readsLink_92 (by decide) rfl ?_
              refine J_aload_n dX7_readsLink_94 rfl ?_
              refine J_bipush (x := 58) dX7_readsLink_95 (by decide) ?_
              refine J_callV (As := [_]) (rest := []) (M' := m_X7_takes) dX7_readsLink_97 ml_RX7_131 gm_X7_takes gv_X7_takes hR.o hR.bo rfl rfl rfl (Nat.le_of_ble_eq_true rfl) (by decide) ⟨rfl, rfl, by decide, by decide⟩ (s_X7_takes (c0 := 58) hR hT d5 (by decide) (fun t3 g3 hS3 hG3 hRs3 => ?_))
              replace hR := hRs3
              refine J_if_eq (tgt := 133) dX7_readsLink_100 (by decide) (fun c100 => ?_) (fun c100 => ?_)
              · refine J_iconst (x := 0) dX7_readsLink_133 (by decide) ?_
                exact J_zret dX7_readsLink_134 rfl (by first | exact Or.inl rfl | exact Or.inr rfl) ⟨rfl, Nat.le_refl _⟩ (by rw [if_neg ((bI_0 hS3).mp c100)] at hR; exact B _ _ q3 (by unfold rL; rw [e1]; dsimp only; rw [if_neg (fun z => z s1), e2]; dsimp only; rw [if_neg ne12]; rw [if_neg (fun z => z s2), e3]; dsimp only; rw [if_pos ((bI_0 hS3).mp c100)]) d5 ((((((hF1.tr hG1).tr hF2).tr hI1).tr hG2).tr hF3).tr hG3) hR)
              · have s3 := nn_of hS3 c100
                rw [if_pos s3] at hR
                have l3 := get_lt s3
                refine J_aload_n dX7_readsLink_103 rfl ?_
                refine J_bipush (x := 64) dX7_readsLink_104 (by decide) ?_
                refine J_callV (As := [_]) (rest := []) (M' := m_X7_readsNumber) dX7_readsLink_106 ml_RX7_128 gm_X7_readsNumber gv_X7_readsNumber hR.o hR.bo rfl rfl rfl (Nat.le_of_ble_eq_true rfl) (by decide) ⟨rfl, rfl, by decide, by decide⟩ (s2_X7_readsNumber (gr := 64) hR hT l3 (by decide) (fun r4 h4 u4 q4 hN4 hF4 hR4 => ?_))
                replace hR := hR4
                refine J_if_eq (tgt := 133) dX7_readsLink_109 (by decide) (fun c109 => ?_) (fun c109 => ?_)
                · refine J_iconst (x := 0) dX7_readsLink_133 (by decide) ?_
                  exact J_zret dX7_readsLink_134 rfl (by first | exact Or.inl rfl | exact Or.inr rfl) ⟨rfl, Nat.le_refl _⟩ (by obtain ⟨w1, rfl⟩ := hN4.n c109; exact B _ _ (q3 + 1) (by unfold rL; rw [e1]; dsimp only; rw [if_neg (fun z => z s1), e2]; dsimp only; rw [if_neg ne12]; rw [if_neg (fun z => z s2), e3]; dsimp only; rw [if_neg (fun z => z s3), w1]) l3 (((((((hF1.tr hG1).tr hF2).tr hI1).tr hG2).tr hF3).tr hG3).tr hF4) hR)
                · obtain ⟨v4, e4, rfl, f3, f4, f5⟩ := hN4.y (by decide) c109
                  refine J_aload_n dX7_readsLink_112 rfl ?_
                  refine J_aload_n dX7_readsLink_113 rfl ?_
                  refine J_get (k := 9) dX7_readsLink_114 gc_7 fl_RX7_122 (by decide) hR.o hR.bo rfl ?_
                  refine J_iload dX7_readsLink_117 rfl ?_
                  refine J_icmp_le (tgt := 126) dX7_readsLink_119 (by decide) (fun c119 => ?_) (fun c119 => ?_)
                  · refine J_iconst (x := 0) dX7_readsLink_126 (by decide) ?_
                    rw [nI_leI (by omega) (by omega)] at c119
                    obtain ⟨z4, rfl⟩ : ∃ z, q4 = z + 1 := ⟨q4 - 1, by omega⟩
                    refine J_callV (As := [_]) (rest := []) (M' := m_X7_isTold) dX7_readsLink_127 ml_RX7_134 gm_X7_isTold gv_X7_isTold hR.o hR.bo rfl rfl rfl (Nat.le_of_ble_eq_true rfl) (by decide) ⟨rfl, rfl, by decide, by decide⟩ (s0_X7_isTold hR (fun i2 hI2 hRi2 => ?_))
                    replace hR := hRi2
                    refine J_if_ne (tgt := 135) dX7_readsLink_130 (by decide) (fun c130 => absurd c130 (by decide)) (fun c130 => ?_)
                    refine J_iconst (x := 0) dX7_readsLink_133 (by decide) ?_
                    exact J_zret dX7_readsLink_134 rfl (by first | exact Or.inl rfl | exact Or.inr rfl) ⟨rfl, Nat.le_refl _⟩ (B _ _ z4 (by unfold rL; rw [e1]; dsimp only; rw [if_neg (fun z => z s1), e2]; dsimp only; rw [if_neg ne12]; rw [if_neg (fun z => z s2), e3]; dsimp only; rw [if_neg (fun z => z s3), e4]; dsimp only; rw [if_pos c119]; rfl) (by omega) ((((((((hF1.tr hG1).tr hF2).tr hI1).tr hG2).tr hF3).tr hG3).tr hF4).tr hI2) hR)
                  · refine J_iconst (x := 1) dX7_readsLink_122 (by decide) ?_
                    refine J_goto (tgt := 127) dX7_readsLink_123 (by decide) ?_
                    rw [nI_leI (by omega) (by omega)] at c119
                    refine J_callV (As := [_]) (rest := []) (M' := m_X7_isTold) dX7_readsLink_127 ml_RX7_134 gm_X7_isTold gv_X7_isTold hR.o hR.bo rfl rfl rfl (Nat.le_of_ble_eq_true rfl) (by decide) ⟨rfl, rfl, by decide, by decide⟩ (s1_X7_isTold hR (fun i2 hI2 hRi2 => ?_))
                    replace hR := hRi2
                    refine J_if_ne (tgt := 135) dX7_readsLink_130 (by decide) (fun c130 => ?_) (fun c130 => absurd c130 (by decide))
                    refine J_aload_n dX7_readsLink_135 rfl ?_
                    refine J_get (k := 10) dX7_readsLink_136 gc_7 fl_RX7_25 (by decide) hR.o hR.bo rfl ?_
                    refine J_iload_n dX7_readsLink_139 rfl ?_
                    refine J_iload_n dX7_readsLink_140 rfl ?_
                    refine J_iast dX7_readsLink_141 hR.c6 hR.b6 (vp_in_nI (by omega) (by decide)) ?_
                    rw [nI_clamp (n := 4 * n) (by omega)]
                    replace hR := hR.s6 (upd rd (4 * n) (nI v1))
                    refine J_aload_n dX7_readsLink_142 rfl ?_
                    refine J_get (k := 10) dX7_readsLink_143 gc_7 fl_RX7_25 (by decide) hR.o hR.bo rfl ?_
                    refine J_iload_n dX7_readsLink_146 rfl ?_
                    refine J_iconst (x := 1) dX7_readsLink_147 (by decide) ?_
                    refine J_iadd dX7_readsLink_148 ?_
                    rw [show nI (4 * n) + (1 : Int32) = nI (4 * n + 1) from nI_add (4 * n) 1]
                    refine J_iload_n dX7_readsLink_149 rfl ?_
                    refine J_iast dX7_readsLink_150 hR.c6 hR.b6 (vp_in_nI (by omega) (by decide)) ?_
                    rw [nI_clamp (n := 4 * n + 1) (by omega)]
                    replace hR := hR.s6 (upd (upd rd (4 * n) (nI v1)) (4 * n + 1) (nI v2))
                    refine J_aload_n dX7_readsLink_151 rfl ?_
                    refine J_get (k := 10) dX7_readsLink_152 gc_7 fl_RX7_25 (by decide) hR.o hR.bo rfl ?_
                    refine J_iload_n dX7_readsLink_155 rfl ?_
                    refine J_iconst (x := 2) dX7_readsLink_156 (by decide) ?_
                    refine J_iadd dX7_readsLink_157 ?_
                    rw [show nI (4 * n) + (2 : Int32) = nI (4 * n + 2) from nI_add (4 * n) 2]
                    refine J_iload dX7_readsLink_158 rfl ?_
                    refine J_iast dX7_readsLink_160 hR.c6 hR.b6 (vp_in_nI (by omega) (by decide)) ?_
                    rw [nI_clamp (n := 4 * n + 2) (by omega)]
                    replace hR := hR.s6 (upd (upd (upd rd (4 * n) (nI v1)) (4 * n + 1) (nI v2)) (4 * n + 2) (nI v3))
                    refine J_aload_n dX7_readsLink_161 rfl ?_
                    refine J_get (k := 10) dX7_readsLink_162 gc_7 fl_RX7_25 (by decide) hR.o hR.bo rfl ?_
                    refine J_iload_n dX7_readsLink_165 rfl ?_
                    refine J_iconst (x := 3) dX7_readsLink_166 (by decide) ?_
                    refine J_iadd dX7_readsLink_167 ?_
                    rw [show nI (4 * n) + (3 : Int32) = nI (4 * n + 3) from nI_add (4 * n) 3]
                    refine J_aload_n dX7_readsLink_168 rfl ?_
                    refine J_get (k := 9) dX7_readsLink_169 gc_7 fl_RX7_122 (by decide) hR.o hR.bo rfl ?_
                    refine J_iast dX7_readsLink_172 hR.c6 hR.b6 (vp_in_nI (by omega) (by decide)) ?_
                    rw [nI_clamp (n := 4 * n + 3) (by omega)]
                    replace hR := hR.s6 (upd (upd (upd (upd rd (4 * n) (nI v1)) (4 * n + 1) (nI v2)) (4 * n + 2) (nI v3)) (4 * n + 3) (nI v4))
                    refine J_aload_n dX7_readsLink_173 rfl ?_
                    refine J_dup dX7_readsLink_174 rfl ?_
                    refine J_get (k := 11) dX7_readsLink_175 gc_7 fl_RX7_125 (by decide) hR.o hR.bo rfl ?_
                    refine J_iconst (x := 1) dX7_readsLink_178 (by decide) ?_
                    refine J_iadd dX7_readsLink_179 ?_
                    rw [nI_1]
                    refine J_put (k := 11) dX7_readsLink_180 gc_7 fl_RX7_125 (by decide) rfl hR.o hR.bo (Nat.le_of_ble_eq_true rfl) (fun _ => ⟨rfl, rfl⟩) rfl ?_
                    replace hR := hR.so hl it (nI T.length) (nI q4) (nI v4) (nI (n + 1))
                    refine J_iconst (x := 1) dX7_readsLink_183 (by decide) ?_
                    exact J_zret dX7_readsLink_184 rfl (by first | exact Or.inl rfl | exact Or.inr rfl) ⟨rfl, Nat.le_refl _⟩ (hQ 1 _ _ q4 _ (n + 1) (Or.inr ⟨(v1, v2, v3, v4), by unfold rL; rw [e1]; dsimp only; rw [if_neg (fun z => z s1), e2]; dsimp only; rw [if_neg ne12]; rw [if_neg (fun z => z s2), e3]; dsimp only; rw [if_neg (fun z => z s3), e4]; dsimp only; rw [if_neg c119], rfl, rfl, rfl⟩) (((((((((((((hF1.tr hG1).tr hF2).tr hI1).tr hG2).tr hF3).tr hG3).tr hF4).tr hI2).up (by omega) (by omega)).up (by omega) (by omega)).up (by omega) (by omega)).up (by omega) (by omega)).up (by omega) (by omega)) hR)
            · refine J_iconst (x := 0) dX7_readsLink_86 (by decide) ?_
              exact J_zret dX7_readsLink_87 rfl (by first | exact Or.inl rfl | exact Or.inr rfl) ⟨rfl, Nat.le_refl _⟩ (by obtain ⟨w1, rfl⟩ := hN3.n (Classical.not_not.mp (fun q => q c83)); exact B _ _ (q2 + 1) (by unfold rL; rw [e1]; dsimp only; rw [if_neg (fun z => z s1), e2]; dsimp only; rw [if_neg ne12]; rw [if_neg (fun z => z s2), w1]) l2 (((((hF1.tr hG1).tr hF2).tr hI1).tr hG2).tr hF3) hR)
  · refine J_iconst (x := 0) dX7_readsLink_16 (by decide) ?_
    exact J_zret dX7_readsLink_17 rfl (by first | exact Or.inl rfl | exact Or.inr rfl) ⟨rfl, Nat.le_refl _⟩ (by obtain ⟨w1, rfl⟩ := hN1.n c13; exact B _ _ _ (by unfold rL; rw [w1]) hp hF1 hR)
def RDV (rd : Nat → Int32) (acc : List Lk) : Prop := ∀ (i : Nat) (y : Lk), acc[i]? = some y → rd (4 * i) = nI y.1 ∧ rd (4 * i + 1) = nI y.2.1 ∧ rd (4 * i + 2) = nI y.2.2.1 ∧ rd (4 * i + 3) = nI y.2.2.2
theorem RDV.push {y : Lk} (hV : RDV rd acc) : RDV (UR rd acc.length y) (acc ++ [y]) := by
  intro i x hx
  unfold UR
  by_cases e : i < acc.length
  · rw [List.getElem?_append_left e] at hx
    obtain ⟨v1, v2, v3, v4⟩ := hV i x hx
    refine ⟨?_, ?_, ?_, ?_⟩ <;> rw [upd_o _ _ (by omega), upd_o _ _ (by omega), upd_o _ _ (by omega), upd_o _ _ (by omega)] <;> assumption
  · have e2 : i = acc.length := by
      have := get_lt hx
      simp at this
      omega
    subst e2
    rw [List.getElem?_append_right (Nat.le_refl _), Nat.sub_self] at hx
    simp at hx
    subst hx
    refine ⟨?_, ?_, ?_, ?_⟩
    · rw [upd_o _ _ (by omega), upd_o _ _ (by omega), upd_o _ _ (by omega), upd_e]
    · rw [upd_o _ _ (by omega), upd_o _ _ (by omega), upd_e]
    · rw [upd_o _ _ (by omega), upd_e]
    · rw [upd_e]
def o5 (o : Option Nat) : Int32 := match o with
  | none => -5
  | some q => nI q
theorem l_X7_fault (hT : TX T tx) (hQ : ∀ r h' u q rd' l o, rT T 61 0 [] = (l, o) → r = o5 o → (∀ z, o = some z → z ≤ T.length) → Fr a (a + 7) h h' → VR h' a f g hh sn tx rd' hl it (nI T.length) q u (nI l.length) → (o = none → RDV rd' l ∧ l.length ≤ 8 ∧ ∀ y ∈ l, okK y) → Q (some (.int r)) h') : ∀ (m p : Nat) (acc : List Lk) (rd : Nat → Int32) (nu : Int32) (h1 : g_H), T.length < p + m → p ≤ T.length → 8 * acc.length ≤ p → rT T 61 0 [] = rT T m p acc → RDV rd acc → (∀ y ∈ acc, okK y) → Fr a (a + 7) h h1 → VR h1 a f g hh sn tx rd hl it (nI T.length) (nI p) nu (nI acc.length) → J m_X7_fault 4 0 0 0 0 12 [some (.ref a), some (.int 1)] [] h1 Q := by
  intro m
  induction m with
  | zero => intro p acc rd nu h1 hm hp; omega
  | succ m ih =>
    intro p acc rd nu h1 hm hp h8 hrT hV hok hF hR
    have h60 := hT.2.1
    have est : rT T (m + 1) p acc = match rL T p with
      | (none, q) => (acc, some q)
      | (some y, q) => if q = T.length then (acc ++ [y], none) else if T[q]? = some 44 then rT T m (q + 1) (acc ++ [y]) else (acc ++ [y], some q) := rfl
    rw [est] at hrT
    refine J_iload_n dX7_fault_12 rfl ?_
    refine J_if_eq (tgt := 38) dX7_fault_13 (by decide) (fun c13 => absurd c13 (by decide)) (fun c13 => ?_)
    refine J_aload_n dX7_fault_16 rfl ?_
    refine J_callV (As := []) (rest := []) (M' := m_X7_readsLink) dX7_fault_17 ml_RX7_138 gm_X7_readsLink gv_X7_readsLink hR.o hR.bo rfl rfl rfl (Nat.le_of_ble_eq_true rfl) (by decide) ⟨rfl, rfl, by decide, by decide⟩ (s_X7_readsLink hR hT hp h8 (fun r1 h2 u1 q rd1 n1 hL hF1 hR1 => ?_))
    replace hR := hR1
    refine J_if_ne (tgt := 28) dX7_fault_20 (by decide) (fun c20 => ?_) (fun c20 => ?_)
    · obtain ⟨y, eL, rfl, rfl⟩ : ∃ y, rL T p = (some y, q) ∧ rd1 = UR rd acc.length y ∧ n1 = acc.length + 1 := by
        rcases hL with ⟨x1, x2, -⟩ | ⟨y, x1, x2, x3, x4⟩
        · exact absurd x2 c20
        · exact ⟨y, x1, x3, x4⟩
      obtain ⟨yok, y7, yl⟩ := rL_ok eL
      rw [eL] at hrT
      dsimp only at hrT
      have hok2 : ∀ x ∈ acc ++ [y], okK x := fun x q2 => by
        rcases List.mem_append.mp q2 with q2 | q2
        · exact hok x q2
        · rw [List.mem_singleton.mp q2]; exact yok
      refine J_aload_n dX7_fault_28 rfl ?_
      refine J_bipush (x := 44) dX7_fault_29 (by decide) ?_
      refine J_callV (As := [_]) (rest := []) (M' := m_X7_takes) dX7_fault_31 ml_RX7_131 gm_X7_takes gv_X7_takes hR.o hR.bo rfl rfl rfl (Nat.le_of_ble_eq_true rfl) (by decide) ⟨rfl, rfl, by decide, by decide⟩ (s_X7_takes (c0 := 44) hR hT yl (by decide) (fun t1 g1 hS1 hG1 hRs1 => ?_))
      replace hR := hRs1
      refine J_istore_n (L' := [_, _]) dX7_fault_34 (by decide) rfl ?_
      refine J_goto (tgt := 12) dX7_fault_35 (by decide) ?_
      rcases Classical.em (T[q]? = some 44) with z | z
      · have e5 : t1 = 1 := hS1.trans (bI_t z)
        subst e5
        rw [if_pos z] at hR
        have hl := get_lt z
        exact ih (q + 1) (acc ++ [y]) _ _ _ (by omega) (by omega) (by rw [List.length_append]; show 8 * (acc.length + 1) ≤ q + 1; omega) (by rw [hrT, if_neg (by omega), if_pos z]) hV.push hok2 ((hF.tr hF1).tr hG1) (by rw [List.length_append]; exact hR)
      · have e5 : t1 = 0 := hS1.trans (bI_f z)
        subst e5
        rw [if_neg z] at hR
        refine J_iload_n dX7_fault_12 rfl ?_
        refine J_if_eq (tgt := 38) dX7_fault_13 (by decide) (fun c13 => ?_) (fun c13 => absurd rfl c13)
        refine J_aload_n dX7_fault_38 rfl ?_
        refine J_get (k := 8) dX7_fault_39 gc_7 fl_RX7_116 (by decide) hR.o hR.bo rfl ?_
        refine J_aload_n dX7_fault_42 rfl ?_
        refine J_get (k := 7) dX7_fault_43 gc_7 fl_RX7_113 (by decide) hR.o hR.bo rfl ?_
        refine J_icmp_ne (tgt := 54) dX7_fault_46 (by decide) (fun c46 => ?_) (fun c46 => ?_)
        · refine J_aload_n dX7_fault_54 rfl ?_
          refine J_get (k := 8) dX7_fault_55 gc_7 fl_RX7_116 (by decide) hR.o hR.bo rfl ?_
          exact J_iret dX7_fault_58 rfl ⟨rfl, Nat.le_refl _⟩ (hQ _ _ _ _ _ (acc ++ [y]) (some q) (by rw [hrT, if_neg (fun z2 => c46 (by rw [z2])), if_neg z]) rfl (fun z2 e => by cases e; omega) ((hF.tr hF1).tr hG1) (by rw [List.length_append]; exact hR) (fun e => by cases e))
        · refine J_bipush (x := -5) dX7_fault_49 (by decide) ?_
          refine J_goto (tgt := 58) dX7_fault_51 (by decide) ?_
          exact J_iret dX7_fault_58 rfl ⟨rfl, Nat.le_refl _⟩ (hQ _ _ _ _ _ (acc ++ [y]) none (by rw [hrT, if_pos ((nI_eq (by omega) (by omega)).mp c46)]) rfl (fun z2 e => by cases e) ((hF.tr hF1).tr hG1) (by rw [List.length_append]; exact hR) (fun _ => ⟨hV.push, by rw [List.length_append]; show acc.length + 1 ≤ 8; omega, hok2⟩))
    · refine J_aload_n dX7_fault_23 rfl ?_
      refine J_get (k := 8) dX7_fault_24 gc_7 fl_RX7_116 (by decide) hR.o hR.bo rfl ?_
      exact J_iret dX7_fault_27 rfl ⟨rfl, Nat.le_refl _⟩ (by rcases hL with ⟨x1, -, x3, x4⟩ | ⟨y, x1, x2, -⟩; (· rw [x3] at hR; exact hQ _ _ _ _ _ acc (some q) (by rw [hrT, x1]) rfl (fun z2 e => by cases e; exact x4) (hF.tr hF1) hR (fun e => by cases e)); (· exact absurd x2 (by rw [c20]; decide)))
theorem s_X7_fault (hR : VR h a f g hh sn tx rd hl it (nI T.length) sp nu rm) (hT : TX T tx) (hQ : ∀ r h' u q rd' l o, rT T 61 0 [] = (l, o) → r = o5 o → (∀ z, o = some z → z ≤ T.length) → Fr a (a + 7) h h' → VR h' a f g hh sn tx rd' hl it (nI T.length) q u (nI l.length) → (o = none → RDV rd' l ∧ l.length ≤ 8 ∧ ∀ y ∈ l, okK y) → Q (some (.int r)) h') : MJ m_X7_fault 4 0 0 [.ref a] h Q := by
  have h60 := hT.2.1
  refine MJ_of_J (L := [some (.ref a), none]) (by decide +kernel) rfl (Nat.le_of_ble_eq_true rfl) rfl ?_
  refine J_aload_n dX7_fault_0 rfl ?_
  refine J_iconst (x := 0) dX7_fault_1 (by decide) ?_
  refine J_put (k := 8) dX7_fault_2 gc_7 fl_RX7_116 (by decide) rfl hR.o hR.bo (Nat.le_of_ble_eq_true rfl) (fun _ => ⟨rfl, rfl⟩) rfl ?_
  replace hR := hR.so hl it (nI T.length) (nI 0) nu rm
  refine J_aload_n dX7_fault_5 rfl ?_
  refine J_iconst (x := 0) dX7_fault_6 (by decide) ?_
  refine J_put (k := 11) dX7_fault_7 gc_7 fl_RX7_125 (by decide) rfl hR.o hR.bo (Nat.le_of_ble_eq_true rfl) (fun _ => ⟨rfl, rfl⟩) rfl ?_
  replace hR := hR.so hl it (nI T.length) (nI 0) nu (nI 0)
  refine J_iconst (x := 1) dX7_fault_10 (by decide) ?_
  refine J_istore_n (L' := [_, _]) dX7_fault_11 (by decide) rfl ?_
  exact l_X7_fault hT hQ 61 0 [] rd nu _ (by omega) (by omega) (Nat.le_refl _) rfl (fun i y q => by simp at q) (fun y q => by simp at q) ((Fr.rf.up (by omega) (by omega)).up (by omega) (by omega)) hR
theorem l_X7_readLinks {x1 : Int32} (hV : RDV rd acc) (hok : ∀ y ∈ acc, okK y) (hl8 : acc.length ≤ 8) (h40 : ls.length + acc.length ≤ 40) (K : ∀ h' z x, Fr a (a + 7) h h' → VR h' a z g hh sn tx rd hl it tl sp nu (nI acc.length) → AK z (ls ++ acc) → J m_X7_readLinks 5 0 0 0 0 97 [some (.ref a), some (.int x1), some (.int x)] [] h' Q) : ∀ (t k : Nat) (h1 : g_H) (z : Nat → Int32), acc.length - k < t → k ≤ acc.length → Fr a (a + 7) h h1 → VR h1 a z g hh sn tx rd hl it tl sp nu (nI acc.length) → AK z (ls ++ acc.take k) → J m_X7_readLinks 5 0 0 0 0 41 [some (.ref a), some (.int x1), some (.int (nI k))] [] h1 Q := by
  intro t
  induction t with
  | zero => intro k h1 z ht; omega
  | succ t ih =>
    intro k h1 z ht hk hF hR hA
    refine J_iload_n dX7_readLinks_41 rfl ?_
    refine J_aload_n dX7_readLinks_42 rfl ?_
    refine J_get (k := 11) dX7_readLinks_43 gc_7 fl_RX7_125 (by decide) hR.o hR.bo rfl ?_
    refine J_icmp_ge (tgt := 97) dX7_readLinks_46 (by decide) (fun c46 => ?_) (fun c46 => ?_)
    · exact K h1 z _ hF hR (by have c46 := (nI_leI (by omega) (by omega)).mp c46; rwa [List.take_of_length_le c46] at hA)
    · have c46 : k < acc.length := Nat.not_le.mp (fun q => c46 ((nI_leI (by omega) (by omega)).mpr q))
      obtain ⟨y, hy⟩ := get_of c46
      obtain ⟨v1, v2, v3, v4⟩ := hV k y hy
      refine J_aload_n dX7_readLinks_49 rfl ?_
      refine J_aload_n dX7_readLinks_50 rfl ?_
      refine J_get (k := 10) dX7_readLinks_51 gc_7 fl_RX7_25 (by decide) hR.o hR.bo rfl ?_
      refine J_iconst (x := 4) dX7_readLinks_54 (by decide) ?_
      refine J_iload_n dX7_readLinks_55 rfl ?_
      refine J_imul dX7_readLinks_56 ?_
      rw [show (4 : Int32) * nI k = nI (4 * k) from pk_mul 4 k]
      refine J_iald dX7_readLinks_57 hR.c6 hR.b6 (vp_in_nI (by omega) (by decide)) ?_
      rw [nI_clamp (n := 4 * k) (by omega), v1]
      refine J_aload_n dX7_readLinks_58 rfl ?_
      refine J_get (k := 10) dX7_readLinks_59 gc_7 fl_RX7_25 (by decide) hR.o hR.bo rfl ?_
      refine J_iconst (x := 4) dX7_readLinks_62 (by decide) ?_
      refine J_iload_n dX7_readLinks_63 rfl ?_
      refine J_imul dX7_readLinks_64 ?_
      refine J_iconst (x := 1) dX7_readLinks_65 (by decide) ?_
      refine J_iadd dX7_readLinks_66 ?_
      rw [show (4 : Int32) * nI k = nI (4 * k) from pk_mul 4 k]
      rw [show nI (4 * k) + (1 : Int32) = nI (4 * k + 1) from nI_add (4 * k) 1]
      refine J_iald dX7_readLinks_67 hR.c6 hR.b6 (vp_in_nI (by omega) (by decide)) ?_
      rw [nI_clamp (n := 4 * k + 1) (by omega), v2]
      refine J_aload_n dX7_readLinks_68 rfl ?_
      refine J_get (k := 10) dX7_readLinks_69 gc_7 fl_RX7_25 (by decide) hR.o hR.bo rfl ?_
      refine J_iconst (x := 4) dX7_readLinks_72 (by decide) ?_
      refine J_iload_n dX7_readLinks_73 rfl ?_
      refine J_imul dX7_readLinks_74 ?_
      refine J_iconst (x := 2) dX7_readLinks_75 (by decide) ?_
      refine J_iadd dX7_readLinks_76 ?_
      rw [show (4 : Int32) * nI k = nI (4 * k) from pk_mul 4 k]
      rw [show nI (4 * k) + (2 : Int32) = nI (4 * k + 2) from nI_add (4 * k) 2]
      refine J_iald dX7_readLinks_77 hR.c6 hR.b6 (vp_in_nI (by omega) (by decide)) ?_
      rw [nI_clamp (n := 4 * k + 2) (by omega), v3]
      refine J_aload_n dX7_readLinks_78 rfl ?_
      refine J_get (k := 10) dX7_readLinks_79 gc_7 fl_RX7_25 (by decide) hR.o hR.bo rfl ?_
      refine J_iconst (x := 4) dX7_readLinks_82 (by decide) ?_
      refine J_iload_n dX7_readLinks_83 rfl ?_
      refine J_imul dX7_readLinks_84 ?_
      refine J_iconst (x := 3) dX7_readLinks_85 (by decide) ?_
      refine J_iadd dX7_readLinks_86 ?_
      rw [show (4 : Int32) * nI k = nI (4 * k) from pk_mul 4 k]
      rw [show nI (4 * k) + (3 : Int32) = nI (4 * k + 3) from nI_add (4 * k) 3]
      refine J_iald dX7_readLinks_87 hR.c6 hR.b6 (vp_in_nI (by omega) (by decide)) ?_
      rw [nI_clamp (n := 4 * k + 3) (by omega), v4]
      refine J_callV (As := [_, _, _, _]) (rest := []) (M' := m_X7_adds) dX7_readLinks_88 ml_RX7_92 gm_X7_adds gv_X7_adds hR.o hR.bo rfl rfl rfl (Nat.le_of_ble_eq_true rfl) (by decide) ⟨rfl, rfl, by decide, by decide⟩ (s_X7_adds hR hA (by rw [List.length_append, List.length_take]; omega) (hok y (List.mem_of_getElem? hy)) (fun h2 z2 hF2 hR2 hA2 => ?_))
      refine J_iinc (L' := [_, _, _]) dX7_readLinks_91 rfl (nI_i1 k) (by decide) rfl ?_
      refine J_goto (tgt := 41) dX7_readLinks_94 (by decide) ?_
      exact ih (k + 1) h2 z2 (by omega) (by omega) (hF.tr hF2) hR2 (by rw [List.take_succ, hy]; simpa using hA2)
theorem s_X7_readLinks (hV : VI h a s) (hQ : ∀ h' r s', (r, s') = f_read s → Fr a (a + 7) h h' → VI h' a s' → Q (some (.int r)) h') : MJ m_X7_readLinks 5 0 0 [.ref a] h Q := by
  obtain ⟨f, g, hh, sn, tx, rd, sp, nu, rm, hR, hA, ⟨hl4, hH⟩, hS, hT⟩ := hV
  have hn := hA.2.1
  have h60 := hT.2.1
  refine MJ_of_J (L := [some (.ref a), none, none]) (by decide +kernel) rfl (Nat.le_of_ble_eq_true rfl) rfl ?_
  refine J_aload_n dX7_readLinks_0 rfl ?_
  refine J_callV (As := []) (rest := []) (M' := m_X7_fault) dX7_readLinks_1 ml_RX7_142 gm_X7_fault gv_X7_fault hR.o hR.bo rfl rfl rfl (Nat.le_of_ble_eq_true rfl) (by decide) ⟨rfl, rfl, by decide, by decide⟩ (s_X7_fault hR hT (fun r1 h1 u1 q1 rd1 l o eT hr1 hz1 hF1 hR1 hN1 => ?_))
  replace hR := hR1
  refine J_istore_n (L' := [_, _, _]) dX7_readLinks_4 (by decide) rfl ?_
  refine J_iload_n dX7_readLinks_5 rfl ?_
  refine J_bipush (x := -5) dX7_readLinks_6 (by decide) ?_
  refine J_icmp_eq (tgt := 16) dX7_readLinks_8 (by decide) (fun c8 => ?_) (fun c8 => ?_)
  · have eo : o = none := by
      cases o with
      | none => rfl
      | some z => exact absurd (hr1.symm.trans c8) (nI_m5 (by have := hz1 z rfl; omega))
    subst eo
    obtain ⟨hrd, hl8, hok⟩ := hN1 rfl
    refine J_aload_n dX7_readLinks_16 rfl ?_
    refine J_get (k := 0) dX7_readLinks_17 gc_7 fl_RX7_7 (by decide) hR.o hR.bo rfl ?_
    refine J_iconst (x := 0) dX7_readLinks_20 (by decide) ?_
    refine J_iald dX7_readLinks_21 hR.c1 hR.b1 (vp_in_nI (n := 0) (by decide) (by decide)) ?_
    rw [show (0 : Int32).toNatClampNeg = 0 from rfl, hA.1.1]
    refine J_aload_n dX7_readLinks_22 rfl ?_
    refine J_get (k := 11) dX7_readLinks_23 gc_7 fl_RX7_125 (by decide) hR.o hR.bo rfl ?_
    refine J_iadd dX7_readLinks_26 ?_
    rw [nI_add]
    refine J_bipush (x := 40) dX7_readLinks_27 (by decide) ?_
    refine J_icmp_le (tgt := 35) dX7_readLinks_29 (by decide) (fun c29 => ?_) (fun c29 => ?_)
    · have c29 : s.1.length + l.length ≤ 40 := (nI_leI (a := s.1.length + l.length) (b := 40) (by omega) (by omega)).mp c29
      refine J_aload_n dX7_readLinks_35 rfl ?_
      refine J_callV (As := []) (rest := []) (M' := m_X7_remember) dX7_readLinks_36 ml_RX7_89 gm_X7_remember gv_X7_remember hR.o hR.bo rfl rfl rfl (Nat.le_of_ble_eq_true rfl) (by decide) ⟨rfl, rfl, by decide, by decide⟩ (s_X7_remember hR (fun h2 g1 hF2 hR2 hg1 => ?_))
      replace hR := hR2
      have hG := hA.c hg1
      refine J_iconst (x := 0) dX7_readLinks_39 (by decide) ?_
      refine J_istore_n (L' := [_, _, _]) dX7_readLinks_40 (by decide) rfl ?_
      refine l_X7_readLinks (rd := rd1) (acc := l) (ls := s.1) hrd hok hl8 c29 (fun h3 f3 x3 hF3 hR3 hA3 => ?_) (l.length + 1) 0 h2 f (by omega) (by omega) Fr.rf hR (by simpa using hA)
      replace hR := hR3
      replace hA := hA3
      refine J_aload_n dX7_readLinks_97 rfl ?_
      refine J_aload_n dX7_readLinks_98 rfl ?_
      refine J_get (k := 0) dX7_readLinks_99 gc_7 fl_RX7_7 (by decide) hR.o hR.bo rfl ?_
      refine J_iconst (x := 0) dX7_readLinks_102 (by decide) ?_
      refine J_iald dX7_readLinks_103 hR.c1 hR.b1 (vp_in_nI (n := 0) (by decide) (by decide)) ?_
      rw [show (0 : Int32).toNatClampNeg = 0 from rfl, hA.1.1]
      refine J_callV (As := [_]) (rest := []) (M' := m_X7_acted) dX7_readLinks_104 ml_RX7_96 gm_X7_acted gv_X7_acted hR.o hR.bo rfl rfl rfl (Nat.le_of_ble_eq_true rfl) (by decide) ⟨rfl, rfl, by decide, by decide⟩ (s_X7_acted hR hH hl4 hG (fun h9 hh9 hF9 hR9 hl9 hH9 => ?_))
      exact J_iret dX7_readLinks_107 rfl ⟨rfl, Nat.le_refl _⟩ (hQ h9 _ (act s (s.1 ++ l)) (by unfold f_read; rw [eT]; dsimp only; rw [ci_f (by omega), List.length_append]) (hF1.tr (hF2.tr (hF3.tr hF9))) ⟨f3, g1, hh9, sn, tx, rd1, q1, u1, _, hR9, hA, ⟨hl9, hH9⟩, hS, hT⟩)
    · refine J_bipush (x := -3) dX7_readLinks_32 (by decide) ?_
      exact J_iret dX7_readLinks_34 rfl ⟨rfl, Nat.le_refl _⟩ (hQ h1 _ s (by unfold f_read; rw [eT]; dsimp only; rw [ci_t (by have c29 : ¬ s.1.length + l.length ≤ 40 := fun q => c29 ((nI_leI (a := s.1.length + l.length) (b := 40) (by omega) (by omega)).mpr q); omega)]) hF1 ⟨f, g, hh, sn, tx, rd1, q1, u1, _, hR, hA, ⟨hl4, hH⟩, hS, hT⟩)
  · refine J_bipush (x := -100) dX7_readLinks_11 (by decide) ?_
    refine J_iload_n dX7_readLinks_13 rfl ?_
    refine J_isub dX7_readLinks_14 ?_
    exact J_iret dX7_readLinks_15 rfl ⟨rfl, Nat.le_refl _⟩ (by cases o with
      | none => exact absurd hr1 c8
      | some z => exact hQ h1 _ s (by unfold f_read; rw [eT, hr1]; rfl) hF1 ⟨f, g, hh, sn, tx, rd1, q1, u1, _, hR, hA, ⟨hl4, hH⟩, hS, hT⟩)
end SMod11
