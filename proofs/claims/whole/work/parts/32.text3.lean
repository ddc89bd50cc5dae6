theorem rL_q {tx : List Nat} {p q : Nat} (h : rL tx p = (none, q)) (hp : p ≤ tx.length) : q ≤ tx.length := by
  unfold rL at h
  cases h1 : rN tx 15 p with
  | none => rw [h1] at h; simp at h; omega
  | some r1 =>
    obtain ⟨one, p1⟩ := r1
    rw [h1] at h
    dsimp only at h
    have b1 := rN_b (by omega) h1
    by_cases c1 : tx[p1]? = some 45
    · rw [if_neg (fun z => z c1)] at h
      have g1 := get_lt c1
      cases h2 : rN tx 15 (p1 + 1) with
      | none => rw [h2] at h; simp at h; omega
      | some r2 =>
        obtain ⟨ot, p2⟩ := r2
        rw [h2] at h
        dsimp only at h
        have b2 := rN_b (by omega) h2
        by_cases c2 : ot = one
        · rw [if_pos c2] at h; simp at h; omega
        · rw [if_neg c2] at h
          by_cases c3 : tx[p2]? = some 64
          · rw [if_neg (fun z => z c3)] at h
            have g3 := get_lt c3
            cases h3 : rN tx 63 (p2 + 1) with
            | none => rw [h3] at h; simp at h; omega
            | some r3 =>
              obtain ⟨fr, p3⟩ := r3
              rw [h3] at h
              dsimp only at h
              have b3 := rN_b (by omega) h3
              by_cases c4 : tx[p3]? = some 58
              · rw [if_neg (fun z => z c4)] at h
                have g4 := get_lt c4
                cases h4 : rN tx 64 (p3 + 1) with
                | none => rw [h4] at h; simp at h; omega
                | some r4 =>
                  obtain ⟨to, p4⟩ := r4
                  rw [h4] at h
                  dsimp only at h
                  have b4 := rN_b (by omega) h4
                  by_cases c5 : to ≤ fr
                  · rw [if_pos c5] at h; simp at h; omega
                  · rw [if_neg c5] at h; simp at h
              · rw [if_pos c4] at h; simp at h; omega
          · rw [if_pos c3] at h; simp at h; omega
    · rw [if_pos c1] at h; simp at h; omega
section SText3
variable {h h' : g_H} {a : Nat} {tx : List Nat} {acc : List Lk} {p : Nat} {Q : Option Value → g_H → Prop}
theorem s_X3_readLink (hP : TP h a tx (nI p)) (hA : LA h (a + 2) acc) (hp : p ≤ tx.length) (hl : acc.length < 40)
    (hQ0 : ∀ h' q, rL tx p = (none, q) → Fr a (a + 2) h h' → TP h' a tx (nI q) → LA h' (a + 2) acc → Q (some (.int 0)) h')
    (hQ1 : ∀ h' q y, rL tx p = (some y, q) → Fr a (a + 7) h h' → TP h' a tx (nI q) → LA h' (a + 2) (acc ++ [y]) → Q (some (.int 1)) h') : MJ m_X3_readLink 2 0 0 [.ref a, .ref (a + 2)] h Q := by
  have hn := hP.len
  have hG : Fr a (a + 2) h h := Fr.rf
  refine MJ_of_J (L := [some (.ref a), some (.ref (a + 2)), none, none, none, none]) (by decide +kernel) rfl (Nat.le_of_ble_eq_true rfl) rfl ?_
  refine J_aload_n dX3_readLink_0 rfl ?_
  refine J_bipush (x := 15) dX3_readLink_1 (by decide) ?_
  refine J_callV (As := [_]) (rest := []) (M' := m_X3_readNumber) dX3_readLink_3 ml_RX3_35 gm_X3_readNumber gv_X3_readNumber hP.o hP.bo rfl rfl rfl (Nat.le_of_ble_eq_true rfl) (by decide) ⟨rfl, rfl, by decide, by decide⟩ (s_X3_readNumber (gr := 15) hP (by omega) (by decide) (by decide) (fun r1 h1 q1 hN1 hF1 hP1 => ?_))
  replace hP := hP1
  replace hA := hA.fr hF1 (by omega)
  replace hG := hG.tr hF1
  refine J_istore_n (L' := [_, _, _, _, _, _]) dX3_readLink_6 (by decide) rfl ?_
  refine J_iload_n dX3_readLink_7 rfl ?_
  refine J_iconst (x := -1) dX3_readLink_8 (by decide) ?_
  refine J_icmp_eq (tgt := 21) dX3_readLink_9 (by decide) (fun c9 => ?_) (fun c9 => ?_)
  · refine J_iconst (x := 0) dX3_readLink_21 (by decide) ?_
    exact J_zret dX3_readLink_22 rfl (by first | exact Or.inl rfl | exact Or.inr rfl) ⟨rfl, Nat.le_refl _⟩ (by have z := hN1.n (by decide) (by decide) c9; rw [z.2] at hP; exact hQ0 _ (p) (by unfold rL; rw [z.1]) hG hP hA)
  · obtain ⟨one, e1, rfl, b1a, b1b, b1c⟩ := hN1.y (by decide) c9
    refine J_aload_n dX3_readLink_12 rfl ?_
    refine J_bipush (x := 45) dX3_readLink_13 (by decide) ?_
    refine J_callV (As := [_]) (rest := []) (M' := m_X3_readSign) dX3_readLink_15 ml_RX3_31 gm_X3_readSign gv_X3_readSign hP.o hP.bo rfl rfl rfl (Nat.le_of_ble_eq_true rfl) (by decide) ⟨rfl, rfl, by decide, by decide⟩ (s_X3_readSign (c := 45) hP (by omega) (by decide) (fun t1 g1 hT1 hE1 hP1s => ?_))
    replace hP := hP1s
    replace hA := hA.fr hE1 (by omega)
    replace hG := hG.tr hE1
    refine J_if_ne (tgt := 23) dX3_readLink_18 (by decide) (fun c18 => ?_) (fun c18 => ?_)
    · have s1 : tx[q1]? = some 45 := nn_of hT1 c18
      rw [if_pos s1] at hP
      have s1b := get_lt s1
      refine J_aload_n dX3_readLink_23 rfl ?_
      refine J_bipush (x := 15) dX3_readLink_24 (by decide) ?_
      refine J_callV (As := [_]) (rest := []) (M' := m_X3_readNumber) dX3_readLink_26 ml_RX3_35 gm_X3_readNumber gv_X3_readNumber hP.o hP.bo rfl rfl rfl (Nat.le_of_ble_eq_true rfl) (by decide) ⟨rfl, rfl, by decide, by decide⟩ (s_X3_readNumber (gr := 15) hP (by omega) (by decide) (by decide) (fun r2 h2 q2 hN2 hF2 hP2 => ?_))
      replace hP := hP2
      replace hA := hA.fr hF2 (by omega)
      replace hG := hG.tr hF2
      refine J_istore_n (L' := [_, _, _, _, _, _]) dX3_readLink_29 (by decide) rfl ?_
      refine J_iload_n dX3_readLink_30 rfl ?_
      refine J_iconst (x := -1) dX3_readLink_31 (by decide) ?_
      refine J_icmp_ne (tgt := 37) dX3_readLink_32 (by decide) (fun c32 => ?_) (fun c32 => ?_)
      · obtain ⟨ot, e2, rfl, b2a, b2b, b2c⟩ := hN2.y (by decide) c32
        refine J_iload_n dX3_readLink_37 rfl ?_
        refine J_iload_n dX3_readLink_38 rfl ?_
        refine J_icmp_ne (tgt := 47) dX3_readLink_39 (by decide) (fun c39 => ?_) (fun c39 => ?_)
        · have n2 : ¬ ot = one := fun q => c39 (by rw [q])
          refine J_aload_n dX3_readLink_47 rfl ?_
          refine J_bipush (x := 64) dX3_readLink_48 (by decide) ?_
          refine J_callV (As := [_]) (rest := []) (M' := m_X3_readSign) dX3_readLink_50 ml_RX3_31 gm_X3_readSign gv_X3_readSign hP.o hP.bo rfl rfl rfl (Nat.le_of_ble_eq_true rfl) (by decide) ⟨rfl, rfl, by decide, by decide⟩ (s_X3_readSign (c := 64) hP (by omega) (by decide) (fun t2 g2 hT2 hE2 hP2s => ?_))
          replace hP := hP2s
          replace hA := hA.fr hE2 (by omega)
          replace hG := hG.tr hE2
          refine J_if_ne (tgt := 58) dX3_readLink_53 (by decide) (fun c53 => ?_) (fun c53 => ?_)
          · have s2 : tx[q2]? = some 64 := nn_of hT2 c53
            rw [if_pos s2] at hP
            have s2b := get_lt s2
            refine J_aload_n dX3_readLink_58 rfl ?_
            refine J_bipush (x := 63) dX3_readLink_59 (by decide) ?_
            refine J_callV (As := [_]) (rest := []) (M' := m_X3_readNumber) dX3_readLink_61 ml_RX3_35 gm_X3_readNumber gv_X3_readNumber hP.o hP.bo rfl rfl rfl (Nat.le_of_ble_eq_true rfl) (by decide) ⟨rfl, rfl, by decide, by decide⟩ (s_X3_readNumber (gr := 63) hP (by omega) (by decide) (by decide) (fun r3 h3 q3 hN3 hF3 hP3 => ?_))
            replace hP := hP3
            replace hA := hA.fr hF3 (by omega)
            replace hG := hG.tr hF3
            refine J_istore (L' := [_, _, _, _, _, _]) dX3_readLink_64 (by decide) rfl ?_
            refine J_iload dX3_readLink_66 rfl ?_
            refine J_iconst (x := -1) dX3_readLink_68 (by decide) ?_
            refine J_icmp_eq (tgt := 81) dX3_readLink_69 (by decide) (fun c69 => ?_) (fun c69 => ?_)
            · refine J_iconst (x := 0) dX3_readLink_81 (by decide) ?_
              exact J_zret dX3_readLink_82 rfl (by first | exact Or.inl rfl | exact Or.inr rfl) ⟨rfl, Nat.le_refl _⟩ (by have z := hN3.n (by decide) (by decide) c69; rw [z.2] at hP; exact hQ0 _ (q2 + 1) (by unfold rL; rw [e1]; dsimp only; rw [if_neg (fun z => z s1), e2]; dsimp only; rw [if_neg n2]; rw [if_neg (fun z => z s2), z.1]) hG hP hA)
            · obtain ⟨fm, e3, rfl, b3a, b3b, b3c⟩ := hN3.y (by decide) c69
              refine J_aload_n dX3_readLink_72 rfl ?_
              refine J_bipush (x := 58) dX3_readLink_73 (by decide) ?_
              refine J_callV (As := [_]) (rest := []) (M' := m_X3_readSign) dX3_readLink_75 ml_RX3_31 gm_X3_readSign gv_X3_readSign hP.o hP.bo rfl rfl rfl (Nat.le_of_ble_eq_true rfl) (by decide) ⟨rfl, rfl, by decide, by decide⟩ (s_X3_readSign (c := 58) hP (by omega) (by decide) (fun t3 g3 hT3 hE3 hP3s => ?_))
              replace hP := hP3s
              replace hA := hA.fr hE3 (by omega)
              replace hG := hG.tr hE3
              refine J_if_ne (tgt := 83) dX3_readLink_78 (by decide) (fun c78 => ?_) (fun c78 => ?_)
              · have s3 : tx[q3]? = some 58 := nn_of hT3 c78
                rw [if_pos s3] at hP
                have s3b := get_lt s3
                refine J_aload_n dX3_readLink_83 rfl ?_
                refine J_bipush (x := 64) dX3_readLink_84 (by decide) ?_
                refine J_callV (As := [_]) (rest := []) (M' := m_X3_readNumber) dX3_readLink_86 ml_RX3_35 gm_X3_readNumber gv_X3_readNumber hP.o hP.bo rfl rfl rfl (Nat.le_of_ble_eq_true rfl) (by decide) ⟨rfl, rfl, by decide, by decide⟩ (s_X3_readNumber (gr := 64) hP (by omega) (by decide) (by decide) (fun r4 h4 q4 hN4 hF4 hP4 => ?_))
                replace hP := hP4
                replace hA := hA.fr hF4 (by omega)
                replace hG := hG.tr hF4
                refine J_istore (L' := [_, _, _, _, _, _]) dX3_readLink_89 (by decide) rfl ?_
                refine J_iload dX3_readLink_91 rfl ?_
                refine J_iconst (x := -1) dX3_readLink_93 (by decide) ?_
                refine J_icmp_ne (tgt := 99) dX3_readLink_94 (by decide) (fun c94 => ?_) (fun c94 => ?_)
                · obtain ⟨too, e4, rfl, b4a, b4b, b4c⟩ := hN4.y (by decide) c94
                  refine J_iload dX3_readLink_99 rfl ?_
                  refine J_iload dX3_readLink_101 rfl ?_
                  refine J_icmp_gt (tgt := 111) dX3_readLink_103 (by decide) (fun c103 => ?_) (fun c103 => ?_)
                  · have n4 : ¬ too ≤ fm := fun q => Nat.not_lt.mpr q ((nI_ltI (by omega) (by omega)).mp c103)
                    have eL : rL tx p = (some (one, ot, fm, too), q4) := by
                      unfold rL; rw [e1]; dsimp only; rw [if_neg (fun z => z s1), e2]; dsimp only; rw [if_neg n2]; rw [if_neg (fun z => z s2), e3]; dsimp only; rw [if_neg (fun z => z s3), e4]; dsimp only; rw [if_neg n4]
                    refine J_aload_n dX3_readLink_111 rfl ?_
                    refine J_iload_n dX3_readLink_112 rfl ?_
                    refine J_iload_n dX3_readLink_113 rfl ?_
                    refine J_iload dX3_readLink_114 rfl ?_
                    refine J_iload dX3_readLink_116 rfl ?_
                    refine J_callV (As := [_, _, _, _]) (rest := []) (M' := m_X4_add) dX3_readLink_118 ml_RX3_43 gm_X4_add gv_X4_add hA.o hA.b rfl rfl rfl (Nat.le_of_ble_eq_true rfl) (by decide) ⟨rfl, rfl, by decide, by decide⟩ (s_X4_add (y := (one, ot, fm, too)) hA (rL_ok eL).1 hl (fun h9 hF9 hA9 => ?_))
                    refine J_iconst (x := 1) dX3_readLink_121 (by decide) ?_
                    exact J_zret dX3_readLink_122 rfl (by first | exact Or.inl rfl | exact Or.inr rfl) ⟨rfl, Nat.le_refl _⟩ (hQ1 _ q4 _ eL ((hG.mono (by omega) (by omega)).tr (hF9.mono (by omega) (by omega))) (hP.fr hF9 (by omega)) hA9)
                  · have n4 : too ≤ fm := Nat.not_lt.mp (fun q => c103 ((nI_ltI (by omega) (by omega)).mpr q))
                    obtain ⟨q4, rfl⟩ : ∃ z, q4 = z + 1 := ⟨q4 - 1, by omega⟩
                    refine J_aload_n dX3_readLink_106 rfl ?_
                    refine J_callV (As := []) (rest := []) (M' := m_X3_refuseLastDigit) dX3_readLink_107 ml_RX3_39 gm_X3_refuseLastDigit gv_X3_refuseLastDigit hP.o hP.bo rfl rfl rfl (Nat.le_of_ble_eq_true rfl) (by decide) ⟨rfl, rfl, by decide, by decide⟩ (s_X3_refuseLastDigit hP (fun h9 hF9 hP9 => ?_))
                    replace hA := hA.fr hF9 (by omega)
                    replace hG := hG.tr hF9
                    exact J_zret dX3_readLink_110 rfl (by first | exact Or.inl rfl | exact Or.inr rfl) ⟨rfl, Nat.le_refl _⟩ (hQ0 _ q4 (by unfold rL; rw [e1]; dsimp only; rw [if_neg (fun z => z s1), e2]; dsimp only; rw [if_neg n2]; rw [if_neg (fun z => z s2), e3]; dsimp only; rw [if_neg (fun z => z s3), e4]; dsimp only; rw [if_pos n4, Nat.add_sub_cancel]) hG hP9 hA)
                · refine J_iconst (x := 0) dX3_readLink_97 (by decide) ?_
                  exact J_zret dX3_readLink_98 rfl (by first | exact Or.inl rfl | exact Or.inr rfl) ⟨rfl, Nat.le_refl _⟩ (by have z := hN4.n (by decide) (by decide) c94; rw [z.2] at hP; exact hQ0 _ (q3 + 1) (by unfold rL; rw [e1]; dsimp only; rw [if_neg (fun z => z s1), e2]; dsimp only; rw [if_neg n2]; rw [if_neg (fun z => z s2), e3]; dsimp only; rw [if_neg (fun z => z s3), z.1]) hG hP hA)
              · refine J_iconst (x := 0) dX3_readLink_81 (by decide) ?_
                exact J_zret dX3_readLink_82 rfl (by first | exact Or.inl rfl | exact Or.inr rfl) ⟨rfl, Nat.le_refl _⟩ (by have sn : ¬ tx[q3]? = some 58 := (bI_0 hT3).mp c78; rw [if_neg sn] at hP; exact hQ0 _ q3 (by unfold rL; rw [e1]; dsimp only; rw [if_neg (fun z => z s1), e2]; dsimp only; rw [if_neg n2]; rw [if_neg (fun z => z s2), e3]; dsimp only; rw [if_pos sn]) hG hP hA)
          · refine J_iconst (x := 0) dX3_readLink_56 (by decide) ?_
            exact J_zret dX3_readLink_57 rfl (by first | exact Or.inl rfl | exact Or.inr rfl) ⟨rfl, Nat.le_refl _⟩ (by have sn : ¬ tx[q2]? = some 64 := (bI_0 hT2).mp c53; rw [if_neg sn] at hP; exact hQ0 _ q2 (by unfold rL; rw [e1]; dsimp only; rw [if_neg (fun z => z s1), e2]; dsimp only; rw [if_neg n2]; rw [if_pos sn]) hG hP hA)
        · have n2 : ot = one := (nI_eq (by omega) (by omega)).mp c39
          obtain ⟨q2, rfl⟩ : ∃ z, q2 = z + 1 := ⟨q2 - 1, by omega⟩
          refine J_aload_n dX3_readLink_42 rfl ?_
          refine J_callV (As := []) (rest := []) (M' := m_X3_refuseLastDigit) dX3_readLink_43 ml_RX3_39 gm_X3_refuseLastDigit gv_X3_refuseLastDigit hP.o hP.bo rfl rfl rfl (Nat.le_of_ble_eq_true rfl) (by decide) ⟨rfl, rfl, by decide, by decide⟩ (s_X3_refuseLastDigit hP (fun h9 hF9 hP9 => ?_))
          replace hA := hA.fr hF9 (by omega)
          replace hG := hG.tr hF9
          exact J_zret dX3_readLink_46 rfl (by first | exact Or.inl rfl | exact Or.inr rfl) ⟨rfl, Nat.le_refl _⟩ (hQ0 _ q2 (by unfold rL; rw [e1]; dsimp only; rw [if_neg (fun z => z s1), e2]; dsimp only; rw [if_pos n2, Nat.add_sub_cancel]) hG hP9 hA)
      · refine J_iconst (x := 0) dX3_readLink_35 (by decide) ?_
        exact J_zret dX3_readLink_36 rfl (by first | exact Or.inl rfl | exact Or.inr rfl) ⟨rfl, Nat.le_refl _⟩ (by have z := hN2.n (by decide) (by decide) c32; rw [z.2] at hP; exact hQ0 _ (q1 + 1) (by unfold rL; rw [e1]; dsimp only; rw [if_neg (fun z => z s1), z.1]) hG hP hA)
    · refine J_iconst (x := 0) dX3_readLink_21 (by decide) ?_
      exact J_zret dX3_readLink_22 rfl (by first | exact Or.inl rfl | exact Or.inr rfl) ⟨rfl, Nat.le_refl _⟩ (by have sn : ¬ tx[q1]? = some 45 := (bI_0 hT1).mp c18; rw [if_neg sn] at hP; exact hQ0 _ q1 (by unfold rL; rw [e1]; dsimp only; rw [if_pos sn]) hG hP hA)
theorem l_X3_readInto (hl60 : tx.length ≤ 60)
    (hQ0 : ∀ h' l q, rT tx 61 0 [] = (l, some q) → Fr a (a + 7) h h' → q ≤ 60 → TP h' a tx (nI q) → (∃ l', LA h' (a + 2) l') → Q (some (.int (nI q))) h')
    (hQ1 : ∀ h' l q, rT tx 61 0 [] = (l, none) → Fr a (a + 7) h h' → TP h' a tx (nI q) → LA h' (a + 2) l → Q (some (.int (-1))) h') : ∀ (n t p : Nat) (h1 : g_H) (acc : List Lk), n + t = 61 → 8 * t ≤ p → acc.length = t → p ≤ tx.length → Fr a (a + 7) h h1 → TP h1 a tx (nI p) → LA h1 (a + 2) acc → rT tx 61 0 [] = rT tx n p acc → J m_X3_readInto 3 0 0 0 0 11 [some (.ref a), some (.ref (a + 2)), some (.int (nI t))] [] h1 Q := by
  intro n
  induction n with
  | zero => intro t p h1 acc hnt; omega
  | succ n ih =>
    intro t p h1 acc hnt htp hacc hp hF hP hA hE
    have eT : rT tx (n + 1) p acc = (match rL tx p with | (none, q) => (acc, some q) | (some y, q) => if q = tx.length then (acc ++ [y], none) else if tx[q]? = some 44 then rT tx n (q + 1) (acc ++ [y]) else (acc ++ [y], some q)) := rfl
    rw [eT] at hE
    refine J_iload_n dX3_readInto_11 rfl ?_
    refine J_bipush (x := 60) dX3_readInto_12 (by decide) ?_
    refine J_icmp_ge (tgt := 63) dX3_readInto_14 (by decide) (fun c14 => absurd ((nI_leI (a := 60) (b := t) (by omega) (by omega)).mp c14) (by omega)) (fun c14 => ?_)
    refine J_aload_n dX3_readInto_17 rfl ?_
    refine J_aload_n dX3_readInto_18 rfl ?_
    refine J_callV (As := [_]) (rest := []) (M' := m_X3_readLink) dX3_readInto_19 ml_RX3_27 gm_X3_readLink gv_X3_readLink hP.o hP.bo rfl rfl rfl (Nat.le_of_ble_eq_true rfl) (by decide) ⟨rfl, rfl, by decide, by decide⟩ (s_X3_readLink hP hA hp (by omega) (fun h2 q eL hF2 hP2 hA2 => ?_) (fun h2 q y eL hF2 hP2 hA2 => ?_))
    · rw [eL] at hE
      dsimp only at hE
      have hq60 : q ≤ 60 := by have := rL_q eL hp; omega
      refine J_if_ne (tgt := 30) dX3_readInto_22 (by decide) (fun c22 => absurd rfl c22) (fun c22 => ?_)
      refine J_aload_n dX3_readInto_25 rfl ?_
      refine J_get (k := 2) dX3_readInto_26 gc_3 fl_RX3_24 (by decide) hP2.o hP2.bo rfl ?_
      exact J_iret dX3_readInto_29 rfl ⟨rfl, Nat.le_refl _⟩ (hQ0 h2 acc q hE (hF.tr (hF2.mono (Nat.le_refl _) (by omega))) hq60 hP2 ⟨_, hA2⟩)
    · rw [eL] at hE
      dsimp only at hE
      have hb := rL_ok eL
      refine J_if_ne (tgt := 30) dX3_readInto_22 (by decide) (fun c22 => ?_) (fun c22 => absurd c22 (by decide))
      refine J_aload_n dX3_readInto_30 rfl ?_
      refine J_get (k := 2) dX3_readInto_31 gc_3 fl_RX3_24 (by decide) hP2.o hP2.bo rfl ?_
      refine J_aload_n dX3_readInto_34 rfl ?_
      refine J_get (k := 1) dX3_readInto_35 gc_3 fl_RX3_15 (by decide) hP2.o hP2.bo rfl ?_
      refine J_icmp_ne (tgt := 43) dX3_readInto_38 (by decide) (fun c38 => ?_) (fun c38 => ?_)
      · refine J_aload_n dX3_readInto_43 rfl ?_
        refine J_bipush (x := 44) dX3_readInto_44 (by decide) ?_
        refine J_callV (As := [_]) (rest := []) (M' := m_X3_readSign) dX3_readInto_46 ml_RX3_31 gm_X3_readSign gv_X3_readSign hP2.o hP2.bo rfl rfl rfl (Nat.le_of_ble_eq_true rfl) (by decide) ⟨rfl, rfl, by decide, by decide⟩ (s_X3_readSign (c := 44) hP2 hb.2.2 (by decide) (fun r h3 hr hF3 hP3 => ?_))
        replace hP2 := hP3
        replace hA2 := hA2.fr hF3 (by omega)
        have hF4 := (hF.tr hF2).tr (hF3.mono (Nat.le_refl _) (by omega))
        refine J_if_ne (tgt := 57) dX3_readInto_49 (by decide) (fun c49 => ?_) (fun c49 => ?_)
        · refine J_iinc (L' := [_, _, _]) dX3_readInto_57 rfl (nI_i1 t) (by decide) rfl ?_
          refine J_goto (tgt := 11) dX3_readInto_60 (by decide) ?_
          have s4 := nn_of hr c49
          rw [if_pos s4] at hE hP2
          have hq := get_lt s4
          rw [if_neg (by omega)] at hE
          exact ih (t + 1) (q + 1) h3 (acc ++ [y]) (by omega) (by omega) (by rw [List.length_append]; simp; omega) (by omega) hF4 hP2 hA2 hE
        · refine J_aload_n dX3_readInto_52 rfl ?_
          refine J_get (k := 2) dX3_readInto_53 gc_3 fl_RX3_24 (by decide) hP2.o hP2.bo rfl ?_
          exact J_iret dX3_readInto_56 rfl ⟨rfl, Nat.le_refl _⟩ (by have s4 := (bI_0 hr).mp c49; rw [if_neg s4] at hP2; rw [if_neg s4]; exact hQ0 h3 _ q (by rw [hE, if_neg (fun z => c38 (by rw [z])), if_neg s4]) hF4 (by have := hb.2.2; omega) hP2 ⟨_, hA2⟩)
      · refine J_iconst (x := -1) dX3_readInto_41 (by decide) ?_
        exact J_iret dX3_readInto_42 rfl ⟨rfl, Nat.le_refl _⟩ (hQ1 h2 _ q (by rw [hE, if_pos ((nI_eq (by omega) (by omega)).mp c38)]) (hF.tr hF2) hP2 hA2)
theorem s_X3_readInto {pl : Int32} (hP : TP h a tx pl) (hA : LA h (a + 2) acc) 
    (hQ0 : ∀ h' l q, rT tx 61 0 [] = (l, some q) → Fr a (a + 7) h h' → q ≤ 60 → TP h' a tx (nI q) → (∃ l', LA h' (a + 2) l') → Q (some (.int (nI q))) h')
    (hQ1 : ∀ h' l q, rT tx 61 0 [] = (l, none) → Fr a (a + 7) h h' → TP h' a tx (nI q) → LA h' (a + 2) l → Q (some (.int (-1))) h') : MJ m_X3_readInto 3 0 0 [.ref a, .ref (a + 2)] h Q := by
  refine MJ_of_J (L := [some (.ref a), some (.ref (a + 2)), none]) (by decide +kernel) rfl (Nat.le_of_ble_eq_true rfl) rfl ?_
  refine J_aload_n dX3_readInto_0 rfl ?_
  refine J_callV (As := []) (rest := []) (M' := m_X4_empty) dX3_readInto_1 ml_RX3_19 gm_X4_empty gv_X4_empty hA.o hA.b rfl rfl rfl (Nat.le_of_ble_eq_true rfl) (by decide) ⟨rfl, rfl, by decide, by decide⟩ (s_X4_empty hA (fun h1 hF1 hA1 => ?_))
  replace hP := hP.fr hF1 (by omega)
  refine J_aload_n dX3_readInto_4 rfl ?_
  refine J_iconst (x := 0) dX3_readInto_5 (by decide) ?_
  refine J_put (k := 2) dX3_readInto_6 gc_3 fl_RX3_24 (by decide) rfl hP.o hP.bo (Nat.le_of_ble_eq_true rfl) (fun _ => ⟨rfl, rfl⟩) rfl ?_
  replace hP := hP.so (nI 0)
  have hF2 := up_fr h1 a (.inr (3, [.ref (a + 1), .int (nI tx.length), .int (nI 0)]))
  refine J_iconst (x := 0) dX3_readInto_9 (by decide) ?_
  refine J_istore_n (L' := [_, _, _]) dX3_readInto_10 (by decide) rfl ?_
  exact l_X3_readInto hP.len hQ0 hQ1 61 0 0 _ [] (by omega) (by omega) rfl (by omega) ((hF1.mono (by omega) (by omega)).tr (hF2.mono (by omega) (by omega))) hP (hA1.fr hF2 (by omega)) rfl
end SText3
