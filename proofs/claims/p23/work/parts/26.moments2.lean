section SMom2
variable {h h' : g_H} {a b : Nat} {ls : List Lk} {Q : Option Value → g_H → Prop}
theorem s_X5_isNeededAt {m j : Nat} {y : Lk} (hm : m < 64) (hM : MA h a) (hA : LA h b ls) (hd : b + 5 ≤ a ∨ a + 9 ≤ b) (hj : ls[j]? = some y) (hQ : ∀ r h', r = bI (NM ls j m y) → Fr a (a + 9) h h' → MA h' a → Q (some (.int r)) h') : MJ m_X5_isNeededAt 4 0 0 [.ref a, .ref b, .int (nI j), .int (nI m)] h Q := by
  obtain ⟨o1, o2, o3, o4, o5⟩ := hA.ok y (List.mem_of_getElem? hj)
  refine MJ_of_J (L := [some (.ref a), some (.ref b), some (.int (nI j)), some (.int (nI m))]) (by decide +kernel) rfl (Nat.le_of_ble_eq_true rfl) rfl ?_
  refine J_aload_n dX5_isNeededAt_0 rfl ?_
  refine J_iload_n dX5_isNeededAt_1 rfl ?_
  refine J_iload_n dX5_isNeededAt_2 rfl ?_
  refine J_callV (As := [_, _]) (rest := []) (M' := m_X4_livesAt) dX5_isNeededAt_3 ml_RX5_32 gm_X4_livesAt gv_X4_livesAt hA.o hA.b rfl rfl rfl (Nat.le_of_ble_eq_true rfl) (by decide) ⟨rfl, rfl, by decide, by decide⟩ (s_X4_livesAt hA hj (fun r hr => ?_))
  rw [nI_toInt (show m < 2 ^ 31 by omega)] at hr
  refine J_if_ne (tgt := 11) dX5_isNeededAt_6 (by decide) (fun c6 => ?_) (fun c6 => ?_)
  · refine J_aload_n dX5_isNeededAt_11 rfl ?_
    refine J_aload_n dX5_isNeededAt_12 rfl ?_
    refine J_iload_n dX5_isNeededAt_13 rfl ?_
    refine J_iload_n dX5_isNeededAt_14 rfl ?_
    refine J_callV (As := [_, _, _]) (rest := []) (M' := m_X5_joinWithout) dX5_isNeededAt_15 ml_RX5_47 gm_X5_joinWithout gv_X5_joinWithout hM.o hM.bo rfl rfl rfl (Nat.le_of_ble_eq_true rfl) (by decide) ⟨rfl, rfl, by decide, by decide⟩ (s_X5_joinWithout hm hM hA hd (fun h1 js hF1 hM1 hJ1 hR1 => ?_))
    replace hM := hM1
    replace hA := hA.fr hF1 (by omega)
    refine J_aload_n dX5_isNeededAt_18 rfl ?_
    refine J_get (k := 0) dX5_isNeededAt_19 gc_5 fl_RX5_14 (by decide) hM.o hM.bo rfl ?_
    refine J_aload_n dX5_isNeededAt_22 rfl ?_
    refine J_iload_n dX5_isNeededAt_23 rfl ?_
    refine J_callV (As := [_]) (rest := [_]) (M' := m_X4_oneOf) dX5_isNeededAt_24 ml_RX5_36 gm_X4_oneOf gv_X4_oneOf hA.o hA.b rfl rfl rfl (Nat.le_of_ble_eq_true rfl) (by decide) ⟨rfl, rfl, by decide, by decide⟩ (s_X4_oneOf hA hj (fun r1 hr1 => ?_))
    subst hr1
    refine J_aload_n dX5_isNeededAt_27 rfl ?_
    refine J_iload_n dX5_isNeededAt_28 rfl ?_
    refine J_callV (As := [_]) (rest := [_, _]) (M' := m_X4_otherOf) dX5_isNeededAt_29 ml_RX5_40 gm_X4_otherOf gv_X4_otherOf hA.o hA.b rfl rfl rfl (Nat.le_of_ble_eq_true rfl) (by decide) ⟨rfl, rfl, by decide, by decide⟩ (s_X4_otherOf hA hj (fun r1 hr1 => ?_))
    subst hr1
    refine J_callV (As := [_, _]) (rest := []) (M' := m_X2_areJoined) dX5_isNeededAt_32 ml_RX5_51 gm_X2_areJoined gv_X2_areJoined hJ1.o hJ1.b rfl rfl rfl (Nat.le_of_ble_eq_true rfl) (by decide) ⟨rfl, rfl, by decide, by decide⟩ (s_X2_areJoined hJ1 o1 o2 (fun r2 hr2 => ?_))
    rw [bI_c (hR1 _ _ o1 o2)] at hr2
    refine J_if_ne (tgt := 42) dX5_isNeededAt_35 (by decide) (fun c35 => ?_) (fun c35 => ?_)
    · refine J_iconst (x := 0) dX5_isNeededAt_42 (by decide) ?_
      exact J_zret dX5_isNeededAt_43 rfl (by first | exact Or.inl rfl | exact Or.inr rfl) ⟨rfl, Nat.le_refl _⟩ (hQ _ _ (bI_f (fun q => q.2 (nn_of hr2 c35))).symm hF1 hM1)
    · refine J_iconst (x := 1) dX5_isNeededAt_38 (by decide) ?_
      refine J_goto (tgt := 43) dX5_isNeededAt_39 (by decide) ?_
      exact J_zret dX5_isNeededAt_43 rfl (by first | exact Or.inl rfl | exact Or.inr rfl) ⟨rfl, Nat.le_refl _⟩ (hQ _ _ (bI_t ⟨nn_of hr c6, (bI_0 hr2).mp c35⟩).symm hF1 hM1)
  · refine J_iconst (x := 0) dX5_isNeededAt_9 (by decide) ?_
    exact J_zret dX5_isNeededAt_10 rfl (by first | exact Or.inl rfl | exact Or.inr rfl) ⟨rfl, Nat.le_refl _⟩ (hQ _ _ (bI_f (fun q => (bI_0 hr).mp c6 q.1)).symm Fr.rf hM)
noncomputable def nlN (ls : List Lk) (m : Nat) (k : Nat) : Nat := oneI (∃ y, ls[k]? = some y ∧ NM ls k m y)
theorem nlN_of {ls : List Lk} {m k : Nat} {y : Lk} (h : ls[k]? = some y) : nlN ls m k = oneI (NM ls k m y) := oneI_c ⟨fun ⟨z, h1, h2⟩ => by rw [h] at h1; cases h1; exact h2, fun q => ⟨y, h, q⟩⟩
theorem l_X5_neededLinksAt {m : Nat} (hm : m < 64) (hA0 : LA h b ls) (hd : b + 5 ≤ a ∨ a + 9 ≤ b) (hQ : ∀ r h', r = nI (sumN (nlN ls m) ls.length) → Fr a (a + 9) h h' → MA h' a → Q (some (.int r)) h') : ∀ (t k c : Nat) (h1 : g_H), ls.length - k < t → k ≤ ls.length → c = sumN (nlN ls m) k → Fr a (a + 9) h h1 → MA h1 a → J m_X5_neededLinksAt 5 0 0 0 0 5 [some (.ref a), some (.ref b), some (.int (nI m)), some (.int (nI c)), some (.int (nI k))] [] h1 Q := by
  intro t
  induction t with
  | zero => intro k c h1 ht; omega
  | succ t ih =>
    intro k c h1 ht hk hc hF hM
    have hA := hA0.fr hF (by omega)
    have hn := hA.len
    refine J_iload dX5_neededLinksAt_5 rfl ?_
    refine J_aload_n dX5_neededLinksAt_7 rfl ?_
    refine J_callV (As := []) (rest := [_]) (M' := m_X4_size) dX5_neededLinksAt_8 ml_RX5_26 gm_X4_size gv_X4_size hA.o hA.b rfl rfl rfl (Nat.le_of_ble_eq_true rfl) (by decide) ⟨rfl, rfl, by decide, by decide⟩ (s_X4_size hA (fun r hr => ?_))
    subst hr
    refine J_icmp_ge (tgt := 34) dX5_neededLinksAt_11 (by decide) (fun c11 => ?_) (fun c11 => ?_)
    · refine J_iload_n dX5_neededLinksAt_34 rfl ?_
      exact J_iret dX5_neededLinksAt_35 rfl ⟨rfl, Nat.le_refl _⟩ (hQ _ _ (by have c11 := (nI_leI (by omega) (by omega)).mp c11; rw [hc, show k = ls.length by omega]) hF hM)
    · have c11 : k < ls.length := Nat.not_le.mp (fun q => c11 ((nI_leI (by omega) (by omega)).mpr q))
      obtain ⟨y, hy⟩ := get_of c11
      refine J_aload_n dX5_neededLinksAt_14 rfl ?_
      refine J_aload_n dX5_neededLinksAt_15 rfl ?_
      refine J_iload dX5_neededLinksAt_16 rfl ?_
      refine J_iload_n dX5_neededLinksAt_18 rfl ?_
      refine J_callV (As := [_, _, _]) (rest := []) (M' := m_X5_isNeededAt) dX5_neededLinksAt_19 ml_RX5_66 gm_X5_isNeededAt gv_X5_isNeededAt hM.o hM.bo rfl rfl rfl (Nat.le_of_ble_eq_true rfl) (by decide) ⟨rfl, rfl, by decide, by decide⟩ (s_X5_isNeededAt hm hM hA hd hy (fun r h2 hr hF2 hM2 => ?_))
      refine J_if_eq (tgt := 28) dX5_neededLinksAt_22 (by decide) (fun c22 => ?_) (fun c22 => ?_)
      · refine J_iinc (L' := [_, _, _, _, _]) dX5_neededLinksAt_28 rfl (nI_i1 k) (by decide) rfl ?_
        refine J_goto (tgt := 5) dX5_neededLinksAt_31 (by decide) ?_
        exact ih (k + 1) _ h2 (by omega) (by omega) (by rw [hc]; show _ = sumN (nlN ls m) k + nlN ls m k; rw [nlN_of hy, oneI_f ((bI_0 hr).mp c22)]; omega) (hF.tr hF2) hM2
      · refine J_iinc (L' := [_, _, _, _, _]) dX5_neededLinksAt_25 rfl (nI_i1 c) (by decide) rfl ?_
        refine J_iinc (L' := [_, _, _, _, _]) dX5_neededLinksAt_28 rfl (nI_i1 k) (by decide) rfl ?_
        refine J_goto (tgt := 5) dX5_neededLinksAt_31 (by decide) ?_
        exact ih (k + 1) _ h2 (by omega) (by omega) (by rw [hc]; show _ = sumN (nlN ls m) k + nlN ls m k; rw [nlN_of hy, oneI_t (nn_of hr c22)]) (hF.tr hF2) hM2
theorem s_X5_neededLinksAt {m : Nat} (hm : m < 64) (hM : MA h a) (hA : LA h b ls) (hd : b + 5 ≤ a ∨ a + 9 ≤ b) (hQ : ∀ r h', r = nI (sumN (nlN ls m) ls.length) → Fr a (a + 9) h h' → MA h' a → Q (some (.int r)) h') : MJ m_X5_neededLinksAt 5 0 0 [.ref a, .ref b, .int (nI m)] h Q := by
  refine MJ_of_J (L := [some (.ref a), some (.ref b), some (.int (nI m)), none, none]) (by decide +kernel) rfl (Nat.le_of_ble_eq_true rfl) rfl ?_
  refine J_iconst (x := 0) dX5_neededLinksAt_0 (by decide) ?_
  refine J_istore_n (L' := [_, _, _, _, _]) dX5_neededLinksAt_1 (by decide) rfl ?_
  refine J_iconst (x := 0) dX5_neededLinksAt_2 (by decide) ?_
  refine J_istore (L' := [_, _, _, _, _]) dX5_neededLinksAt_3 (by decide) rfl ?_
  exact l_X5_neededLinksAt hm hA hd hQ (ls.length + 1) 0 0 h (by omega) (by omega) rfl Fr.rf hM
noncomputable def nmN (ls : List Lk) (j : Nat) (y : Lk) (m : Nat) : Nat := oneI (NM ls j m y)
theorem l_X5_neededMomentsOf {j : Nat} {y : Lk} (hj : ls[j]? = some y) (hA0 : LA h b ls) (hd : b + 5 ≤ a ∨ a + 9 ≤ b) (hQ : ∀ r h', r = nI (sumN (nmN ls j y) 64) → Fr a (a + 9) h h' → MA h' a → Q (some (.int r)) h') : ∀ (t k c : Nat) (h1 : g_H), 64 - k < t → k ≤ 64 → c = sumN (nmN ls j y) k → Fr a (a + 9) h h1 → MA h1 a → J m_X5_neededMomentsOf 5 0 0 0 0 5 [some (.ref a), some (.ref b), some (.int (nI j)), some (.int (nI c)), some (.int (nI k))] [] h1 Q := by
  intro t
  induction t with
  | zero => intro k c h1 ht; omega
  | succ t ih =>
    intro k c h1 ht hk hc hF hM
    have hA := hA0.fr hF (by omega)
    have hn := hA.len
    refine J_iload dX5_neededMomentsOf_5 rfl ?_
    refine J_bipush (x := 64) dX5_neededMomentsOf_7 (by decide) ?_
    refine J_icmp_ge (tgt := 32) dX5_neededMomentsOf_9 (by decide) (fun c9 => ?_) (fun c9 => ?_)
    · refine J_iload_n dX5_neededMomentsOf_32 rfl ?_
      exact J_iret dX5_neededMomentsOf_33 rfl ⟨rfl, Nat.le_refl _⟩ (hQ _ _ (by have c9 := (nI_leI (a := 64) (b := k) (by omega) (by omega)).mp c9; rw [hc, show k = 64 by omega]) hF hM)
    · have c9 : k < 64 := Nat.not_le.mp (fun q => c9 ((nI_leI (a := 64) (b := k) (by omega) (by omega)).mpr q))
      refine J_aload_n dX5_neededMomentsOf_12 rfl ?_
      refine J_aload_n dX5_neededMomentsOf_13 rfl ?_
      refine J_iload_n dX5_neededMomentsOf_14 rfl ?_
      refine J_iload dX5_neededMomentsOf_15 rfl ?_
      refine J_callV (As := [_, _, _]) (rest := []) (M' := m_X5_isNeededAt) dX5_neededMomentsOf_17 ml_RX5_66 gm_X5_isNeededAt gv_X5_isNeededAt hM.o hM.bo rfl rfl rfl (Nat.le_of_ble_eq_true rfl) (by decide) ⟨rfl, rfl, by decide, by decide⟩ (s_X5_isNeededAt c9 hM hA hd hj (fun r h2 hr hF2 hM2 => ?_))
      refine J_if_eq (tgt := 26) dX5_neededMomentsOf_20 (by decide) (fun c20 => ?_) (fun c20 => ?_)
      · refine J_iinc (L' := [_, _, _, _, _]) dX5_neededMomentsOf_26 rfl (nI_i1 k) (by decide) rfl ?_
        refine J_goto (tgt := 5) dX5_neededMomentsOf_29 (by decide) ?_
        exact ih (k + 1) _ h2 (by omega) (by omega) (by rw [hc]; show _ = sumN (nmN ls j y) k + oneI (NM ls j k y); rw [oneI_f ((bI_0 hr).mp c20)]; omega) (hF.tr hF2) hM2
      · refine J_iinc (L' := [_, _, _, _, _]) dX5_neededMomentsOf_23 rfl (nI_i1 c) (by decide) rfl ?_
        refine J_iinc (L' := [_, _, _, _, _]) dX5_neededMomentsOf_26 rfl (nI_i1 k) (by decide) rfl ?_
        refine J_goto (tgt := 5) dX5_neededMomentsOf_29 (by decide) ?_
        exact ih (k + 1) _ h2 (by omega) (by omega) (by rw [hc]; show _ = sumN (nmN ls j y) k + oneI (NM ls j k y); rw [oneI_t (nn_of hr c20)]) (hF.tr hF2) hM2
theorem s_X5_neededMomentsOf {j : Nat} {y : Lk} (hj : ls[j]? = some y) (hM : MA h a) (hA : LA h b ls) (hd : b + 5 ≤ a ∨ a + 9 ≤ b) (hQ : ∀ r h', r = nI (sumN (nmN ls j y) 64) → Fr a (a + 9) h h' → MA h' a → Q (some (.int r)) h') : MJ m_X5_neededMomentsOf 5 0 0 [.ref a, .ref b, .int (nI j)] h Q := by
  refine MJ_of_J (L := [some (.ref a), some (.ref b), some (.int (nI j)), none, none]) (by decide +kernel) rfl (Nat.le_of_ble_eq_true rfl) rfl ?_
  refine J_iconst (x := 0) dX5_neededMomentsOf_0 (by decide) ?_
  refine J_istore_n (L' := [_, _, _, _, _]) dX5_neededMomentsOf_1 (by decide) rfl ?_
  refine J_iconst (x := 0) dX5_neededMomentsOf_2 (by decide) ?_
  refine J_istore (L' := [_, _, _, _, _]) dX5_neededMomentsOf_3 (by decide) rfl ?_
  exact l_X5_neededMomentsOf hj hA hd hQ 65 0 0 h (by omega) (by omega) rfl Fr.rf hM
theorem l1_X5_isOddAt {m : Nat} (hm : m < 64) (hA0 : LA h b ls) (hd : b + 5 ≤ a ∨ a + 9 ≤ b) (K : ∀ h1 js x, Fr a (a + 9) h h1 → MA h1 a → JA h1 (a + 5) 32 js → RP 32 js (DK ls (lvA m) ls.length) → J m_X5_isOddAt 3 0 0 0 0 73 [some (.ref a), some (.ref b), some (.int (nI m)), some (.int x)] [] h1 Q) : ∀ (t k : Nat) (h1 : g_H) (js : List (Nat × Nat)), ls.length - k < t → k ≤ ls.length → Fr a (a + 9) h h1 → MA h1 a → JA h1 (a + 5) 32 js → RP 32 js (DK ls (lvA m) k) → J m_X5_isOddAt 3 0 0 0 0 10 [some (.ref a), some (.ref b), some (.int (nI m)), some (.int (nI k))] [] h1 Q := by
  intro t
  induction t with
  | zero => intro k h1 js ht; omega
  | succ t ih =>
    intro k h1 js ht hk hF hM hJ hR
    have hA := hA0.fr hF (by omega)
    have hn := hA.len
    have hO := hA.ok
    refine J_iload_n dX5_isOddAt_10 rfl ?_
    refine J_aload_n dX5_isOddAt_11 rfl ?_
    refine J_callV (As := []) (rest := [_]) (M' := m_X4_size) dX5_isOddAt_12 ml_RX5_26 gm_X4_size gv_X4_size hA.o hA.b rfl rfl rfl (Nat.le_of_ble_eq_true rfl) (by decide) ⟨rfl, rfl, by decide, by decide⟩ (s_X4_size hA (fun r hr => ?_))
    subst hr
    refine J_icmp_ge (tgt := 73) dX5_isOddAt_15 (by decide) (fun c15 => ?_) (fun c15 => ?_)
    · have c15 := (nI_leI (by omega) (by omega)).mp c15
      exact K h1 js _ hF hM hJ (by rwa [show k = ls.length by omega] at hR)
    · have c15 : k < ls.length := Nat.not_le.mp (fun q => c15 ((nI_leI (by omega) (by omega)).mpr q))
      obtain ⟨y, hy⟩ := get_of c15
      obtain ⟨o1, o2, o3, o4, o5⟩ := hO y (List.mem_of_getElem? hy)
      refine J_aload_n dX5_isOddAt_18 rfl ?_
      refine J_iload_n dX5_isOddAt_19 rfl ?_
      refine J_iload_n dX5_isOddAt_20 rfl ?_
      refine J_callV (As := [_, _]) (rest := []) (M' := m_X4_livesAt) dX5_isOddAt_21 ml_RX5_32 gm_X4_livesAt gv_X4_livesAt hA.o hA.b rfl rfl rfl (Nat.le_of_ble_eq_true rfl) (by decide) ⟨rfl, rfl, by decide, by decide⟩ (s_X4_livesAt hA hy (fun r hr => ?_))
      rw [nI_toInt (show m < 2 ^ 31 by omega)] at hr
      refine J_if_eq (tgt := 67) dX5_isOddAt_24 (by decide) (fun c24 => ?_) (fun c24 => ?_)
      · refine J_iinc (L' := [_, _, _, _]) dX5_isOddAt_67 rfl (nI_i1 k) (by decide) rfl ?_
        refine J_goto (tgt := 10) dX5_isOddAt_70 (by decide) ?_
        exact ih (k + 1) h1 js (by omega) (by omega) hF hM hJ (by rw [DK_s hy, if_neg (show ¬ lvA m k y = true from (bI_0 hr).mp c24), List.append_nil]; exact hR)
      · refine J_aload_n dX5_isOddAt_27 rfl ?_
        refine J_get (k := 1) dX5_isOddAt_28 gc_5 fl_RX5_20 (by decide) hM.o hM.bo rfl ?_
        refine J_aload_n dX5_isOddAt_31 rfl ?_
        refine J_iload_n dX5_isOddAt_32 rfl ?_
        refine J_callV (As := [_]) (rest := [_]) (M' := m_X4_oneOf) dX5_isOddAt_33 ml_RX5_36 gm_X4_oneOf gv_X4_oneOf hA.o hA.b rfl rfl rfl (Nat.le_of_ble_eq_true rfl) (by decide) ⟨rfl, rfl, by decide, by decide⟩ (s_X4_oneOf hA hy (fun r1 hr1 => ?_))
        subst hr1
        refine J_bipush (x := 16) dX5_isOddAt_36 (by decide) ?_
        refine J_aload_n dX5_isOddAt_38 rfl ?_
        refine J_iload_n dX5_isOddAt_39 rfl ?_
        refine J_callV (As := [_]) (rest := [_, _, _]) (M' := m_X4_otherOf) dX5_isOddAt_40 ml_RX5_40 gm_X4_otherOf gv_X4_otherOf hA.o hA.b rfl rfl rfl (Nat.le_of_ble_eq_true rfl) (by decide) ⟨rfl, rfl, by decide, by decide⟩ (s_X4_otherOf hA hy (fun r1 hr1 => ?_))
        subst hr1
        refine J_iadd dX5_isOddAt_43 ?_
        rw [show (16 : Int32) + nI y.2.1 = nI (16 + y.2.1) from nI_add 16 _]
        refine J_callV (As := [_, _]) (rest := []) (M' := m_X2_join) dX5_isOddAt_44 ml_RX5_43 gm_X2_join gv_X2_join hJ.o hJ.b rfl rfl rfl (Nat.le_of_ble_eq_true rfl) (by decide) ⟨rfl, rfl, by decide, by decide⟩ (s_X2_join hJ (show y.1 < 32 by omega) (show 16 + y.2.1 < 32 by omega) (fun h2 js2 hF2 hJ2 hN2 => ?_))
        have w2 := JN.w hJ.w (by omega) (by omega) hN2
        have hR2 := RP.join hJ.w hR (show y.1 < 32 by omega) (show 16 + y.2.1 < 32 by omega) (DK_lt hO) hN2
        replace hM := hM.s2 hF2 hJ2
        replace hJ := hJ2
        replace hA := hA.fr hF2 (by omega)
        replace hF := hF.tr (hF2.mono (by omega) (by omega))
        refine J_aload_n dX5_isOddAt_47 rfl ?_
        refine J_get (k := 1) dX5_isOddAt_48 gc_5 fl_RX5_20 (by decide) hM.o hM.bo rfl ?_
        refine J_bipush (x := 16) dX5_isOddAt_51 (by decide) ?_
        refine J_aload_n dX5_isOddAt_53 rfl ?_
        refine J_iload_n dX5_isOddAt_54 rfl ?_
        refine J_callV (As := [_]) (rest := [_, _]) (M' := m_X4_oneOf) dX5_isOddAt_55 ml_RX5_36 gm_X4_oneOf gv_X4_oneOf hA.o hA.b rfl rfl rfl (Nat.le_of_ble_eq_true rfl) (by decide) ⟨rfl, rfl, by decide, by decide⟩ (s_X4_oneOf hA hy (fun r1 hr1 => ?_))
        subst hr1
        refine J_iadd dX5_isOddAt_58 ?_
        rw [show (16 : Int32) + nI y.1 = nI (16 + y.1) from nI_add 16 _]
        refine J_aload_n dX5_isOddAt_59 rfl ?_
        refine J_iload_n dX5_isOddAt_60 rfl ?_
        refine J_callV (As := [_]) (rest := [_, _]) (M' := m_X4_otherOf) dX5_isOddAt_61 ml_RX5_40 gm_X4_otherOf gv_X4_otherOf hA.o hA.b rfl rfl rfl (Nat.le_of_ble_eq_true rfl) (by decide) ⟨rfl, rfl, by decide, by decide⟩ (s_X4_otherOf hA hy (fun r1 hr1 => ?_))
        subst hr1
        refine J_callV (As := [_, _]) (rest := []) (M' := m_X2_join) dX5_isOddAt_64 ml_RX5_43 gm_X2_join gv_X2_join hJ.o hJ.b rfl rfl rfl (Nat.le_of_ble_eq_true rfl) (by decide) ⟨rfl, rfl, by decide, by decide⟩ (s_X2_join hJ (show 16 + y.1 < 32 by omega) (show y.2.1 < 32 by omega) (fun h3 js3 hF3 hJ3 hN3 => ?_))
        refine J_iinc (L' := [_, _, _, _]) dX5_isOddAt_67 rfl (nI_i1 k) (by decide) rfl ?_
        refine J_goto (tgt := 10) dX5_isOddAt_70 (by decide) ?_
        have hR3 := RP.join w2 hR2 (show 16 + y.1 < 32 by omega) (show y.2.1 < 32 by omega) (fun e he => by rcases List.mem_append.mp he with he | he; exact DK_lt hO e he; rw [List.mem_singleton.mp he]; exact ⟨by show y.1 < 32; omega, by show 16 + y.2.1 < 32; omega⟩) hN3
        exact ih (k + 1) h3 js3 (by omega) (by omega) (hF.tr (hF3.mono (by omega) (by omega))) (hM.s2 hF3 hJ3) hJ3 (by rw [DK_s hy, if_pos (show lvA m k y = true from nn_of hr c24)]; rw [List.append_assoc] at hR3; exact hR3)
theorem l2_X5_isOddAt {m : Nat} {js : List (Nat × Nat)} {h1 : g_H} (hM : MA h1 a) (hJ : JA h1 (a + 5) 32 js) (hR : RP 32 js (DK ls (lvA m) ls.length)) (hQ : ∀ r, r = bI (OM ls m) → Q (some (.int r)) h1) : ∀ (t k : Nat), 16 - k < t → k ≤ 16 → (∀ x, x < k → ¬ Cn (DK ls (lvA m) ls.length) x (16 + x)) → J m_X5_isOddAt 3 0 0 0 0 75 [some (.ref a), some (.ref b), some (.int (nI m)), some (.int (nI k))] [] h1 Q := by
  intro t
  induction t with
  | zero => intro k ht; omega
  | succ t ih =>
    intro k ht hk hn
    refine J_iload_n dX5_isOddAt_75 rfl ?_
    refine J_bipush (x := 16) dX5_isOddAt_76 (by decide) ?_
    refine J_icmp_ge (tgt := 104) dX5_isOddAt_78 (by decide) (fun c78 => ?_) (fun c78 => ?_)
    · refine J_iconst (x := 0) dX5_isOddAt_104 (by decide) ?_
      exact J_zret dX5_isOddAt_105 rfl (by first | exact Or.inl rfl | exact Or.inr rfl) ⟨rfl, Nat.le_refl _⟩ (hQ _ (bI_f (fun ⟨x, hx, q⟩ => hn x (by have c78 := (nI_leI (a := 16) (b := k) (by omega) (by omega)).mp c78; omega) q)).symm)
    · have c78 : k < 16 := Nat.not_le.mp (fun q => c78 ((nI_leI (a := 16) (b := k) (by omega) (by omega)).mpr q))
      refine J_aload_n dX5_isOddAt_81 rfl ?_
      refine J_get (k := 1) dX5_isOddAt_82 gc_5 fl_RX5_20 (by decide) hM.o hM.bo rfl ?_
      refine J_iload_n dX5_isOddAt_85 rfl ?_
      refine J_bipush (x := 16) dX5_isOddAt_86 (by decide) ?_
      refine J_iload_n dX5_isOddAt_88 rfl ?_
      refine J_iadd dX5_isOddAt_89 ?_
      rw [show (16 : Int32) + nI k = nI (16 + k) from nI_add 16 _]
      refine J_callV (As := [_, _]) (rest := []) (M' := m_X2_areJoined) dX5_isOddAt_90 ml_RX5_51 gm_X2_areJoined gv_X2_areJoined hJ.o hJ.b rfl rfl rfl (Nat.le_of_ble_eq_true rfl) (by decide) ⟨rfl, rfl, by decide, by decide⟩ (s_X2_areJoined hJ (show k < 32 by omega) (show 16 + k < 32 by omega) (fun r hr => ?_))
      rw [bI_c (hR k (16 + k) (by omega) (by omega))] at hr
      refine J_if_eq (tgt := 98) dX5_isOddAt_93 (by decide) (fun c93 => ?_) (fun c93 => ?_)
      · refine J_iinc (L' := [_, _, _, _]) dX5_isOddAt_98 rfl (nI_i1 k) (by decide) rfl ?_
        refine J_goto (tgt := 75) dX5_isOddAt_101 (by decide) ?_
        exact ih (k + 1) (by omega) (by omega) (fun x hx q => by rcases Nat.lt_succ_iff_lt_or_eq.mp hx with z | z; exact hn x z q; subst z; exact (bI_0 hr).mp c93 q)
      · refine J_iconst (x := 1) dX5_isOddAt_96 (by decide) ?_
        exact J_zret dX5_isOddAt_97 rfl (by first | exact Or.inl rfl | exact Or.inr rfl) ⟨rfl, Nat.le_refl _⟩ (hQ _ (bI_t ⟨k, c78, nn_of hr c93⟩).symm)
theorem s_X5_isOddAt {m : Nat} (hm : m < 64) (hM : MA h a) (hA : LA h b ls) (hd : b + 5 ≤ a ∨ a + 9 ≤ b) (hQ : ∀ r h', r = bI (OM ls m) → Fr a (a + 9) h h' → MA h' a → Q (some (.int r)) h') : MJ m_X5_isOddAt 3 0 0 [.ref a, .ref b, .int (nI m)] h Q := by
  obtain ⟨js0, hJ⟩ := hM.2.2.2
  refine MJ_of_J (L := [some (.ref a), some (.ref b), some (.int (nI m)), none]) (by decide +kernel) rfl (Nat.le_of_ble_eq_true rfl) rfl ?_
  refine J_aload_n dX5_isOddAt_0 rfl ?_
  refine J_get (k := 1) dX5_isOddAt_1 gc_5 fl_RX5_20 (by decide) hM.o hM.bo rfl ?_
  refine J_iconst (x := 0) dX5_isOddAt_4 (by decide) ?_
  refine J_callV (As := [_]) (rest := []) (M' := m_X2_takeBackTo) dX5_isOddAt_5 ml_RX5_23 gm_X2_takeBackTo gv_X2_takeBackTo hJ.o hJ.b rfl rfl rfl (Nat.le_of_ble_eq_true rfl) (by decide) ⟨rfl, rfl, by decide, by decide⟩ (s_X2_takeBackTo (n := 0) hJ (Nat.zero_le _) (fun h1 hF1 hJ1 => ?_))
  refine J_iconst (x := 0) dX5_isOddAt_8 (by decide) ?_
  refine J_istore_n (L' := [_, _, _, _]) dX5_isOddAt_9 (by decide) rfl ?_
  rw [Nat.sub_zero, List.drop_length] at hJ1
  refine l1_X5_isOddAt hm hA hd (fun h2 js x hF2 hM2 hJ2 hR2 => ?_) (ls.length + 1) 0 h1 [] (by omega) (by omega) (hF1.mono (by omega) (by omega)) (hM.s2 hF1 hJ1) hJ1 (RP.nil 32)
  refine J_iconst (x := 0) dX5_isOddAt_73 (by decide) ?_
  refine J_istore_n dX5_isOddAt_74 (by decide) rfl ?_
  exact l2_X5_isOddAt hM2 hJ2 hR2 (fun r hr => hQ r _ hr hF2 hM2) 17 0 (by omega) (by omega) (fun x hx => by omega)
noncomputable def omN (ls : List Lk) (m : Nat) : Nat := oneI (OM ls m)
theorem l_X5_oddMoments (hA0 : LA h b ls) (hd : b + 5 ≤ a ∨ a + 9 ≤ b) (hQ : ∀ r h', r = nI (sumN (omN ls) 64) → Fr a (a + 9) h h' → MA h' a → Q (some (.int r)) h') : ∀ (t k c : Nat) (h1 : g_H), 64 - k < t → k ≤ 64 → c = sumN (omN ls) k → Fr a (a + 9) h h1 → MA h1 a → J m_X5_oddMoments 4 0 0 0 0 4 [some (.ref a), some (.ref b), some (.int (nI c)), some (.int (nI k))] [] h1 Q := by
  intro t
  induction t with
  | zero => intro k c h1 ht; omega
  | succ t ih =>
    intro k c h1 ht hk hc hF hM
    have hA := hA0.fr hF (by omega)
    have hn := hA.len
    refine J_iload_n dX5_oddMoments_4 rfl ?_
    refine J_bipush (x := 64) dX5_oddMoments_5 (by decide) ?_
    refine J_icmp_ge (tgt := 28) dX5_oddMoments_7 (by decide) (fun c7 => ?_) (fun c7 => ?_)
    · refine J_iload_n dX5_oddMoments_28 rfl ?_
      exact J_iret dX5_oddMoments_29 rfl ⟨rfl, Nat.le_refl _⟩ (hQ _ _ (by have c7 := (nI_leI (a := 64) (b := k) (by omega) (by omega)).mp c7; rw [hc, show k = 64 by omega]) hF hM)
    · have c7 : k < 64 := Nat.not_le.mp (fun q => c7 ((nI_leI (a := 64) (b := k) (by omega) (by omega)).mpr q))
      refine J_aload_n dX5_oddMoments_10 rfl ?_
      refine J_aload_n dX5_oddMoments_11 rfl ?_
      refine J_iload_n dX5_oddMoments_12 rfl ?_
      refine J_callV (As := [_, _]) (rest := []) (M' := m_X5_isOddAt) dX5_oddMoments_13 ml_RX5_70 gm_X5_isOddAt gv_X5_isOddAt hM.o hM.bo rfl rfl rfl (Nat.le_of_ble_eq_true rfl) (by decide) ⟨rfl, rfl, by decide, by decide⟩ (s_X5_isOddAt c7 hM hA hd (fun r h2 hr hF2 hM2 => ?_))
      refine J_if_eq (tgt := 22) dX5_oddMoments_16 (by decide) (fun c16 => ?_) (fun c16 => ?_)
      · refine J_iinc (L' := [_, _, _, _]) dX5_oddMoments_22 rfl (nI_i1 k) (by decide) rfl ?_
        refine J_goto (tgt := 4) dX5_oddMoments_25 (by decide) ?_
        exact ih (k + 1) _ h2 (by omega) (by omega) (by rw [hc]; show _ = sumN (omN ls) k + oneI (OM ls k); rw [oneI_f ((bI_0 hr).mp c16)]; omega) (hF.tr hF2) hM2
      · refine J_iinc (L' := [_, _, _, _]) dX5_oddMoments_19 rfl (nI_i1 c) (by decide) rfl ?_
        refine J_iinc (L' := [_, _, _, _]) dX5_oddMoments_22 rfl (nI_i1 k) (by decide) rfl ?_
        refine J_goto (tgt := 4) dX5_oddMoments_25 (by decide) ?_
        exact ih (k + 1) _ h2 (by omega) (by omega) (by rw [hc]; show _ = sumN (omN ls) k + oneI (OM ls k); rw [oneI_t (nn_of hr c16)]) (hF.tr hF2) hM2
theorem s_X5_oddMoments (hM : MA h a) (hA : LA h b ls) (hd : b + 5 ≤ a ∨ a + 9 ≤ b) (hQ : ∀ r h', r = nI (sumN (omN ls) 64) → Fr a (a + 9) h h' → MA h' a → Q (some (.int r)) h') : MJ m_X5_oddMoments 4 0 0 [.ref a, .ref b] h Q := by
  refine MJ_of_J (L := [some (.ref a), some (.ref b), none, none]) (by decide +kernel) rfl (Nat.le_of_ble_eq_true rfl) rfl ?_
  refine J_iconst (x := 0) dX5_oddMoments_0 (by decide) ?_
  refine J_istore_n (L' := [_, _, _, _]) dX5_oddMoments_1 (by decide) rfl ?_
  refine J_iconst (x := 0) dX5_oddMoments_2 (by decide) ?_
  refine J_istore_n (L' := [_, _, _, _]) dX5_oddMoments_3 (by decide) rfl ?_
  exact l_X5_oddMoments hA hd hQ 65 0 0 h (by omega) (by omega) rfl Fr.rf hM
theorem l_X5_mostParts (hA0 : LA h b ls) (hd : b + 5 ≤ a ∨ a + 9 ≤ b) (hQ : ∀ r h', r = nI (maxN (pts ls) 64) → Fr a (a + 9) h h' → MA h' a → Q (some (.int r)) h') : ∀ (t k c : Nat) (h1 : g_H), 64 - k < t → k ≤ 64 → c = maxN (pts ls) k → Fr a (a + 9) h h1 → MA h1 a → J m_X5_mostParts 5 0 0 0 0 4 [some (.ref a), some (.ref b), some (.int (nI c)), some (.int (nI k))] [] h1 Q := by
  intro t
  induction t with
  | zero => intro k c h1 ht; omega
  | succ t ih =>
    intro k c h1 ht hk hc hF hM
    have hA := hA0.fr hF (by omega)
    have hn := hA.len
    have hc16 : c ≤ 16 := by rw [hc]; exact maxN_le (fun m => nfst_le (CM ls m) 16) k
    refine J_iload_n dX5_mostParts_4 rfl ?_
    refine J_bipush (x := 64) dX5_mostParts_5 (by decide) ?_
    refine J_icmp_ge (tgt := 27) dX5_mostParts_7 (by decide) (fun c7 => ?_) (fun c7 => ?_)
    · refine J_iload_n dX5_mostParts_27 rfl ?_
      exact J_iret dX5_mostParts_28 rfl ⟨rfl, Nat.le_refl _⟩ (hQ _ _ (by have c7 := (nI_leI (a := 64) (b := k) (by omega) (by omega)).mp c7; rw [hc, show k = 64 by omega]) hF hM)
    · have c7 : k < 64 := Nat.not_le.mp (fun q => c7 ((nI_leI (a := 64) (b := k) (by omega) (by omega)).mpr q))
      refine J_iload_n dX5_mostParts_10 rfl ?_
      refine J_aload_n dX5_mostParts_11 rfl ?_
      refine J_aload_n dX5_mostParts_12 rfl ?_
      refine J_iload_n dX5_mostParts_13 rfl ?_
      refine J_callV (As := [_, _]) (rest := [_]) (M' := m_X5_partsAt) dX5_mostParts_14 ml_RX5_74 gm_X5_partsAt gv_X5_partsAt hM.o hM.bo rfl rfl rfl (Nat.le_of_ble_eq_true rfl) (by decide) ⟨rfl, rfl, by decide, by decide⟩ (s_X5_partsAt c7 hM hA hd (fun r h2 hr hF2 hM2 => ?_))
      subst hr
      have hp16 : pts ls k ≤ 16 := nfst_le _ 16
      refine J_mmax dX5_mostParts_17 ml_RX5_60 gw_max (by decide) (Nat.le_of_ble_eq_true rfl) ⟨Nat.le_refl _, Nat.le_refl _⟩ ?_
      rw [nI_max (by omega) (by omega)]
      refine J_istore_n (L' := [_, _, _, _]) dX5_mostParts_20 (by decide) rfl ?_
      refine J_iinc (L' := [_, _, _, _]) dX5_mostParts_21 rfl (nI_i1 k) (by decide) rfl ?_
      refine J_goto (tgt := 4) dX5_mostParts_24 (by decide) ?_
      exact ih (k + 1) _ h2 (by omega) (by omega) (by rw [hc]; rfl) (hF.tr hF2) hM2
theorem s_X5_mostParts (hM : MA h a) (hA : LA h b ls) (hd : b + 5 ≤ a ∨ a + 9 ≤ b) (hQ : ∀ r h', r = nI (maxN (pts ls) 64) → Fr a (a + 9) h h' → MA h' a → Q (some (.int r)) h') : MJ m_X5_mostParts 5 0 0 [.ref a, .ref b] h Q := by
  refine MJ_of_J (L := [some (.ref a), some (.ref b), none, none]) (by decide +kernel) rfl (Nat.le_of_ble_eq_true rfl) rfl ?_
  refine J_iconst (x := 0) dX5_mostParts_0 (by decide) ?_
  refine J_istore_n (L' := [_, _, _, _]) dX5_mostParts_1 (by decide) rfl ?_
  refine J_iconst (x := 0) dX5_mostParts_2 (by decide) ?_
  refine J_istore_n (L' := [_, _, _, _]) dX5_mostParts_3 (by decide) rfl ?_
  exact l_X5_mostParts hA hd hQ 65 0 0 h (by omega) (by omega) rfl Fr.rf hM
theorem l_X5_fewestParts (hA0 : LA h b ls) (hd : b + 5 ≤ a ∨ a + 9 ≤ b) (hQ : ∀ r h', r = nI (minN (pts ls) 64) → Fr a (a + 9) h h' → MA h' a → Q (some (.int r)) h') : ∀ (t k c : Nat) (h1 : g_H), 64 - k < t → k ≤ 64 → c = minN (pts ls) k → Fr a (a + 9) h h1 → MA h1 a → J m_X5_fewestParts 5 0 0 0 0 5 [some (.ref a), some (.ref b), some (.int (nI c)), some (.int (nI k))] [] h1 Q := by
  intro t
  induction t with
  | zero => intro k c h1 ht; omega
  | succ t ih =>
    intro k c h1 ht hk hc hF hM
    have hA := hA0.fr hF (by omega)
    have hn := hA.len
    have hc16 : c ≤ 16 := by rw [hc]; exact minN_le (pts ls) k
    refine J_iload_n dX5_fewestParts_5 rfl ?_
    refine J_bipush (x := 64) dX5_fewestParts_6 (by decide) ?_
    refine J_icmp_ge (tgt := 28) dX5_fewestParts_8 (by decide) (fun c8 => ?_) (fun c8 => ?_)
    · refine J_iload_n dX5_fewestParts_28 rfl ?_
      exact J_iret dX5_fewestParts_29 rfl ⟨rfl, Nat.le_refl _⟩ (hQ _ _ (by have c8 := (nI_leI (a := 64) (b := k) (by omega) (by omega)).mp c8; rw [hc, show k = 64 by omega]) hF hM)
    · have c8 : k < 64 := Nat.not_le.mp (fun q => c8 ((nI_leI (a := 64) (b := k) (by omega) (by omega)).mpr q))
      refine J_iload_n dX5_fewestParts_11 rfl ?_
      refine J_aload_n dX5_fewestParts_12 rfl ?_
      refine J_aload_n dX5_fewestParts_13 rfl ?_
      refine J_iload_n dX5_fewestParts_14 rfl ?_
      refine J_callV (As := [_, _]) (rest := [_]) (M' := m_X5_partsAt) dX5_fewestParts_15 ml_RX5_74 gm_X5_partsAt gv_X5_partsAt hM.o hM.bo rfl rfl rfl (Nat.le_of_ble_eq_true rfl) (by decide) ⟨rfl, rfl, by decide, by decide⟩ (s_X5_partsAt c8 hM hA hd (fun r h2 hr hF2 hM2 => ?_))
      subst hr
      have hp16 : pts ls k ≤ 16 := nfst_le _ 16
      refine J_mmin dX5_fewestParts_18 ml_RX5_78 gw_min (by decide) (Nat.le_of_ble_eq_true rfl) ⟨Nat.le_refl _, Nat.le_refl _⟩ ?_
      rw [nI_min (by omega) (by omega)]
      refine J_istore_n (L' := [_, _, _, _]) dX5_fewestParts_21 (by decide) rfl ?_
      refine J_iinc (L' := [_, _, _, _]) dX5_fewestParts_22 rfl (nI_i1 k) (by decide) rfl ?_
      refine J_goto (tgt := 5) dX5_fewestParts_25 (by decide) ?_
      exact ih (k + 1) _ h2 (by omega) (by omega) (by rw [hc]; rfl) (hF.tr hF2) hM2
theorem s_X5_fewestParts (hM : MA h a) (hA : LA h b ls) (hd : b + 5 ≤ a ∨ a + 9 ≤ b) (hQ : ∀ r h', r = nI (minN (pts ls) 64) → Fr a (a + 9) h h' → MA h' a → Q (some (.int r)) h') : MJ m_X5_fewestParts 5 0 0 [.ref a, .ref b] h Q := by
  refine MJ_of_J (L := [some (.ref a), some (.ref b), none, none]) (by decide +kernel) rfl (Nat.le_of_ble_eq_true rfl) rfl ?_
  refine J_bipush (x := 16) dX5_fewestParts_0 (by decide) ?_
  refine J_istore_n (L' := [_, _, _, _]) dX5_fewestParts_2 (by decide) rfl ?_
  refine J_iconst (x := 0) dX5_fewestParts_3 (by decide) ?_
  refine J_istore_n (L' := [_, _, _, _]) dX5_fewestParts_4 (by decide) rfl ?_
  exact l_X5_fewestParts hA hd hQ 65 0 16 h (by omega) (by omega) rfl Fr.rf hM
end SMom2
