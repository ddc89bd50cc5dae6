section SMod8
variable {h h' : g_H} {a : Nat} {s : St} {ls : List Lk} {f g hh sn tx rd : Nat → Int32} {hl it tl sp nu rm : Int32} {Q : Option Value → g_H → Prop}
theorem AK.live {j b e : Nat} {y : Lk} (hA : AK f ls) (hj : ls[j]? = some y) (hb : b < e) (he : e ≤ 64) : AK (upd (upd f (81 + j) (nI b)) (121 + j) (nI e)) (ls.set j (y.1, y.2.1, b, e)) := by
  obtain ⟨h0, hn, hok⟩ := hA
  have hjl := get_lt hj
  refine ⟨⟨by rw [upd_o _ _ (by omega), upd_o _ _ (by omega), List.length_set]; exact h0.1, fun k x hk => ?_⟩, by rw [List.length_set]; exact hn, fun x q => by
    rcases List.mem_or_eq_of_mem_set q with q | q
    · exact hok x q
    · rw [q]
      obtain ⟨o1, o2, o3, -⟩ := hok y (List.mem_of_getElem? hj)
      exact ⟨o1, o2, o3, hb, he⟩⟩
  have hkl := get_lt hk
  rw [List.length_set] at hkl
  by_cases q : j = k
  · subst q
    rw [List.getElem?_set_self hjl] at hk
    simp at hk
    subst hk
    obtain ⟨v1, v2, v3, v4⟩ := h0.2 j y hj
    refine ⟨?_, ?_, ?_, ?_⟩
    · rw [upd_o _ _ (by omega), upd_o _ _ (by omega)]; exact v1
    · rw [upd_o _ _ (by omega), upd_o _ _ (by omega)]; exact v2
    · rw [upd_o _ _ (by omega), upd_e]
    · rw [upd_e]
  · rw [List.getElem?_set_ne q] at hk
    obtain ⟨v1, v2, v3, v4⟩ := h0.2 k x hk
    refine ⟨?_, ?_, ?_, ?_⟩ <;> rw [upd_o _ _ (by omega), upd_o _ _ (by omega)] <;> assumption
theorem AK.to {j e : Nat} {y : Lk} (hA : AK f ls) (hj : ls[j]? = some y) (hb : y.2.2.1 < e) (he : e ≤ 64) : AK (upd f (121 + j) (nI e)) (ls.set j (y.1, y.2.1, y.2.2.1, e)) := by
  refine (hA.live hj hb he).c (fun i hi => ?_)
  by_cases q : i = 121 + j
  · rw [q, upd_e, upd_e]
  · rw [upd_o _ _ q, upd_o _ _ q]
    by_cases q2 : i = 81 + j
    · rw [q2, upd_e]; exact (hA.1.2 j y hj).2.2.1
    · rw [upd_o _ _ q2]
theorem s_X7_addLink {x y f0 t : Int32} (hV : VI h a s) (hQ : ∀ h' r s', (r, s') = f_add x y f0 t s → Fr a (a + 7) h h' → VI h' a s' → Q (some (.int r)) h') : MJ m_X7_addLink 4 0 0 [.ref a, .int x, .int y, .int f0, .int t] h Q := by
  have hV0 := hV
  obtain ⟨f, g, hh, sn, tx, rd, sp, nu, rm, hR, hA, ⟨hl4, hH⟩, hS, hT⟩ := hV
  have hn := hA.2.1
  refine MJ_of_J (L := [some (.ref a), some (.int x), some (.int y), some (.int f0), some (.int t)]) (by decide +kernel) rfl (Nat.le_of_ble_eq_true rfl) rfl ?_
  refine J_iload_n dX7_addLink_0 rfl ?_
  refine J_callS (As := [_]) (rest := []) (M' := m_X7_isPoint) dX7_addLink_1 ml_RX7_83 gm_X7_isPoint sm_yX7_isPoint rfl rfl (Nat.le_of_ble_eq_true rfl) (by decide) ⟨rfl, rfl, by decide, by decide⟩ (s_X7_isPoint (fun r1 hr1 => ?_))
  refine J_if_eq (tgt := 14) dX7_addLink_4 (by decide) (fun c4 => ?_) (fun c4 => ?_)
  · refine J_iconst (x := -1) dX7_addLink_14 (by decide) ?_
    exact J_iret dX7_addLink_15 rfl ⟨rfl, Nat.le_refl _⟩ (hQ h _ s (by unfold f_add; rw [ci_t (fun q => (bI_0 hr1).mp c4 q.1)]) Fr.rf hV0)
  · refine J_iload_n dX7_addLink_7 rfl ?_
    refine J_callS (As := [_]) (rest := []) (M' := m_X7_isPoint) dX7_addLink_8 ml_RX7_83 gm_X7_isPoint sm_yX7_isPoint rfl rfl (Nat.le_of_ble_eq_true rfl) (by decide) ⟨rfl, rfl, by decide, by decide⟩ (s_X7_isPoint (fun r2 hr2 => ?_))
    refine J_if_ne (tgt := 16) dX7_addLink_11 (by decide) (fun c11 => ?_) (fun c11 => ?_)
    · refine J_iload_n dX7_addLink_16 rfl ?_
      refine J_iload dX7_addLink_17 rfl ?_
      refine J_callS (As := [_, _]) (rest := []) (M' := m_X7_isLife) dX7_addLink_19 ml_RX7_86 gm_X7_isLife sm_yX7_isLife rfl rfl (Nat.le_of_ble_eq_true rfl) (by decide) ⟨rfl, rfl, by decide, by decide⟩ (s_X7_isLife (fun r3 hr3 => ?_))
      refine J_if_eq (tgt := 30) dX7_addLink_22 (by decide) (fun c22 => ?_) (fun c22 => ?_)
      · refine J_bipush (x := -2) dX7_addLink_30 (by decide) ?_
        exact J_iret dX7_addLink_32 rfl ⟨rfl, Nat.le_refl _⟩ (hQ h _ s (by unfold f_add; rw [ci_f (fun q => q ⟨nn_of hr1 c4, nn_of hr2 c11⟩), ci_t (fun q => (bI_0 hr3).mp c22 q.1)]) Fr.rf hV0)
      · refine J_iload_n dX7_addLink_25 rfl ?_
        refine J_iload_n dX7_addLink_26 rfl ?_
        refine J_icmp_ne (tgt := 33) dX7_addLink_27 (by decide) (fun c27 => ?_) (fun c27 => ?_)
        · refine J_aload_n dX7_addLink_33 rfl ?_
          refine J_get (k := 0) dX7_addLink_34 gc_7 fl_RX7_7 (by decide) hR.o hR.bo rfl ?_
          refine J_iconst (x := 0) dX7_addLink_37 (by decide) ?_
          refine J_iald dX7_addLink_38 hR.c1 hR.b1 (vp_in_nI (n := 0) (by decide) (by decide)) ?_
          rw [show (0 : Int32).toNatClampNeg = 0 from rfl, hA.1.1]
          refine J_bipush (x := 40) dX7_addLink_39 (by decide) ?_
          refine J_icmp_ne (tgt := 47) dX7_addLink_41 (by decide) (fun c41 => ?_) (fun c41 => ?_)
          · refine J_aload_n dX7_addLink_47 rfl ?_
            refine J_callV (As := []) (rest := []) (M' := m_X7_remember) dX7_addLink_48 ml_RX7_89 gm_X7_remember gv_X7_remember hR.o hR.bo rfl rfl rfl (Nat.le_of_ble_eq_true rfl) (by decide) ⟨rfl, rfl, by decide, by decide⟩ (s_X7_remember hR (fun h1 g1 hF1 hR1 hg1 => ?_))
            replace hR := hR1
            have hG := hA.c hg1
            obtain ⟨i, hi, rfl⟩ := nn_of hr1 c4
            obtain ⟨j, hj, rfl⟩ := nn_of hr2 c11
            obtain ⟨b, e, he, h64, rfl, rfl⟩ := nn_of hr3 c22
            have hne : i ≠ j := fun q => c27 (by rw [q])
            have c41 : s.1.length < 40 := by
              have q : s.1.length ≠ 40 := fun q => c41 (by rw [q]; rfl)
              omega
            refine J_aload_n dX7_addLink_51 rfl ?_
            refine J_iload_n dX7_addLink_52 rfl ?_
            refine J_iload_n dX7_addLink_53 rfl ?_
            refine J_iload_n dX7_addLink_54 rfl ?_
            refine J_iload dX7_addLink_55 rfl ?_
            refine J_callV (As := [_, _, _, _]) (rest := []) (M' := m_X7_adds) dX7_addLink_57 ml_RX7_92 gm_X7_adds gv_X7_adds hR.o hR.bo rfl rfl rfl (Nat.le_of_ble_eq_true rfl) (by decide) ⟨rfl, rfl, by decide, by decide⟩ (s_X7_adds (y := (i, j, b, e)) hR hA c41 ⟨hi, hj, hne, he, h64⟩ (fun h2 f2 hF2 hR2 hA2 => ?_))
            replace hR := hR2
            replace hA := hA2
            refine J_aload_n dX7_addLink_60 rfl ?_
            refine J_aload_n dX7_addLink_61 rfl ?_
            refine J_get (k := 0) dX7_addLink_62 gc_7 fl_RX7_7 (by decide) hR.o hR.bo rfl ?_
            refine J_iconst (x := 0) dX7_addLink_65 (by decide) ?_
            refine J_iald dX7_addLink_66 hR.c1 hR.b1 (vp_in_nI (n := 0) (by decide) (by decide)) ?_
            rw [show (0 : Int32).toNatClampNeg = 0 from rfl, hA.1.1]
            refine J_iconst (x := 1) dX7_addLink_67 (by decide) ?_
            refine J_isub dX7_addLink_68 ?_
            refine J_callV (As := [_]) (rest := []) (M' := m_X7_acted) dX7_addLink_69 ml_RX7_96 gm_X7_acted gv_X7_acted hR.o hR.bo rfl rfl rfl (Nat.le_of_ble_eq_true rfl) (by decide) ⟨rfl, rfl, by decide, by decide⟩ (s_X7_acted hR hH hl4 hG (fun h9 hh9 hF9 hR9 hl9 hH9 => ?_))
            exact J_iret dX7_addLink_72 rfl ⟨rfl, Nat.le_refl _⟩ (hQ h9 _ (act s (s.1 ++ [(i, j, b, e)])) (by unfold f_add; rw [ci_f (fun q => q ⟨nn_of hr1 c4, nn_of hr2 c11⟩), ci_f (fun q => q ⟨nn_of hr3 c22, c27⟩), ci_f (by omega), tN_n (by omega), tN_n (by omega), tN_n (by omega), tN_n (by omega), List.length_append]; exact congrArg (fun z => (z, act s (s.1 ++ [(i, j, b, e)]))) (nI_pred s.1.length)) (hF1.tr (hF2.tr hF9)) ⟨f2, g1, hh9, sn, tx, rd, sp, nu, rm, hR9, hA, ⟨hl9, hH9⟩, hS, hT⟩)
          · refine J_bipush (x := -3) dX7_addLink_44 (by decide) ?_
            exact J_iret dX7_addLink_46 rfl ⟨rfl, Nat.le_refl _⟩ (hQ h _ s (by unfold f_add; rw [ci_f (fun q => q ⟨nn_of hr1 c4, nn_of hr2 c11⟩), ci_f (fun q => q ⟨nn_of hr3 c22, c27⟩), ci_t ((nI_eq (b := 40) (by omega) (by omega)).mp c41)]) Fr.rf hV0)
        · refine J_bipush (x := -2) dX7_addLink_30 (by decide) ?_
          exact J_iret dX7_addLink_32 rfl ⟨rfl, Nat.le_refl _⟩ (hQ h _ s (by unfold f_add; rw [ci_f (fun q => q ⟨nn_of hr1 c4, nn_of hr2 c11⟩), ci_t (fun q => q.2 c27)]) Fr.rf hV0)
    · refine J_iconst (x := -1) dX7_addLink_14 (by decide) ?_
      exact J_iret dX7_addLink_15 rfl ⟨rfl, Nat.le_refl _⟩ (hQ h _ s (by unfold f_add; rw [ci_t (fun q => (bI_0 hr2).mp c11 q.2)]) Fr.rf hV0)
theorem s_X7_removeLink {x : Int32} (hV : VI h a s) (hQ : ∀ h' r s', (r, s') = f_rem x s → Fr a (a + 7) h h' → VI h' a s' → Q (some (.int r)) h') : MJ m_X7_removeLink 4 0 0 [.ref a, .int x] h Q := by
  have hV0 := hV
  obtain ⟨f, g, hh, sn, tx, rd, sp, nu, rm, hR, hA, ⟨hl4, hH⟩, hS, hT⟩ := hV
  have hn := hA.2.1
  refine MJ_of_J (L := [some (.ref a), some (.int x)]) (by decide +kernel) rfl (Nat.le_of_ble_eq_true rfl) rfl ?_
  refine J_aload_n dX7_removeLink_0 rfl ?_
  refine J_iload_n dX7_removeLink_1 rfl ?_
  refine J_callV (As := [_]) (rest := []) (M' := m_X7_isLink) dX7_removeLink_2 ml_RX7_99 gm_X7_isLink gv_X7_isLink hR.o hR.bo rfl rfl rfl (Nat.le_of_ble_eq_true rfl) (by decide) ⟨rfl, rfl, by decide, by decide⟩ (s_X7_isLink (hR.q hA) (fun r1 hr1 => ?_))
  refine J_if_ne (tgt := 10) dX7_removeLink_5 (by decide) (fun c5 => ?_) (fun c5 => ?_)
  · obtain ⟨j, hj, rfl⟩ := nn_of hr1 c5
    obtain ⟨y, hy⟩ := get_of hj
    obtain ⟨v1, v2, v3, v4⟩ := hA.1.2 j y hy
    obtain ⟨o1, o2, o3, o4, o5⟩ := hA.2.2 y (List.mem_of_getElem? hy)
    refine J_aload_n dX7_removeLink_10 rfl ?_
    refine J_callV (As := []) (rest := []) (M' := m_X7_remember) dX7_removeLink_11 ml_RX7_89 gm_X7_remember gv_X7_remember hR.o hR.bo rfl rfl rfl (Nat.le_of_ble_eq_true rfl) (by decide) ⟨rfl, rfl, by decide, by decide⟩ (s_X7_remember hR (fun h1 g1 hF1 hR1 hg1 => ?_))
    replace hR := hR1
    have hG := hA.c hg1
    refine J_aload_n dX7_removeLink_14 rfl ?_
    refine J_iload_n dX7_removeLink_15 rfl ?_
    refine J_callV (As := [_]) (rest := []) (M' := m_X7_takesOut) dX7_removeLink_16 ml_RX7_102 gm_X7_takesOut gv_X7_takesOut hR.o hR.bo rfl rfl rfl (Nat.le_of_ble_eq_true rfl) (by decide) ⟨rfl, rfl, by decide, by decide⟩ (s_X7_takesOut hR hA hj (fun h2 f2 hF2 hR2 hA2 => ?_))
    replace hR := hR2
    replace hA := hA2
    refine J_aload_n dX7_removeLink_19 rfl ?_
    refine J_aload_n dX7_removeLink_20 rfl ?_
    refine J_get (k := 0) dX7_removeLink_21 gc_7 fl_RX7_7 (by decide) hR.o hR.bo rfl ?_
    refine J_iconst (x := 0) dX7_removeLink_24 (by decide) ?_
    refine J_iald dX7_removeLink_25 hR.c1 hR.b1 (vp_in_nI (n := 0) (by decide) (by decide)) ?_
    rw [show (0 : Int32).toNatClampNeg = 0 from rfl, hA.1.1]
    refine J_callV (As := [_]) (rest := []) (M' := m_X7_acted) dX7_removeLink_26 ml_RX7_96 gm_X7_acted gv_X7_acted hR.o hR.bo rfl rfl rfl (Nat.le_of_ble_eq_true rfl) (by decide) ⟨rfl, rfl, by decide, by decide⟩ (s_X7_acted hR hH hl4 hG (fun h9 hh9 hF9 hR9 hl9 hH9 => ?_))
    exact J_iret dX7_removeLink_29 rfl ⟨rfl, Nat.le_refl _⟩ (hQ h9 _ (act s (s.1.eraseIdx j)) (by unfold f_rem; rw [ci_f (fun q => q (nn_of hr1 c5)), tN_n (by omega), List.length_eraseIdx, if_pos hj]) (hF1.tr (hF2.tr hF9)) ⟨f2, g1, hh9, sn, tx, rd, sp, nu, rm, hR9, hA, ⟨hl9, hH9⟩, hS, hT⟩)
  · refine J_iconst (x := -1) dX7_removeLink_8 (by decide) ?_
    exact J_iret dX7_removeLink_9 rfl ⟨rfl, Nat.le_refl _⟩ (hQ h _ s (by unfold f_rem; rw [ci_t ((bI_0 hr1).mp c5)]) Fr.rf hV0)
theorem s_X7_setLife {x f0 t : Int32} (hV : VI h a s) (hQ : ∀ h' r s', (r, s') = f_life x f0 t s → Fr a (a + 7) h h' → VI h' a s' → Q (some (.int r)) h') : MJ m_X7_setLife 4 0 0 [.ref a, .int x, .int f0, .int t] h Q := by
  have hV0 := hV
  obtain ⟨f, g, hh, sn, tx, rd, sp, nu, rm, hR, hA, ⟨hl4, hH⟩, hS, hT⟩ := hV
  have hn := hA.2.1
  refine MJ_of_J (L := [some (.ref a), some (.int x), some (.int f0), some (.int t)]) (by decide +kernel) rfl (Nat.le_of_ble_eq_true rfl) rfl ?_
  refine J_aload_n dX7_setLife_0 rfl ?_
  refine J_iload_n dX7_setLife_1 rfl ?_
  refine J_callV (As := [_]) (rest := []) (M' := m_X7_isLink) dX7_setLife_2 ml_RX7_99 gm_X7_isLink gv_X7_isLink hR.o hR.bo rfl rfl rfl (Nat.le_of_ble_eq_true rfl) (by decide) ⟨rfl, rfl, by decide, by decide⟩ (s_X7_isLink (hR.q hA) (fun r1 hr1 => ?_))
  refine J_if_ne (tgt := 10) dX7_setLife_5 (by decide) (fun c5 => ?_) (fun c5 => ?_)
  · obtain ⟨j, hj, rfl⟩ := nn_of hr1 c5
    obtain ⟨y, hy⟩ := get_of hj
    obtain ⟨v1, v2, v3, v4⟩ := hA.1.2 j y hy
    obtain ⟨o1, o2, o3, o4, o5⟩ := hA.2.2 y (List.mem_of_getElem? hy)
    refine J_iload_n dX7_setLife_10 rfl ?_
    refine J_iload_n dX7_setLife_11 rfl ?_
    refine J_callS (As := [_, _]) (rest := []) (M' := m_X7_isLife) dX7_setLife_12 ml_RX7_86 gm_X7_isLife sm_yX7_isLife rfl rfl (Nat.le_of_ble_eq_true rfl) (by decide) ⟨rfl, rfl, by decide, by decide⟩ (s_X7_isLife (fun r2 hr2 => ?_))
    refine J_if_ne (tgt := 21) dX7_setLife_15 (by decide) (fun c15 => ?_) (fun c15 => ?_)
    · obtain ⟨b, e, hbe, h64, rfl, rfl⟩ := nn_of hr2 c15
      refine J_aload_n dX7_setLife_21 rfl ?_
      refine J_get (k := 0) dX7_setLife_22 gc_7 fl_RX7_7 (by decide) hR.o hR.bo rfl ?_
      refine J_bipush (x := 81) dX7_setLife_25 (by decide) ?_
      refine J_iload_n dX7_setLife_27 rfl ?_
      refine J_iadd dX7_setLife_28 ?_
      rw [show (81 : Int32) + nI j = nI (81 + j) from nI_add 81 j]
      refine J_iald dX7_setLife_29 hR.c1 hR.b1 (vp_in_nI (by omega) (by decide)) ?_
      rw [nI_clamp (n := 81 + j) (by omega), v3]
      refine J_iload_n dX7_setLife_30 rfl ?_
      refine J_icmp_ne (tgt := 50) dX7_setLife_31 (by decide) (fun c31 => ?_) (fun c31 => ?_)
      · refine J_aload_n dX7_setLife_50 rfl ?_
        refine J_callV (As := []) (rest := []) (M' := m_X7_remember) dX7_setLife_51 ml_RX7_89 gm_X7_remember gv_X7_remember hR.o hR.bo rfl rfl rfl (Nat.le_of_ble_eq_true rfl) (by decide) ⟨rfl, rfl, by decide, by decide⟩ (s_X7_remember hR (fun h1 g1 hF1 hR1 hg1 => ?_))
        replace hR := hR1
        have hG := hA.c hg1
        refine J_aload_n dX7_setLife_54 rfl ?_
        refine J_get (k := 0) dX7_setLife_55 gc_7 fl_RX7_7 (by decide) hR.o hR.bo rfl ?_
        refine J_bipush (x := 81) dX7_setLife_58 (by decide) ?_
        refine J_iload_n dX7_setLife_60 rfl ?_
        refine J_iadd dX7_setLife_61 ?_
        refine J_iload_n dX7_setLife_62 rfl ?_
        rw [show (81 : Int32) + nI j = nI (81 + j) from nI_add 81 j]
        refine J_iast dX7_setLife_63 hR.c1 hR.b1 (vp_in_nI (by omega) (by decide)) ?_
        rw [nI_clamp (n := 81 + j) (by omega)]
        replace hR := hR.s1 (upd f (81 + j) (nI b))
        refine J_aload_n dX7_setLife_64 rfl ?_
        refine J_get (k := 0) dX7_setLife_65 gc_7 fl_RX7_7 (by decide) hR.o hR.bo rfl ?_
        refine J_bipush (x := 121) dX7_setLife_68 (by decide) ?_
        refine J_iload_n dX7_setLife_70 rfl ?_
        refine J_iadd dX7_setLife_71 ?_
        refine J_iload_n dX7_setLife_72 rfl ?_
        rw [show (121 : Int32) + nI j = nI (121 + j) from nI_add 121 j]
        refine J_iast dX7_setLife_73 hR.c1 hR.b1 (vp_in_nI (by omega) (by decide)) ?_
        rw [nI_clamp (n := 121 + j) (by omega)]
        replace hR := hR.s1 (upd (upd f (81 + j) (nI b)) (121 + j) (nI e))
        refine J_aload_n dX7_setLife_74 rfl ?_
        refine J_iload_n dX7_setLife_75 rfl ?_
        refine J_iload_n dX7_setLife_76 rfl ?_
        refine J_isub dX7_setLife_77 ?_
        refine J_callV (As := [_]) (rest := []) (M' := m_X7_acted) dX7_setLife_78 ml_RX7_96 gm_X7_acted gv_X7_acted hR.o hR.bo rfl rfl rfl (Nat.le_of_ble_eq_true rfl) (by decide) ⟨rfl, rfl, by decide, by decide⟩ (s_X7_acted hR hH hl4 hG (fun h9 hh9 hF9 hR9 hl9 hH9 => ?_))
        exact J_iret dX7_setLife_81 rfl ⟨rfl, Nat.le_refl _⟩ (hQ h9 _ (act s (s.1.set j (y.1, y.2.1, b, e))) (by unfold f_life; rw [ci_f (fun q => q (nn_of hr1 c5)), ci_f (fun q => q (nn_of hr2 c15)), tN_n (by omega), hy]; dsimp only; rw [ci_f (fun q => c31 q.1.symm), tN_n (by omega), tN_n (by omega), pk_sub (by omega)]) (((hF1.up (by omega) (by omega)).up (by omega) (by omega)).tr hF9) ⟨_, g1, hh9, sn, tx, rd, sp, nu, rm, hR9, hA.live hy hbe h64, ⟨hl9, hH9⟩, hS, hT⟩)
      · refine J_aload_n dX7_setLife_34 rfl ?_
        refine J_get (k := 0) dX7_setLife_35 gc_7 fl_RX7_7 (by decide) hR.o hR.bo rfl ?_
        refine J_bipush (x := 121) dX7_setLife_38 (by decide) ?_
        refine J_iload_n dX7_setLife_40 rfl ?_
        refine J_iadd dX7_setLife_41 ?_
        rw [show (121 : Int32) + nI j = nI (121 + j) from nI_add 121 j]
        refine J_iald dX7_setLife_42 hR.c1 hR.b1 (vp_in_nI (by omega) (by decide)) ?_
        rw [nI_clamp (n := 121 + j) (by omega), v4]
        refine J_iload_n dX7_setLife_43 rfl ?_
        refine J_icmp_ne (tgt := 50) dX7_setLife_44 (by decide) (fun c44 => ?_) (fun c44 => ?_)
        · refine J_aload_n dX7_setLife_50 rfl ?_
          refine J_callV (As := []) (rest := []) (M' := m_X7_remember) dX7_setLife_51 ml_RX7_89 gm_X7_remember gv_X7_remember hR.o hR.bo rfl rfl rfl (Nat.le_of_ble_eq_true rfl) (by decide) ⟨rfl, rfl, by decide, by decide⟩ (s_X7_remember hR (fun h1 g1 hF1 hR1 hg1 => ?_))
          replace hR := hR1
          have hG := hA.c hg1
          refine J_aload_n dX7_setLife_54 rfl ?_
          refine J_get (k := 0) dX7_setLife_55 gc_7 fl_RX7_7 (by decide) hR.o hR.bo rfl ?_
          refine J_bipush (x := 81) dX7_setLife_58 (by decide) ?_
          refine J_iload_n dX7_setLife_60 rfl ?_
          refine J_iadd dX7_setLife_61 ?_
          refine J_iload_n dX7_setLife_62 rfl ?_
          rw [show (81 : Int32) + nI j = nI (81 + j) from nI_add 81 j]
          refine J_iast dX7_setLife_63 hR.c1 hR.b1 (vp_in_nI (by omega) (by decide)) ?_
          rw [nI_clamp (n := 81 + j) (by omega)]
          replace hR := hR.s1 (upd f (81 + j) (nI b))
          refine J_aload_n dX7_setLife_64 rfl ?_
          refine J_get (k := 0) dX7_setLife_65 gc_7 fl_RX7_7 (by decide) hR.o hR.bo rfl ?_
          refine J_bipush (x := 121) dX7_setLife_68 (by decide) ?_
          refine J_iload_n dX7_setLife_70 rfl ?_
          refine J_iadd dX7_setLife_71 ?_
          refine J_iload_n dX7_setLife_72 rfl ?_
          rw [show (121 : Int32) + nI j = nI (121 + j) from nI_add 121 j]
          refine J_iast dX7_setLife_73 hR.c1 hR.b1 (vp_in_nI (by omega) (by decide)) ?_
          rw [nI_clamp (n := 121 + j) (by omega)]
          replace hR := hR.s1 (upd (upd f (81 + j) (nI b)) (121 + j) (nI e))
          refine J_aload_n dX7_setLife_74 rfl ?_
          refine J_iload_n dX7_setLife_75 rfl ?_
          refine J_iload_n dX7_setLife_76 rfl ?_
          refine J_isub dX7_setLife_77 ?_
          refine J_callV (As := [_]) (rest := []) (M' := m_X7_acted) dX7_setLife_78 ml_RX7_96 gm_X7_acted gv_X7_acted hR.o hR.bo rfl rfl rfl (Nat.le_of_ble_eq_true rfl) (by decide) ⟨rfl, rfl, by decide, by decide⟩ (s_X7_acted hR hH hl4 hG (fun h9 hh9 hF9 hR9 hl9 hH9 => ?_))
          exact J_iret dX7_setLife_81 rfl ⟨rfl, Nat.le_refl _⟩ (hQ h9 _ (act s (s.1.set j (y.1, y.2.1, b, e))) (by unfold f_life; rw [ci_f (fun q => q (nn_of hr1 c5)), ci_f (fun q => q (nn_of hr2 c15)), tN_n (by omega), hy]; dsimp only; rw [ci_f (fun q => c44 q.2.symm), tN_n (by omega), tN_n (by omega), pk_sub (by omega)]) (((hF1.up (by omega) (by omega)).up (by omega) (by omega)).tr hF9) ⟨_, g1, hh9, sn, tx, rd, sp, nu, rm, hR9, hA.live hy hbe h64, ⟨hl9, hH9⟩, hS, hT⟩)
        · refine J_bipush (x := -5) dX7_setLife_47 (by decide) ?_
          exact J_iret dX7_setLife_49 rfl ⟨rfl, Nat.le_refl _⟩ (hQ h _ s (by unfold f_life; rw [ci_f (fun q => q (nn_of hr1 c5)), ci_f (fun q => q (nn_of hr2 c15)), tN_n (by omega), hy]; dsimp only; rw [ci_t ⟨c31.symm, c44.symm⟩]) Fr.rf hV0)
    · refine J_bipush (x := -2) dX7_setLife_18 (by decide) ?_
      exact J_iret dX7_setLife_20 rfl ⟨rfl, Nat.le_refl _⟩ (hQ h _ s (by unfold f_life; rw [ci_f (fun q => q (nn_of hr1 c5)), ci_t ((bI_0 hr2).mp c15)]) Fr.rf hV0)
  · refine J_iconst (x := -1) dX7_setLife_8 (by decide) ?_
    exact J_iret dX7_setLife_9 rfl ⟨rfl, Nat.le_refl _⟩ (hQ h _ s (by unfold f_life; rw [ci_t ((bI_0 hr1).mp c5)]) Fr.rf hV0)
theorem s_X7_cut {x m : Int32} (hV : VI h a s) (hQ : ∀ h' r s', (r, s') = f_cut x m s → Fr a (a + 7) h h' → VI h' a s' → Q (some (.int r)) h') : MJ m_X7_cut 4 0 0 [.ref a, .int x, .int m] h Q := by
  have hV0 := hV
  obtain ⟨f, g, hh, sn, tx, rd, sp, nu, rm, hR, hA, ⟨hl4, hH⟩, hS, hT⟩ := hV
  have hn := hA.2.1
  refine MJ_of_J (L := [some (.ref a), some (.int x), some (.int m)]) (by decide +kernel) rfl (Nat.le_of_ble_eq_true rfl) rfl ?_
  refine J_aload_n dX7_cut_0 rfl ?_
  refine J_iload_n dX7_cut_1 rfl ?_
  refine J_callV (As := [_]) (rest := []) (M' := m_X7_isLink) dX7_cut_2 ml_RX7_99 gm_X7_isLink gv_X7_isLink hR.o hR.bo rfl rfl rfl (Nat.le_of_ble_eq_true rfl) (by decide) ⟨rfl, rfl, by decide, by decide⟩ (s_X7_isLink (hR.q hA) (fun r1 hr1 => ?_))
  refine J_if_ne (tgt := 10) dX7_cut_5 (by decide) (fun c5 => ?_) (fun c5 => ?_)
  · obtain ⟨j, hj, rfl⟩ := nn_of hr1 c5
    obtain ⟨y, hy⟩ := get_of hj
    obtain ⟨v1, v2, v3, v4⟩ := hA.1.2 j y hy
    obtain ⟨o1, o2, o3, o4, o5⟩ := hA.2.2 y (List.mem_of_getElem? hy)
    refine J_iload_n dX7_cut_10 rfl ?_
    refine J_callS (As := [_]) (rest := []) (M' := m_X7_isMoment) dX7_cut_11 ml_RX7_40 gm_X7_isMoment sm_yX7_isMoment rfl rfl (Nat.le_of_ble_eq_true rfl) (by decide) ⟨rfl, rfl, by decide, by decide⟩ (s_X7_isMoment (fun r2 hr2 => ?_))
    refine J_if_ne (tgt := 20) dX7_cut_14 (by decide) (fun c14 => ?_) (fun c14 => ?_)
    · obtain ⟨k, hk, rfl⟩ := nn_of hr2 c14
      refine J_aload_n dX7_cut_20 rfl ?_
      refine J_iload_n dX7_cut_21 rfl ?_
      refine J_iload_n dX7_cut_22 rfl ?_
      refine J_callV (As := [_, _]) (rest := []) (M' := m_X7_livesAt) dX7_cut_23 ml_RX7_50 gm_X7_livesAt gv_X7_livesAt hR.o hR.bo rfl rfl rfl (Nat.le_of_ble_eq_true rfl) (by decide) ⟨rfl, rfl, by decide, by decide⟩ (s_X7_livesAt (hR.q hA) hy (by rw [m_p1 (by omega), nI_toInt (by omega)]) (fun r3 hr3 => ?_))
      rw [nI_toInt (show k < 2 ^ 31 by omega)] at hr3
      refine J_if_eq (tgt := 40) dX7_cut_26 (by decide) (fun c26 => ?_) (fun c26 => ?_)
      · refine J_bipush (x := -4) dX7_cut_40 (by decide) ?_
        exact J_iret dX7_cut_42 rfl ⟨rfl, Nat.le_refl _⟩ (hQ h _ s (by unfold f_cut; rw [ci_f (fun q => q (nn_of hr1 c5)), ci_f (fun q => q (nn_of hr2 c14)), tN_n (by omega), hy]; dsimp only; rw [tN_n (by omega)]; rw [ci_t (fun q => (bI_0 hr3).mp c26 q.1)]) Fr.rf hV0)
      · refine J_aload_n dX7_cut_29 rfl ?_
        refine J_iload_n dX7_cut_30 rfl ?_
        refine J_iload_n dX7_cut_31 rfl ?_
        refine J_iconst (x := 1) dX7_cut_32 (by decide) ?_
        refine J_isub dX7_cut_33 ?_
        refine J_callV (As := [_, _]) (rest := []) (M' := m_X7_livesAt) dX7_cut_34 ml_RX7_50 gm_X7_livesAt gv_X7_livesAt hR.o hR.bo rfl rfl rfl (Nat.le_of_ble_eq_true rfl) (by decide) ⟨rfl, rfl, by decide, by decide⟩ (s_X7_livesAt (hR.q hA) hy (by rw [Int32.sub_add_cancel, lv_i1 hk, nI_toInt (by omega)]; omega) (fun r4 hr4 => ?_))
        rw [lv_i1 hk] at hr4
        refine J_if_ne (tgt := 43) dX7_cut_37 (by decide) (fun c37 => ?_) (fun c37 => ?_)
        · refine J_aload_n dX7_cut_43 rfl ?_
          refine J_get (k := 0) dX7_cut_44 gc_7 fl_RX7_7 (by decide) hR.o hR.bo rfl ?_
          refine J_iconst (x := 0) dX7_cut_47 (by decide) ?_
          refine J_iald dX7_cut_48 hR.c1 hR.b1 (vp_in_nI (n := 0) (by decide) (by decide)) ?_
          rw [show (0 : Int32).toNatClampNeg = 0 from rfl, hA.1.1]
          refine J_bipush (x := 40) dX7_cut_49 (by decide) ?_
          refine J_icmp_ne (tgt := 57) dX7_cut_51 (by decide) (fun c51 => ?_) (fun c51 => ?_)
          · refine J_aload_n dX7_cut_57 rfl ?_
            refine J_callV (As := []) (rest := []) (M' := m_X7_remember) dX7_cut_58 ml_RX7_89 gm_X7_remember gv_X7_remember hR.o hR.bo rfl rfl rfl (Nat.le_of_ble_eq_true rfl) (by decide) ⟨rfl, rfl, by decide, by decide⟩ (s_X7_remember hR (fun h1 g1 hF1 hR1 hg1 => ?_))
            replace hR := hR1
            have hG := hA.c hg1
            have g3 := nn_of hr3 c26
            have g4 := nn_of hr4 c37
            have g3a := lvB_iff.mp g3
            have g4a := lvB_iff.mp g4
            have c51 : s.1.length < 40 := by
              have q : s.1.length ≠ 40 := fun q => c51 (by rw [q]; rfl)
              omega
            refine J_aload_n dX7_cut_61 rfl ?_
            refine J_aload_n dX7_cut_62 rfl ?_
            refine J_get (k := 0) dX7_cut_63 gc_7 fl_RX7_7 (by decide) hR.o hR.bo rfl ?_
            refine J_iconst (x := 1) dX7_cut_66 (by decide) ?_
            refine J_iload_n dX7_cut_67 rfl ?_
            refine J_iadd dX7_cut_68 ?_
            rw [show (1 : Int32) + nI j = nI (1 + j) from nI_add 1 j]
            refine J_iald dX7_cut_69 hR.c1 hR.b1 (vp_in_nI (by omega) (by decide)) ?_
            rw [nI_clamp (n := 1 + j) (by omega), v1]
            refine J_aload_n dX7_cut_70 rfl ?_
            refine J_get (k := 0) dX7_cut_71 gc_7 fl_RX7_7 (by decide) hR.o hR.bo rfl ?_
            refine J_bipush (x := 41) dX7_cut_74 (by decide) ?_
            refine J_iload_n dX7_cut_76 rfl ?_
            refine J_iadd dX7_cut_77 ?_
            rw [show (41 : Int32) + nI j = nI (41 + j) from nI_add 41 j]
            refine J_iald dX7_cut_78 hR.c1 hR.b1 (vp_in_nI (by omega) (by decide)) ?_
            rw [nI_clamp (n := 41 + j) (by omega), v2]
            refine J_iload_n dX7_cut_79 rfl ?_
            refine J_aload_n dX7_cut_80 rfl ?_
            refine J_get (k := 0) dX7_cut_81 gc_7 fl_RX7_7 (by decide) hR.o hR.bo rfl ?_
            refine J_bipush (x := 121) dX7_cut_84 (by decide) ?_
            refine J_iload_n dX7_cut_86 rfl ?_
            refine J_iadd dX7_cut_87 ?_
            rw [show (121 : Int32) + nI j = nI (121 + j) from nI_add 121 j]
            refine J_iald dX7_cut_88 hR.c1 hR.b1 (vp_in_nI (by omega) (by decide)) ?_
            rw [nI_clamp (n := 121 + j) (by omega), v4]
            refine J_callV (As := [_, _, _, _]) (rest := []) (M' := m_X7_adds) dX7_cut_89 ml_RX7_92 gm_X7_adds gv_X7_adds hR.o hR.bo rfl rfl rfl (Nat.le_of_ble_eq_true rfl) (by decide) ⟨rfl, rfl, by decide, by decide⟩ (s_X7_adds (y := (y.1, y.2.1, k, y.2.2.2)) hR hA c51 ⟨o1, o2, o3, by show k < y.2.2.2; omega, o5⟩ (fun h2 f2 hF2 hR2 hA2 => ?_))
            replace hR := hR2
            have hy2 : (s.1 ++ [(y.1, y.2.1, k, y.2.2.2)])[j]? = some y := by rw [List.getElem?_append_left hj]; exact hy
            replace hA := hA2.to hy2 (show y.2.2.1 < k by omega) (show k ≤ 64 by omega)
            rw [List.set_append_left _ _ hj] at hA
            refine J_aload_n dX7_cut_92 rfl ?_
            refine J_get (k := 0) dX7_cut_93 gc_7 fl_RX7_7 (by decide) hR.o hR.bo rfl ?_
            refine J_bipush (x := 121) dX7_cut_96 (by decide) ?_
            refine J_iload_n dX7_cut_98 rfl ?_
            refine J_iadd dX7_cut_99 ?_
            refine J_iload_n dX7_cut_100 rfl ?_
            rw [show (121 : Int32) + nI j = nI (121 + j) from nI_add 121 j]
            refine J_iast dX7_cut_101 hR.c1 hR.b1 (vp_in_nI (by omega) (by decide)) ?_
            rw [nI_clamp (n := 121 + j) (by omega)]
            replace hR := hR.s1 (upd f2 (121 + j) (nI k))
            refine J_aload_n dX7_cut_102 rfl ?_
            refine J_aload_n dX7_cut_103 rfl ?_
            refine J_get (k := 0) dX7_cut_104 gc_7 fl_RX7_7 (by decide) hR.o hR.bo rfl ?_
            refine J_iconst (x := 0) dX7_cut_107 (by decide) ?_
            refine J_iald dX7_cut_108 hR.c1 hR.b1 (vp_in_nI (n := 0) (by decide) (by decide)) ?_
            rw [show (0 : Int32).toNatClampNeg = 0 from rfl, hA.1.1]
            refine J_iconst (x := 1) dX7_cut_109 (by decide) ?_
            refine J_isub dX7_cut_110 ?_
            refine J_callV (As := [_]) (rest := []) (M' := m_X7_acted) dX7_cut_111 ml_RX7_96 gm_X7_acted gv_X7_acted hR.o hR.bo rfl rfl rfl (Nat.le_of_ble_eq_true rfl) (by decide) ⟨rfl, rfl, by decide, by decide⟩ (s_X7_acted hR hH hl4 hG (fun h9 hh9 hF9 hR9 hl9 hH9 => ?_))
            exact J_iret dX7_cut_114 rfl ⟨rfl, Nat.le_refl _⟩ (hQ h9 _ (act s (s.1.set j (y.1, y.2.1, y.2.2.1, k) ++ [(y.1, y.2.1, k, y.2.2.2)])) (by unfold f_cut; rw [ci_f (fun q => q (nn_of hr1 c5)), ci_f (fun q => q (nn_of hr2 c14)), tN_n (by omega), hy]; dsimp only; rw [tN_n (by omega)]; rw [ci_f (fun q => q ⟨g3, g4⟩), ci_f (by omega), List.length_append, List.length_set]; exact congrArg (fun z => (z, act s (s.1.set j (y.1, y.2.1, y.2.2.1, k) ++ [(y.1, y.2.1, k, y.2.2.2)]))) (nI_pred s.1.length)) (hF1.tr ((hF2.up (by omega) (by omega)).tr hF9)) ⟨_, g1, hh9, sn, tx, rd, sp, nu, rm, hR9, hA, ⟨hl9, hH9⟩, hS, hT⟩)
          · refine J_bipush (x := -3) dX7_cut_54 (by decide) ?_
            exact J_iret dX7_cut_56 rfl ⟨rfl, Nat.le_refl _⟩ (hQ h _ s (by unfold f_cut; rw [ci_f (fun q => q (nn_of hr1 c5)), ci_f (fun q => q (nn_of hr2 c14)), tN_n (by omega), hy]; dsimp only; rw [tN_n (by omega)]; rw [ci_f (fun q => q ⟨nn_of hr3 c26, nn_of hr4 c37⟩), ci_t ((nI_eq (b := 40) (by omega) (by omega)).mp c51)]) Fr.rf hV0)
        · refine J_bipush (x := -4) dX7_cut_40 (by decide) ?_
          exact J_iret dX7_cut_42 rfl ⟨rfl, Nat.le_refl _⟩ (hQ h _ s (by unfold f_cut; rw [ci_f (fun q => q (nn_of hr1 c5)), ci_f (fun q => q (nn_of hr2 c14)), tN_n (by omega), hy]; dsimp only; rw [tN_n (by omega)]; rw [ci_t (fun q => (bI_0 hr4).mp c37 q.2)]) Fr.rf hV0)
    · refine J_bipush (x := -2) dX7_cut_17 (by decide) ?_
      exact J_iret dX7_cut_19 rfl ⟨rfl, Nat.le_refl _⟩ (hQ h _ s (by unfold f_cut; rw [ci_f (fun q => q (nn_of hr1 c5)), ci_t ((bI_0 hr2).mp c14)]) Fr.rf hV0)
  · refine J_iconst (x := -1) dX7_cut_8 (by decide) ?_
    exact J_iret dX7_cut_9 rfl ⟨rfl, Nat.le_refl _⟩ (hQ h _ s (by unfold f_cut; rw [ci_t ((bI_0 hr1).mp c5)]) Fr.rf hV0)
theorem l_X7_clear {m : Nat} {cc : Int32} (hm : m < 64) (hn : ls.length ≤ 40) (K : ∀ h' z x, Fr a (a + 7) h h' → VR h' a z g hh sn tx rd hl it tl sp nu rm → AK z (ls.filter (fun x => !lvB (m : Int) x)) → J m_X7_clear 4 0 0 0 0 62 [some (.ref a), some (.int (nI m)), some (.int cc), some (.int x)] [] h' Q) : ∀ (k : Nat) (x : Int32) (h1 : g_H) (z : Nat → Int32), k ≤ ls.length → x = nI k - 1 → Fr a (a + 7) h h1 → VR h1 a z g hh sn tx rd hl it tl sp nu rm → AK z (ls.take k ++ (ls.drop k).filter (fun x => !lvB (m : Int) x)) → J m_X7_clear 4 0 0 0 0 38 [some (.ref a), some (.int (nI m)), some (.int cc), some (.int x)] [] h1 Q := by
  intro k
  induction k with
  | zero =>
    intro x h1 z hk hx hF hR hA
    refine J_iload_n dX7_clear_38 rfl ?_
    refine J_if_lt (tgt := 62) dX7_clear_39 (by decide) (fun c39 => ?_) (fun c39 => absurd (show x < 0 by rw [hx]; decide) c39)
    exact K h1 z x hF hR (by simpa using hA)
  | succ k ih =>
    intro x h1 z hk hx hF hR hA
    rw [nI_pred] at hx
    subst hx
    obtain ⟨y, hy⟩ := get_of (show k < ls.length by omega)
    have e1 : ls.take (k + 1) ++ (ls.drop (k + 1)).filter (fun x => !lvB (m : Int) x) = ls.take k ++ y :: (ls.drop (k + 1)).filter (fun x => !lvB (m : Int) x) := by
      rw [List.take_succ, hy]; simp
    have e2 : ls.drop k = y :: ls.drop (k + 1) := by
      rw [List.drop_eq_getElem_cons (by omega)]
      congr 1
      exact (List.getElem?_eq_some_iff.mp hy).2
    rw [e1] at hA
    have htl : (ls.take k).length = k := by rw [List.length_take]; omega
    have hy1 : (ls.take k ++ y :: (ls.drop (k + 1)).filter (fun x => !lvB (m : Int) x))[k]? = some y := by
      rw [List.getElem?_append_right (by omega), htl, Nat.sub_self]; rfl
    refine J_iload_n dX7_clear_38 rfl ?_
    refine J_if_lt (tgt := 62) dX7_clear_39 (by decide) (fun c39 => absurd c39 (nI_pos (by omega))) (fun c39 => ?_)
    refine J_aload_n dX7_clear_42 rfl ?_
    refine J_iload_n dX7_clear_43 rfl ?_
    refine J_iload_n dX7_clear_44 rfl ?_
    refine J_callV (As := [_, _]) (rest := []) (M' := m_X7_livesAt) dX7_clear_45 ml_RX7_50 gm_X7_livesAt gv_X7_livesAt hR.o hR.bo rfl rfl rfl (Nat.le_of_ble_eq_true rfl) (by decide) ⟨rfl, rfl, by decide, by decide⟩ (s_X7_livesAt (hR.q hA) hy1 (by rw [m_p1 (by omega), nI_toInt (by omega)]) (fun r hr => ?_))
    rw [nI_toInt (show m < 2 ^ 31 by omega)] at hr
    refine J_if_eq (tgt := 56) dX7_clear_48 (by decide) (fun c48 => ?_) (fun c48 => ?_)
    · have hf := (bI_0 hr).mp c48
      refine J_iinc dX7_clear_56 rfl (y := nI k - 1) (by rw [Int32.sub_eq_add_neg]; rfl) (by decide) rfl ?_
      refine J_goto (tgt := 38) dX7_clear_59 (by decide) ?_
      exact ih _ h1 z (by omega) rfl hF hR (by rw [e2, List.filter_cons, if_pos (by simpa using hf)]; exact hA)
    · refine J_aload_n dX7_clear_51 rfl ?_
      refine J_iload_n dX7_clear_52 rfl ?_
      refine J_callV (As := [_]) (rest := []) (M' := m_X7_takesOut) dX7_clear_53 ml_RX7_102 gm_X7_takesOut gv_X7_takesOut hR.o hR.bo rfl rfl rfl (Nat.le_of_ble_eq_true rfl) (by decide) ⟨rfl, rfl, by decide, by decide⟩ (s_X7_takesOut (j := k) hR hA (get_lt hy1) (fun h2 z2 hF2 hR2 hA2 => ?_))
      have hf := nn_of hr c48
      refine J_iinc dX7_clear_56 rfl (y := nI k - 1) (by rw [Int32.sub_eq_add_neg]; rfl) (by decide) rfl ?_
      refine J_goto (tgt := 38) dX7_clear_59 (by decide) ?_
      exact ih _ h2 z2 (by omega) rfl (hF.tr hF2) hR2 (by rw [e2, List.filter_cons, if_neg (by simpa using hf)]; rw [eraseIdx_mid _ _ _ _ htl] at hA2; exact hA2)
theorem s_X7_clear {m : Int32} (hV : VI h a s) (hQ : ∀ h' r s', (r, s') = f_clear m s → Fr a (a + 7) h h' → VI h' a s' → Q (some (.int r)) h') : MJ m_X7_clear 4 0 0 [.ref a, .int m] h Q := by
  have hV0 := hV
  obtain ⟨f, g, hh, sn, tx, rd, sp, nu, rm, hR, hA, ⟨hl4, hH⟩, hS, hT⟩ := hV
  have hn := hA.2.1
  refine MJ_of_J (L := [some (.ref a), some (.int m), none, none]) (by decide +kernel) rfl (Nat.le_of_ble_eq_true rfl) rfl ?_
  refine J_iload_n dX7_clear_0 rfl ?_
  refine J_callS (As := [_]) (rest := []) (M' := m_X7_isMoment) dX7_clear_1 ml_RX7_40 gm_X7_isMoment sm_yX7_isMoment rfl rfl (Nat.le_of_ble_eq_true rfl) (by decide) ⟨rfl, rfl, by decide, by decide⟩ (s_X7_isMoment (fun r1 hr1 => ?_))
  refine J_if_ne (tgt := 9) dX7_clear_4 (by decide) (fun c4 => ?_) (fun c4 => ?_)
  · obtain ⟨k, hk, rfl⟩ := nn_of hr1 c4
    refine J_aload_n dX7_clear_9 rfl ?_
    refine J_iload_n dX7_clear_10 rfl ?_
    refine J_callV (As := [_]) (rest := []) (M' := m_X7_livingAt) dX7_clear_11 ml_RX7_106 gm_X7_livingAt gv_X7_livingAt hR.o hR.bo rfl rfl rfl (Nat.le_of_ble_eq_true rfl) (by decide) ⟨rfl, rfl, by decide, by decide⟩ (s_X7_livingAt (hR.q hA) hk (fun x hx => ?_))
    refine J_callS (As := [_]) (rest := []) (M' := m_X7_bits) dX7_clear_14 ml_RX7_110 gm_X7_bits sm_yX7_bits rfl rfl (Nat.le_of_ble_eq_true rfl) (by decide) ⟨rfl, rfl, by decide, by decide⟩ (s_X7_bits (fun r2 hr2 => ?_))
    rw [hx.cnt hn] at hr2
    have hcl : s.1.countP (lvB (k : Int)) ≤ s.1.length := List.countP_le_length
    subst hr2
    refine J_istore_n (L' := [_, _, _, _]) dX7_clear_17 (by decide) rfl ?_
    refine J_iload_n dX7_clear_18 rfl ?_
    refine J_if_ne (tgt := 25) dX7_clear_19 (by decide) (fun c19 => ?_) (fun c19 => ?_)
    · refine J_aload_n dX7_clear_25 rfl ?_
      refine J_callV (As := []) (rest := []) (M' := m_X7_remember) dX7_clear_26 ml_RX7_89 gm_X7_remember gv_X7_remember hR.o hR.bo rfl rfl rfl (Nat.le_of_ble_eq_true rfl) (by decide) ⟨rfl, rfl, by decide, by decide⟩ (s_X7_remember hR (fun h1 g1 hF1 hR1 hg1 => ?_))
      replace hR := hR1
      have hG := hA.c hg1
      refine J_aload_n dX7_clear_29 rfl ?_
      refine J_get (k := 0) dX7_clear_30 gc_7 fl_RX7_7 (by decide) hR.o hR.bo rfl ?_
      refine J_iconst (x := 0) dX7_clear_33 (by decide) ?_
      refine J_iald dX7_clear_34 hR.c1 hR.b1 (vp_in_nI (n := 0) (by decide) (by decide)) ?_
      rw [show (0 : Int32).toNatClampNeg = 0 from rfl, hA.1.1]
      refine J_iconst (x := 1) dX7_clear_35 (by decide) ?_
      refine J_isub dX7_clear_36 ?_
      refine J_istore_n (L' := [_, _, _, _]) dX7_clear_37 (by decide) rfl ?_
      refine l_X7_clear (ls := s.1) hk hn (fun h2 f2 x2 hF2 hR2 hA2 => ?_) s.1.length _ h1 f (Nat.le_refl _) rfl Fr.rf hR (by simpa using hA)
      replace hR := hR2
      replace hA := hA2
      refine J_aload_n dX7_clear_62 rfl ?_
      refine J_iload_n dX7_clear_63 rfl ?_
      refine J_callV (As := [_]) (rest := []) (M' := m_X7_acted) dX7_clear_64 ml_RX7_96 gm_X7_acted gv_X7_acted hR.o hR.bo rfl rfl rfl (Nat.le_of_ble_eq_true rfl) (by decide) ⟨rfl, rfl, by decide, by decide⟩ (s_X7_acted hR hH hl4 hG (fun h9 hh9 hF9 hR9 hl9 hH9 => ?_))
      exact J_iret dX7_clear_67 rfl ⟨rfl, Nat.le_refl _⟩ (hQ h9 _ (act s (s.1.filter (fun x => !lvB (k : Int) x))) (by unfold f_clear; rw [ci_f (fun q => q (nn_of hr1 c4)), tN_n (by omega), ci_f (fun q => c19 (by rw [q]; rfl))]) (hF1.tr (hF2.tr hF9)) ⟨f2, g1, hh9, sn, tx, rd, sp, nu, rm, hR9, hA, ⟨hl9, hH9⟩, hS, hT⟩)
    · refine J_bipush (x := -5) dX7_clear_22 (by decide) ?_
      exact J_iret dX7_clear_24 rfl ⟨rfl, Nat.le_refl _⟩ (hQ h _ s (by unfold f_clear; rw [ci_f (fun q => q (nn_of hr1 c4)), tN_n (by omega), ci_t ((nI_eq (b := 0) (by omega) (by omega)).mp c19)]) Fr.rf hV0)
  · refine J_iconst (x := -1) dX7_clear_7 (by decide) ?_
    exact J_iret dX7_clear_8 rfl ⟨rfl, Nat.le_refl _⟩ (hQ h _ s (by unfold f_clear; rw [ci_t ((bI_0 hr1).mp c4)]) Fr.rf hV0)
theorem s_X7_type {c : Nat} (hc : c < 65536) (hV : VI h a s) (hQ : ∀ h' r s', (r, s') = f_type c s → Fr a (a + 7) h h' → VI h' a s' → Q (some (.int r)) h') : MJ m_X7_type 4 0 0 [.ref a, .int (nI c)] h Q := by
  have hV0 := hV
  obtain ⟨f, g, hh, sn, tx, rd, sp, nu, rm, hR, hA, ⟨hl4, hH⟩, hS, hT⟩ := hV
  have hn := hA.2.1
  obtain ⟨hTV, ht, hTc⟩ := hT
  refine MJ_of_J (L := [some (.ref a), some (.int (nI c))]) (by decide +kernel) rfl (Nat.le_of_ble_eq_true rfl) rfl ?_
  refine J_aload_n dX7_type_0 rfl ?_
  refine J_get (k := 7) dX7_type_1 gc_7 fl_RX7_113 (by decide) hR.o hR.bo rfl ?_
  refine J_bipush (x := 60) dX7_type_4 (by decide) ?_
  refine J_icmp_ne (tgt := 12) dX7_type_6 (by decide) (fun c6 => ?_) (fun c6 => ?_)
  · have c6 : s.2.2.2.length < 60 := by
      have q : s.2.2.2.length ≠ 60 := fun q => c6 (by rw [q]; rfl)
      omega
    refine J_aload_n dX7_type_12 rfl ?_
    refine J_get (k := 6) dX7_type_13 gc_7 fl_RX7_22 (by decide) hR.o hR.bo rfl ?_
    refine J_aload_n dX7_type_16 rfl ?_
    refine J_get (k := 7) dX7_type_17 gc_7 fl_RX7_113 (by decide) hR.o hR.bo rfl ?_
    refine J_iload_n dX7_type_20 rfl ?_
    refine J_iast dX7_type_21 hR.c5 hR.b5 (vp_in_nI (by omega) (by decide)) ?_
    rw [nI_clamp (n := s.2.2.2.length) (by omega)]
    replace hR := hR.s5 (upd tx s.2.2.2.length (nI c))
    refine J_aload_n dX7_type_22 rfl ?_
    refine J_dup dX7_type_23 rfl ?_
    refine J_get (k := 7) dX7_type_24 gc_7 fl_RX7_113 (by decide) hR.o hR.bo rfl ?_
    refine J_iconst (x := 1) dX7_type_27 (by decide) ?_
    refine J_iadd dX7_type_28 ?_
    rw [nI_1]
    refine J_put (k := 7) dX7_type_29 gc_7 fl_RX7_113 (by decide) rfl hR.o hR.bo (Nat.le_of_ble_eq_true rfl) (fun _ => ⟨rfl, rfl⟩) rfl ?_
    replace hR := hR.so (nI s.2.1.length) (snI s.2.2.1) (nI (s.2.2.2.length + 1)) sp nu rm
    refine J_aload_n dX7_type_32 rfl ?_
    refine J_get (k := 7) dX7_type_33 gc_7 fl_RX7_113 (by decide) hR.o hR.bo rfl ?_
    exact J_iret dX7_type_36 rfl ⟨rfl, Nat.le_refl _⟩ (hQ _ _ (s.1, s.2.1, s.2.2.1, s.2.2.2 ++ [c]) (by unfold f_type; rw [ci_f (by omega)]) ((Fr.rf.up (by omega) (by omega)).up (by omega) (by omega)) ⟨f, g, hh, sn, _, rd, sp, nu, rm, by rw [show (s.2.2.2 ++ [c]).length = s.2.2.2.length + 1 by simp]; exact hR, hA, ⟨hl4, hH⟩, hS, hTV.push, by rw [show (s.2.2.2 ++ [c]).length = s.2.2.2.length + 1 by simp]; omega, fun x q => by rcases List.mem_append.mp q with q | q; exact hTc x q; rw [List.mem_singleton.mp q]; exact hc⟩)
  · refine J_bipush (x := -3) dX7_type_9 (by decide) ?_
    exact J_iret dX7_type_11 rfl ⟨rfl, Nat.le_refl _⟩ (hQ h _ s (by unfold f_type; rw [ci_t ((nI_eq (b := 60) (by omega) (by omega)).mp c6)]) Fr.rf hV0)
theorem s_X7_clearText (hV : VI h a s) (hQ : ∀ h' r s', (r, s') = f_ctext s → Fr a (a + 7) h h' → VI h' a s' → Q (some (.int r)) h') : MJ m_X7_clearText 4 0 0 [.ref a] h Q := by
  have hV0 := hV
  obtain ⟨f, g, hh, sn, tx, rd, sp, nu, rm, hR, hA, ⟨hl4, hH⟩, hS, hT⟩ := hV
  have hn := hA.2.1
  obtain ⟨hTV, ht, hTc⟩ := hT
  refine MJ_of_J (L := [some (.ref a), none]) (by decide +kernel) rfl (Nat.le_of_ble_eq_true rfl) rfl ?_
  refine J_aload_n dX7_clearText_0 rfl ?_
  refine J_get (k := 7) dX7_clearText_1 gc_7 fl_RX7_113 (by decide) hR.o hR.bo rfl ?_
  refine J_istore_n (L' := [_, _]) dX7_clearText_4 (by decide) rfl ?_
  refine J_aload_n dX7_clearText_5 rfl ?_
  refine J_iconst (x := 0) dX7_clearText_6 (by decide) ?_
  refine J_put (k := 7) dX7_clearText_7 gc_7 fl_RX7_113 (by decide) rfl hR.o hR.bo (Nat.le_of_ble_eq_true rfl) (fun _ => ⟨rfl, rfl⟩) rfl ?_
  replace hR := hR.so (nI s.2.1.length) (snI s.2.2.1) (nI 0) sp nu rm
  refine J_iload_n dX7_clearText_10 rfl ?_
  exact J_iret dX7_clearText_11 rfl ⟨rfl, Nat.le_refl _⟩ (hQ _ _ (s.1, s.2.1, s.2.2.1, []) rfl (Fr.rf.up (by omega) (by omega)) ⟨f, g, hh, sn, tx, rd, sp, nu, rm, hR, hA, ⟨hl4, hH⟩, hS, fun i c q => by simp at q, by simp, fun x q => by simp at q⟩)
theorem l_X7_undo {n : Nat} (hn : n ≤ 3) (hQ : ∀ h' z, Fr a (a + 7) h h' → VR h' a z g hh sn tx rd (nI n) it tl sp nu rm → (∀ i, i < 161 → z i = hh (161 * n + i)) → Q (some (.int (nI n))) h') : ∀ (t k : Nat) (h1 : g_H) (z : Nat → Int32), 161 - k < t → k ≤ 161 → Fr a (a + 7) h h1 → VR h1 a z g hh sn tx rd (nI n) it tl sp nu rm → (∀ i, i < k → z i = hh (161 * n + i)) → J m_X7_undo 4 0 0 0 0 22 [some (.ref a), some (.int (nI k))] [] h1 Q := by
  intro t
  induction t with
  | zero => intro k h1 z ht; omega
  | succ t ih =>
    intro k h1 z ht hk hF hR hz
    refine J_iload_n dX7_undo_22 rfl ?_
    refine J_sipush (x := 161) dX7_undo_23 (by decide) ?_
    refine J_icmp_ge (tgt := 56) dX7_undo_26 (by decide) (fun c26 => ?_) (fun c26 => ?_)
    · refine J_aload_n dX7_undo_56 rfl ?_
      refine J_get (k := 3) dX7_undo_57 gc_7 fl_RX7_28 (by decide) hR.o hR.bo rfl ?_
      exact J_iret dX7_undo_60 rfl ⟨rfl, Nat.le_refl _⟩ (hQ h1 z hF hR (fun i hi => hz i (by have c26 := (nI_leI (a := 161) (b := k) (by omega) (by omega)).mp c26; omega)))
    · have c26 : k < 161 := Nat.not_le.mp (fun q => c26 ((nI_leI (a := 161) (b := k) (by omega) (by omega)).mpr q))
      refine J_aload_n dX7_undo_29 rfl ?_
      refine J_get (k := 0) dX7_undo_30 gc_7 fl_RX7_7 (by decide) hR.o hR.bo rfl ?_
      refine J_iload_n dX7_undo_33 rfl ?_
      refine J_aload_n dX7_undo_34 rfl ?_
      refine J_get (k := 2) dX7_undo_35 gc_7 fl_RX7_16 (by decide) hR.o hR.bo rfl ?_
      refine J_sipush (x := 161) dX7_undo_38 (by decide) ?_
      refine J_aload_n dX7_undo_41 rfl ?_
      refine J_get (k := 3) dX7_undo_42 gc_7 fl_RX7_28 (by decide) hR.o hR.bo rfl ?_
      refine J_imul dX7_undo_45 ?_
      refine J_iload_n dX7_undo_46 rfl ?_
      refine J_iadd dX7_undo_47 ?_
      rw [show (161 : Int32) * nI n = nI (161 * n) from pk_mul 161 n, nI_add]
      refine J_iald dX7_undo_48 hR.c3 hR.b3 (vp_in_nI (by omega) (by decide)) ?_
      rw [nI_clamp (n := 161 * n + k) (by omega)]
      refine J_iast dX7_undo_49 hR.c1 hR.b1 (vp_in_nI (by omega) (by decide)) ?_
      rw [nI_clamp (n := k) (by omega)]
      replace hR := hR.s1 (upd z k (hh (161 * n + k)))
      refine J_iinc (L' := [_, _]) dX7_undo_50 rfl (nI_i1 k) (by decide) rfl ?_
      refine J_goto (tgt := 22) dX7_undo_53 (by decide) ?_
      exact ih (k + 1) _ _ (by omega) (by omega) (hF.up (by omega) (by omega)) hR (fun i hi => by by_cases q : i = k; subst q; exact upd_e _ _ _; rw [upd_o _ _ q]; exact hz i (by omega))
theorem s_X7_undo (hV : VI h a s) (hQ : ∀ h' r s', (r, s') = f_undo s → Fr a (a + 7) h h' → VI h' a s' → Q (some (.int r)) h') : MJ m_X7_undo 4 0 0 [.ref a] h Q := by
  have hV0 := hV
  obtain ⟨f, g, hh, sn, tx, rd, sp, nu, rm, hR, hA, ⟨hl4, hH⟩, hS, hT⟩ := hV
  have hn := hA.2.1
  refine MJ_of_J (L := [some (.ref a), none]) (by decide +kernel) rfl (Nat.le_of_ble_eq_true rfl) rfl ?_
  refine J_aload_n dX7_undo_0 rfl ?_
  refine J_get (k := 3) dX7_undo_1 gc_7 fl_RX7_28 (by decide) hR.o hR.bo rfl ?_
  refine J_if_ne (tgt := 10) dX7_undo_4 (by decide) (fun c4 => ?_) (fun c4 => ?_)
  · obtain ⟨hs0, q, e1, e2, e3, e4⟩ := hs_split s.2.1 (fun z => c4 (by rw [z]; rfl))
    have hq : AK (fun k => hh (161 * hs0.length + k)) q := hH hs0.length q (by rw [e1, List.getElem?_append_right (Nat.le_refl _), Nat.sub_self]; rfl)
    have hH0 : HV hh hs0 := fun i l hi => hH i l (by rw [e1, List.getElem?_append_left (get_lt hi)]; exact hi)
    refine J_aload_n dX7_undo_10 rfl ?_
    refine J_dup dX7_undo_11 rfl ?_
    refine J_get (k := 3) dX7_undo_12 gc_7 fl_RX7_28 (by decide) hR.o hR.bo rfl ?_
    refine J_iconst (x := 1) dX7_undo_15 (by decide) ?_
    refine J_isub dX7_undo_16 ?_
    rw [e4, nI_pred]
    refine J_put (k := 3) dX7_undo_17 gc_7 fl_RX7_28 (by decide) rfl hR.o hR.bo (Nat.le_of_ble_eq_true rfl) (fun _ => ⟨rfl, rfl⟩) rfl ?_
    replace hR := hR.so (nI hs0.length) (snI s.2.2.1) (nI s.2.2.2.length) sp nu rm
    refine J_iconst (x := 0) dX7_undo_20 (by decide) ?_
    refine J_istore_n (L' := [_, _]) dX7_undo_21 (by decide) rfl ?_
    exact l_X7_undo (hh := hh) (n := hs0.length) (by omega) (fun h2 z hF2 hR2 hz => hQ h2 _ (q, hs0, s.2.2.1, s.2.2.2) (by unfold f_undo; rw [e2]; dsimp only; rw [e3, e4]; rfl) ((Fr.rf.up (by omega) (by omega)).tr hF2) ⟨z, g, hh, sn, tx, rd, sp, nu, rm, hR2, hq.c hz, ⟨by show hs0.length ≤ 4; omega, hH0⟩, hS, hT⟩) 162 0 _ f (by omega) (by omega) Fr.rf hR (fun i hi => by omega)
  · refine J_bipush (x := -5) dX7_undo_7 (by decide) ?_
    exact J_iret dX7_undo_9 rfl ⟨rfl, Nat.le_refl _⟩ (hQ h _ s (by unfold f_undo; have c4 := (nI_eq (b := 0) (by omega) (by omega)).mp c4; rw [List.length_eq_zero_iff.mp c4]; rfl) Fr.rf hV0)
theorem l_X7_keep (K : ∀ h' z x, Fr a (a + 7) h h' → VR h' a f g hh z tx rd hl it tl sp nu rm → (∀ i, i < 161 → z i = f i) → J m_X7_keep 4 0 0 0 0 27 [some (.ref a), some (.int x)] [] h' Q) : ∀ (t k : Nat) (h1 : g_H) (z : Nat → Int32), 161 - k < t → k ≤ 161 → Fr a (a + 7) h h1 → VR h1 a f g hh z tx rd hl it tl sp nu rm → (∀ i, i < k → z i = f i) → J m_X7_keep 4 0 0 0 0 2 [some (.ref a), some (.int (nI k))] [] h1 Q := by
  intro t
  induction t with
  | zero => intro k h1 z ht; omega
  | succ t ih =>
    intro k h1 z ht hk hF hR hz
    refine J_iload_n dX7_keep_2 rfl ?_
    refine J_sipush (x := 161) dX7_keep_3 (by decide) ?_
    refine J_icmp_ge (tgt := 27) dX7_keep_6 (by decide) (fun c6 => ?_) (fun c6 => ?_)
    · exact K h1 z _ hF hR (fun i hi => hz i (by have c6 := (nI_leI (a := 161) (b := k) (by omega) (by omega)).mp c6; omega))
    · have c6 : k < 161 := Nat.not_le.mp (fun q => c6 ((nI_leI (a := 161) (b := k) (by omega) (by omega)).mpr q))
      refine J_aload_n dX7_keep_9 rfl ?_
      refine J_get (k := 4) dX7_keep_10 gc_7 fl_RX7_19 (by decide) hR.o hR.bo rfl ?_
      refine J_iload_n dX7_keep_13 rfl ?_
      refine J_aload_n dX7_keep_14 rfl ?_
      refine J_get (k := 0) dX7_keep_15 gc_7 fl_RX7_7 (by decide) hR.o hR.bo rfl ?_
      refine J_iload_n dX7_keep_18 rfl ?_
      refine J_iald dX7_keep_19 hR.c1 hR.b1 (vp_in_nI (by omega) (by decide)) ?_
      refine J_iast dX7_keep_20 hR.c4 hR.b4 (vp_in_nI (by omega) (by decide)) ?_
      rw [nI_clamp (n := k) (by omega)]
      replace hR := hR.s4 (upd z k (f k))
      refine J_iinc (L' := [_, _]) dX7_keep_21 rfl (nI_i1 k) (by decide) rfl ?_
      refine J_goto (tgt := 2) dX7_keep_24 (by decide) ?_
      exact ih (k + 1) _ _ (by omega) (by omega) (hF.up (by omega) (by omega)) hR (fun i hi => by by_cases q : i = k; subst q; exact upd_e _ _ _; rw [upd_o _ _ q]; exact hz i (by omega))
theorem s_X7_keep (hV : VI h a s) (hQ : ∀ h' r s', (r, s') = f_keep s → Fr a (a + 7) h h' → VI h' a s' → Q (some (.int r)) h') : MJ m_X7_keep 4 0 0 [.ref a] h Q := by
  have hV0 := hV
  obtain ⟨f, g, hh, sn, tx, rd, sp, nu, rm, hR, hA, ⟨hl4, hH⟩, hS, hT⟩ := hV
  have hn := hA.2.1
  refine MJ_of_J (L := [some (.ref a), none]) (by decide +kernel) rfl (Nat.le_of_ble_eq_true rfl) rfl ?_
  refine J_iconst (x := 0) dX7_keep_0 (by decide) ?_
  refine J_istore_n (L' := [_, _]) dX7_keep_1 (by decide) rfl ?_
  refine l_X7_keep (f := f) (fun h2 z x hF2 hR2 hz => ?_) 162 0 h sn (by omega) (by omega) Fr.rf hR (fun i hi => by omega)
  replace hR := hR2
  refine J_aload_n dX7_keep_27 rfl ?_
  refine J_iconst (x := 1) dX7_keep_28 (by decide) ?_
  refine J_put (k := 5) dX7_keep_29 gc_7 fl_RX7_146 (by decide) rfl hR.o hR.bo (Nat.le_of_ble_eq_true rfl) (fun _ => ⟨rfl, rfl⟩) rfl ?_
  replace hR := hR.so (nI s.2.1.length) 1 (nI s.2.2.2.length) sp nu rm
  refine J_aload_n dX7_keep_32 rfl ?_
  refine J_get (k := 0) dX7_keep_33 gc_7 fl_RX7_7 (by decide) hR.o hR.bo rfl ?_
  refine J_iconst (x := 0) dX7_keep_36 (by decide) ?_
  refine J_iald dX7_keep_37 hR.c1 hR.b1 (vp_in_nI (n := 0) (by decide) (by decide)) ?_
  rw [show (0 : Int32).toNatClampNeg = 0 from rfl, hA.1.1]
  exact J_iret dX7_keep_38 rfl ⟨rfl, Nat.le_refl _⟩ (hQ _ _ (s.1, s.2.1, some s.1, s.2.2.2) rfl (hF2.up (by omega) (by omega)) ⟨f, g, hh, z, tx, rd, sp, nu, rm, hR, hA, ⟨hl4, hH⟩, fun q e => by cases e; exact hA.c hz, hT⟩)
theorem l_X7_restore (K : ∀ h' z x, Fr a (a + 7) h h' → VR h' a z g hh sn tx rd hl it tl sp nu rm → (∀ i, i < 161 → z i = sn i) → J m_X7_restore 4 0 0 0 0 41 [some (.ref a), some (.int x)] [] h' Q) : ∀ (t k : Nat) (h1 : g_H) (z : Nat → Int32), 161 - k < t → k ≤ 161 → Fr a (a + 7) h h1 → VR h1 a z g hh sn tx rd hl it tl sp nu rm → (∀ i, i < k → z i = sn i) → J m_X7_restore 4 0 0 0 0 16 [some (.ref a), some (.int (nI k))] [] h1 Q := by
  intro t
  induction t with
  | zero => intro k h1 z ht; omega
  | succ t ih =>
    intro k h1 z ht hk hF hR hz
    refine J_iload_n dX7_restore_16 rfl ?_
    refine J_sipush (x := 161) dX7_restore_17 (by decide) ?_
    refine J_icmp_ge (tgt := 41) dX7_restore_20 (by decide) (fun c20 => ?_) (fun c20 => ?_)
    · exact K h1 z _ hF hR (fun i hi => hz i (by have c20 := (nI_leI (a := 161) (b := k) (by omega) (by omega)).mp c20; omega))
    · have c20 : k < 161 := Nat.not_le.mp (fun q => c20 ((nI_leI (a := 161) (b := k) (by omega) (by omega)).mpr q))
      refine J_aload_n dX7_restore_23 rfl ?_
      refine J_get (k := 0) dX7_restore_24 gc_7 fl_RX7_7 (by decide) hR.o hR.bo rfl ?_
      refine J_iload_n dX7_restore_27 rfl ?_
      refine J_aload_n dX7_restore_28 rfl ?_
      refine J_get (k := 4) dX7_restore_29 gc_7 fl_RX7_19 (by decide) hR.o hR.bo rfl ?_
      refine J_iload_n dX7_restore_32 rfl ?_
      refine J_iald dX7_restore_33 hR.c4 hR.b4 (vp_in_nI (by omega) (by decide)) ?_
      refine J_iast dX7_restore_34 hR.c1 hR.b1 (vp_in_nI (by omega) (by decide)) ?_
      rw [nI_clamp (n := k) (by omega)]
      replace hR := hR.s1 (upd z k (sn k))
      refine J_iinc (L' := [_, _]) dX7_restore_35 rfl (nI_i1 k) (by decide) rfl ?_
      refine J_goto (tgt := 16) dX7_restore_38 (by decide) ?_
      exact ih (k + 1) _ _ (by omega) (by omega) (hF.up (by omega) (by omega)) hR (fun i hi => by by_cases q : i = k; subst q; exact upd_e _ _ _; rw [upd_o _ _ q]; exact hz i (by omega))
theorem s_X7_restore (hV : VI h a s) (hQ : ∀ h' r s', (r, s') = f_rest s → Fr a (a + 7) h h' → VI h' a s' → Q (some (.int r)) h') : MJ m_X7_restore 4 0 0 [.ref a] h Q := by
  have hV0 := hV
  obtain ⟨f, g, hh, sn, tx, rd, sp, nu, rm, hR, hA, ⟨hl4, hH⟩, hS, hT⟩ := hV
  have hn := hA.2.1
  refine MJ_of_J (L := [some (.ref a), none]) (by decide +kernel) rfl (Nat.le_of_ble_eq_true rfl) rfl ?_
  refine J_aload_n dX7_restore_0 rfl ?_
  refine J_get (k := 5) dX7_restore_1 gc_7 fl_RX7_146 (by decide) hR.o hR.bo rfl ?_
  refine J_if_ne (tgt := 10) dX7_restore_4 (by decide) (fun c4 => ?_) (fun c4 => ?_)
  · obtain ⟨q, hq⟩ : ∃ q, s.2.2.1 = some q := by
      cases z : s.2.2.1 with
      | none => exact absurd (by rw [z]; rfl) c4
      | some q => exact ⟨q, rfl⟩
    have hSq := hS q hq
    refine J_aload_n dX7_restore_10 rfl ?_
    refine J_callV (As := []) (rest := []) (M' := m_X7_remember) dX7_restore_11 ml_RX7_89 gm_X7_remember gv_X7_remember hR.o hR.bo rfl rfl rfl (Nat.le_of_ble_eq_true rfl) (by decide) ⟨rfl, rfl, by decide, by decide⟩ (s_X7_remember hR (fun h1 g1 hF1 hR1 hg1 => ?_))
    replace hR := hR1
    have hG := hA.c hg1
    refine J_iconst (x := 0) dX7_restore_14 (by decide) ?_
    refine J_istore_n (L' := [_, _]) dX7_restore_15 (by decide) rfl ?_
    refine l_X7_restore (sn := sn) (fun h2 f2 x hF2 hR2 hz => ?_) 162 0 h1 f (by omega) (by omega) Fr.rf hR (fun i hi => by omega)
    replace hR := hR2
    replace hA := hSq.c hz
    refine J_aload_n dX7_restore_41 rfl ?_
    refine J_aload_n dX7_restore_42 rfl ?_
    refine J_get (k := 0) dX7_restore_43 gc_7 fl_RX7_7 (by decide) hR.o hR.bo rfl ?_
    refine J_iconst (x := 0) dX7_restore_46 (by decide) ?_
    refine J_iald dX7_restore_47 hR.c1 hR.b1 (vp_in_nI (n := 0) (by decide) (by decide)) ?_
    rw [show (0 : Int32).toNatClampNeg = 0 from rfl, hA.1.1]
    refine J_callV (As := [_]) (rest := []) (M' := m_X7_acted) dX7_restore_48 ml_RX7_96 gm_X7_acted gv_X7_acted hR.o hR.bo rfl rfl rfl (Nat.le_of_ble_eq_true rfl) (by decide) ⟨rfl, rfl, by decide, by decide⟩ (s_X7_acted hR hH hl4 hG (fun h9 hh9 hF9 hR9 hl9 hH9 => ?_))
    exact J_iret dX7_restore_51 rfl ⟨rfl, Nat.le_refl _⟩ (hQ h9 _ (act s q) (by unfold f_rest; rw [hq]) (hF1.tr (hF2.tr hF9)) ⟨f2, g1, hh9, sn, tx, rd, sp, nu, rm, hR9, hA, ⟨hl9, hH9⟩, hS, hT⟩)
  · refine J_bipush (x := -5) dX7_restore_7 (by decide) ?_
    exact J_iret dX7_restore_9 rfl ⟨rfl, Nat.le_refl _⟩ (hQ h _ s (by unfold f_rest; cases z : s.2.2.1 with | none => rfl | some q => (rw [z] at c4; exact absurd c4 (by show ¬ (1 : Int32) = 0; decide))) Fr.rf hV0)
end SMod8
