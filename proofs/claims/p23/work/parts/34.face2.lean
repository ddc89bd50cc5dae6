section SFace2
variable {h h' : g_H} {a : Nat} {s : St} {Q : Option Value → g_H → Prop}
theorem s_X6_setLife {x f t : Int32} (hC : CI h a s) (hQ : ∀ h' r s', (r, s') = f_life x f t s → Fr a (a + 56) h h' → CI h' a s' → Q (some (.int r)) h') : MJ m_X6_setLife 5 0 0 [.ref a, .int x, .int f, .int t] h Q := by
  have hn := hC.L.len
  refine MJ_of_J (L := [some (.ref a), some (.int x), some (.int f), some (.int t)]) (by decide +kernel) rfl (Nat.le_of_ble_eq_true rfl) rfl ?_
  refine J_aload_n dX6_setLife_0 rfl ?_
  refine J_get (k := 0) dX6_setLife_1 gc_6 fl_RX6_10 (by decide) hC.o hC.bo rfl ?_
  refine J_iload_n dX6_setLife_4 rfl ?_
  refine J_callV (As := [_]) (rest := []) (M' := m_X4_has) dX6_setLife_5 ml_RX6_84 gm_X4_has gv_X4_has hC.L.o hC.L.b rfl rfl rfl (Nat.le_of_ble_eq_true rfl) (by decide) ⟨rfl, rfl, by decide, by decide⟩ (s_X4_has hC.L (fun r1 hr1 => ?_))
  refine J_if_ne (tgt := 13) dX6_setLife_8 (by decide) (fun c8 => ?_) (fun c8 => ?_)
  · obtain ⟨j, hj, rfl⟩ := nn_of hr1 c8
    obtain ⟨y, hy⟩ := get_of hj
    have hyO := hC.L.ok y (List.mem_of_getElem? hy)
    obtain ⟨o1, o2, o3, o4, o5⟩ := hyO
    refine J_iload_n dX6_setLife_13 rfl ?_
    refine J_iload_n dX6_setLife_14 rfl ?_
    refine J_callS (As := [_, _]) (rest := []) (M' := m_X6_isLife) dX6_setLife_15 ml_RX6_65 gm_X6_isLife sm_yX6_isLife rfl rfl (Nat.le_of_ble_eq_true rfl) (by decide) ⟨rfl, rfl, by decide, by decide⟩ (s_X6_isLife (fun r2 hr2 => ?_))
    refine J_if_ne (tgt := 24) dX6_setLife_18 (by decide) (fun c18 => ?_) (fun c18 => ?_)
    · obtain ⟨b, e, hbe, h64, rfl, rfl⟩ := nn_of hr2 c18
      refine J_aload_n dX6_setLife_24 rfl ?_
      refine J_get (k := 0) dX6_setLife_25 gc_6 fl_RX6_10 (by decide) hC.o hC.bo rfl ?_
      refine J_iload_n dX6_setLife_28 rfl ?_
      refine J_callV (As := [_]) (rest := []) (M' := m_X4_fromOf) dX6_setLife_29 ml_RX6_91 gm_X4_fromOf gv_X4_fromOf hC.L.o hC.L.b rfl rfl rfl (Nat.le_of_ble_eq_true rfl) (by decide) ⟨rfl, rfl, by decide, by decide⟩ (s_X4_fromOf hC.L hy (fun r3 hr3 => ?_))
      subst hr3
      refine J_iload_n dX6_setLife_32 rfl ?_
      refine J_icmp_ne (tgt := 51) dX6_setLife_33 (by decide) (fun c33 => ?_) (fun c33 => ?_)
      · refine J_aload_n dX6_setLife_51 rfl ?_
        refine J_get (k := 3) dX6_setLife_52 gc_6 fl_RX6_26 (by decide) hC.o hC.bo rfl ?_
        refine J_aload_n dX6_setLife_55 rfl ?_
        refine J_get (k := 0) dX6_setLife_56 gc_6 fl_RX6_10 (by decide) hC.o hC.bo rfl ?_
        refine J_callV (As := [_]) (rest := []) (M' := m_X1_remember) dX6_setLife_59 ml_RX6_73 gm_X1_remember gv_X1_remember hC.H.o hC.H.bo rfl rfl rfl (Nat.le_of_ble_eq_true rfl) (by decide) ⟨rfl, rfl, by decide, by decide⟩ (s_X1_remember hC.H hC.L (by omega) (fun h1 hF1 hH1 => ?_))
        have hC0 := hC
        replace hC := hC.hist hF1 hH1
        refine J_aload_n dX6_setLife_62 rfl ?_
        refine J_get (k := 0) dX6_setLife_63 gc_6 fl_RX6_10 (by decide) hC.o hC.bo rfl ?_
        refine J_iload_n dX6_setLife_66 rfl ?_
        refine J_iload_n dX6_setLife_67 rfl ?_
        refine J_iload_n dX6_setLife_68 rfl ?_
        refine J_callV (As := [_, _, _]) (rest := []) (M' := m_X4_live) dX6_setLife_69 ml_RX6_98 gm_X4_live gv_X4_live hC.L.o hC.L.b rfl rfl rfl (Nat.le_of_ble_eq_true rfl) (by decide) ⟨rfl, rfl, by decide, by decide⟩ (s_X4_live hC.L hy hbe h64 (fun h2 hF2 hL2 => ?_))
        replace hC := hC.links hF2 hL2
        refine J_iload_n dX6_setLife_72 rfl ?_
        refine J_iload_n dX6_setLife_73 rfl ?_
        refine J_isub dX6_setLife_74 ?_
        exact J_iret dX6_setLife_75 rfl ⟨rfl, Nat.le_refl _⟩ (hQ _ _ _ (by unfold f_life; rw [ci_f (fun q => q (nn_of hr1 c8)), ci_f (fun q => q (nn_of hr2 c18)), tN_n (by omega), hy]; dsimp only; rw [ci_f (fun q => c33 q.1.symm), tN_n (by omega), tN_n (by omega), pk_sub (by omega)]; rfl) ((hF1.mono (by omega) (by omega)).tr (hF2.mono (by omega) (by omega))) hC)
      · refine J_aload_n dX6_setLife_36 rfl ?_
        refine J_get (k := 0) dX6_setLife_37 gc_6 fl_RX6_10 (by decide) hC.o hC.bo rfl ?_
        refine J_iload_n dX6_setLife_40 rfl ?_
        refine J_callV (As := [_]) (rest := []) (M' := m_X4_toOf) dX6_setLife_41 ml_RX6_95 gm_X4_toOf gv_X4_toOf hC.L.o hC.L.b rfl rfl rfl (Nat.le_of_ble_eq_true rfl) (by decide) ⟨rfl, rfl, by decide, by decide⟩ (s_X4_toOf hC.L hy (fun r4 hr4 => ?_))
        subst hr4
        refine J_iload_n dX6_setLife_44 rfl ?_
        refine J_icmp_ne (tgt := 51) dX6_setLife_45 (by decide) (fun c45 => ?_) (fun c45 => ?_)
        · refine J_aload_n dX6_setLife_51 rfl ?_
          refine J_get (k := 3) dX6_setLife_52 gc_6 fl_RX6_26 (by decide) hC.o hC.bo rfl ?_
          refine J_aload_n dX6_setLife_55 rfl ?_
          refine J_get (k := 0) dX6_setLife_56 gc_6 fl_RX6_10 (by decide) hC.o hC.bo rfl ?_
          refine J_callV (As := [_]) (rest := []) (M' := m_X1_remember) dX6_setLife_59 ml_RX6_73 gm_X1_remember gv_X1_remember hC.H.o hC.H.bo rfl rfl rfl (Nat.le_of_ble_eq_true rfl) (by decide) ⟨rfl, rfl, by decide, by decide⟩ (s_X1_remember hC.H hC.L (by omega) (fun h1 hF1 hH1 => ?_))
          have hC0 := hC
          replace hC := hC.hist hF1 hH1
          refine J_aload_n dX6_setLife_62 rfl ?_
          refine J_get (k := 0) dX6_setLife_63 gc_6 fl_RX6_10 (by decide) hC.o hC.bo rfl ?_
          refine J_iload_n dX6_setLife_66 rfl ?_
          refine J_iload_n dX6_setLife_67 rfl ?_
          refine J_iload_n dX6_setLife_68 rfl ?_
          refine J_callV (As := [_, _, _]) (rest := []) (M' := m_X4_live) dX6_setLife_69 ml_RX6_98 gm_X4_live gv_X4_live hC.L.o hC.L.b rfl rfl rfl (Nat.le_of_ble_eq_true rfl) (by decide) ⟨rfl, rfl, by decide, by decide⟩ (s_X4_live hC.L hy hbe h64 (fun h2 hF2 hL2 => ?_))
          replace hC := hC.links hF2 hL2
          refine J_iload_n dX6_setLife_72 rfl ?_
          refine J_iload_n dX6_setLife_73 rfl ?_
          refine J_isub dX6_setLife_74 ?_
          exact J_iret dX6_setLife_75 rfl ⟨rfl, Nat.le_refl _⟩ (hQ _ _ _ (by unfold f_life; rw [ci_f (fun q => q (nn_of hr1 c8)), ci_f (fun q => q (nn_of hr2 c18)), tN_n (by omega), hy]; dsimp only; rw [ci_f (fun q => c45 q.2.symm), tN_n (by omega), tN_n (by omega), pk_sub (by omega)]; rfl) ((hF1.mono (by omega) (by omega)).tr (hF2.mono (by omega) (by omega))) hC)
        · refine J_bipush (x := -5) dX6_setLife_48 (by decide) ?_
          exact J_iret dX6_setLife_50 rfl ⟨rfl, Nat.le_refl _⟩ (hQ h _ s (by unfold f_life; rw [ci_f (fun q => q (nn_of hr1 c8)), ci_f (fun q => q (nn_of hr2 c18)), tN_n (by omega), hy]; dsimp only; rw [ci_t ⟨c33.symm, c45.symm⟩]) Fr.rf hC)
    · refine J_bipush (x := -2) dX6_setLife_21 (by decide) ?_
      exact J_iret dX6_setLife_23 rfl ⟨rfl, Nat.le_refl _⟩ (hQ h _ s (by unfold f_life; rw [ci_f (fun q => q (nn_of hr1 c8)), ci_t ((bI_0 hr2).mp c18)]) Fr.rf hC)
  · refine J_iconst (x := -1) dX6_setLife_11 (by decide) ?_
    exact J_iret dX6_setLife_12 rfl ⟨rfl, Nat.le_refl _⟩ (hQ h _ s (by unfold f_life; rw [ci_t ((bI_0 hr1).mp c8)]) Fr.rf hC)
theorem lv_i1 {k : Nat} (hk : k < 64) : (nI k - 1).toInt = (k : Int) - 1 := by
  have := pk_sub_toInt (a := k) (b := 1) (by omega) (by omega)
  exact this
theorem s_X6_clear {m : Int32} (hC : CI h a s) (hQ : ∀ h' r s', (r, s') = f_clear m s → Fr a (a + 56) h h' → CI h' a s' → Q (some (.int r)) h') : MJ m_X6_clear 5 0 0 [.ref a, .int m] h Q := by
  have hn := hC.L.len
  refine MJ_of_J (L := [some (.ref a), some (.int m), none]) (by decide +kernel) rfl (Nat.le_of_ble_eq_true rfl) rfl ?_
  refine J_iload_n dX6_clear_0 rfl ?_
  refine J_callS (As := [_]) (rest := []) (M' := m_X6_isMoment) dX6_clear_1 ml_RX6_102 gm_X6_isMoment sm_yX6_isMoment rfl rfl (Nat.le_of_ble_eq_true rfl) (by decide) ⟨rfl, rfl, by decide, by decide⟩ (s_X6_isMoment (fun r1 hr1 => ?_))
  refine J_if_ne (tgt := 9) dX6_clear_4 (by decide) (fun c4 => ?_) (fun c4 => ?_)
  · obtain ⟨k, hk, rfl⟩ := nn_of hr1 c4
    refine J_aload_n dX6_clear_9 rfl ?_
    refine J_get (k := 0) dX6_clear_10 gc_6 fl_RX6_10 (by decide) hC.o hC.bo rfl ?_
    refine J_iload_n dX6_clear_13 rfl ?_
    refine J_callV (As := [_]) (rest := []) (M' := m_X4_livingAt) dX6_clear_14 ml_RX6_121 gm_X4_livingAt gv_X4_livingAt hC.L.o hC.L.b rfl rfl rfl (Nat.le_of_ble_eq_true rfl) (by decide) ⟨rfl, rfl, by decide, by decide⟩ (s_X4_livingAt hC.L (fun r2 hr2 => ?_))
    rw [nI_toInt (show k < 2 ^ 31 by omega)] at hr2
    have hcl : s.1.countP (lvB (k : Int)) ≤ s.1.length := List.countP_le_length
    subst hr2
    refine J_istore_n (L' := [_, _, _]) dX6_clear_17 (by decide) rfl ?_
    refine J_iload_n dX6_clear_18 rfl ?_
    refine J_if_ne (tgt := 25) dX6_clear_19 (by decide) (fun c19 => ?_) (fun c19 => ?_)
    · refine J_aload_n dX6_clear_25 rfl ?_
      refine J_get (k := 3) dX6_clear_26 gc_6 fl_RX6_26 (by decide) hC.o hC.bo rfl ?_
      refine J_aload_n dX6_clear_29 rfl ?_
      refine J_get (k := 0) dX6_clear_30 gc_6 fl_RX6_10 (by decide) hC.o hC.bo rfl ?_
      refine J_callV (As := [_]) (rest := []) (M' := m_X1_remember) dX6_clear_33 ml_RX6_73 gm_X1_remember gv_X1_remember hC.H.o hC.H.bo rfl rfl rfl (Nat.le_of_ble_eq_true rfl) (by decide) ⟨rfl, rfl, by decide, by decide⟩ (s_X1_remember hC.H hC.L (by omega) (fun h1 hF1 hH1 => ?_))
      have hC0 := hC
      replace hC := hC.hist hF1 hH1
      refine J_aload_n dX6_clear_36 rfl ?_
      refine J_get (k := 0) dX6_clear_37 gc_6 fl_RX6_10 (by decide) hC.o hC.bo rfl ?_
      refine J_iload_n dX6_clear_40 rfl ?_
      refine J_callV (As := [_]) (rest := []) (M' := m_X4_removeLivingAt) dX6_clear_41 ml_RX6_124 gm_X4_removeLivingAt gv_X4_removeLivingAt hC.L.o hC.L.b rfl rfl rfl (Nat.le_of_ble_eq_true rfl) (by decide) ⟨rfl, rfl, by decide, by decide⟩ (s_X4_removeLivingAt hC.L (fun h2 hF2 hL2 => ?_))
      rw [nI_toInt (show k < 2 ^ 31 by omega)] at hL2
      replace hC := hC.links hF2 hL2
      refine J_iload_n dX6_clear_44 rfl ?_
      exact J_iret dX6_clear_45 rfl ⟨rfl, Nat.le_refl _⟩ (hQ _ _ _ (by unfold f_clear; rw [ci_f (fun q => q (nn_of hr1 c4)), tN_n (by omega), ci_f (fun q => c19 (by rw [q]; rfl))]; rfl) ((hF1.mono (by omega) (by omega)).tr (hF2.mono (by omega) (by omega))) hC)
    · refine J_bipush (x := -5) dX6_clear_22 (by decide) ?_
      exact J_iret dX6_clear_24 rfl ⟨rfl, Nat.le_refl _⟩ (hQ h _ s (by unfold f_clear; rw [ci_f (fun q => q (nn_of hr1 c4)), tN_n (by omega), ci_t ((nI_eq (b := 0) (by omega) (by omega)).mp c19)]) Fr.rf hC)
  · refine J_iconst (x := -1) dX6_clear_7 (by decide) ?_
    exact J_iret dX6_clear_8 rfl ⟨rfl, Nat.le_refl _⟩ (hQ h _ s (by unfold f_clear; rw [ci_t ((bI_0 hr1).mp c4)]) Fr.rf hC)
theorem hs_split (hs : List (List Lk)) (h0 : hs ≠ []) : ∃ hs0 q, hs = hs0 ++ [q] ∧ hs.getLast? = some q ∧ hs.dropLast = hs0 ∧ hs.length = hs0.length + 1 := by
  rcases List.eq_nil_or_concat hs with h | ⟨l, b, h⟩
  · exact absurd h h0
  · refine ⟨l, b, by simpa using h, ?_, ?_, ?_⟩ <;> rw [h] <;> simp
theorem s_X6_undo (hC : CI h a s) (hQ : ∀ h' r s', (r, s') = f_undo s → Fr a (a + 56) h h' → CI h' a s' → Q (some (.int r)) h') : MJ m_X6_undo 5 0 0 [.ref a] h Q := by
  have hn := hC.L.len
  have hh := hC.H.1
  refine MJ_of_J (L := [some (.ref a)]) (by decide +kernel) rfl (Nat.le_of_ble_eq_true rfl) rfl ?_
  refine J_aload_n dX6_undo_0 rfl ?_
  refine J_get (k := 3) dX6_undo_1 gc_6 fl_RX6_26 (by decide) hC.o hC.bo rfl ?_
  refine J_callV (As := []) (rest := []) (M' := m_X1_size) dX6_undo_4 ml_RX6_137 gm_X1_size gv_X1_size hC.H.o hC.H.bo rfl rfl rfl (Nat.le_of_ble_eq_true rfl) (by decide) ⟨rfl, rfl, by decide, by decide⟩ (s_X1_size hC.H (fun r1 hr1 => ?_))
  subst hr1
  refine J_if_ne (tgt := 13) dX6_undo_7 (by decide) (fun c7 => ?_) (fun c7 => ?_)
  · obtain ⟨hs0, q, e1, e2, e3, e4⟩ := hs_split s.2.1 (fun z => c7 (by rw [z]; rfl))
    have hH := hC.H
    rw [e1] at hH
    refine J_aload_n dX6_undo_13 rfl ?_
    refine J_get (k := 3) dX6_undo_14 gc_6 fl_RX6_26 (by decide) hC.o hC.bo rfl ?_
    refine J_aload_n dX6_undo_17 rfl ?_
    refine J_get (k := 0) dX6_undo_18 gc_6 fl_RX6_10 (by decide) hC.o hC.bo rfl ?_
    refine J_callV (As := [_]) (rest := []) (M' := m_X1_goBack) dX6_undo_21 ml_RX6_138 gm_X1_goBack gv_X1_goBack hC.H.o hC.H.bo rfl rfl rfl (Nat.le_of_ble_eq_true rfl) (by decide) ⟨rfl, rfl, by decide, by decide⟩ (s_X1_goBack hH hC.L (by omega) (fun h1 h2 hF1 hH1 hF2 hL2 => ?_))
    replace hC := (hC.hist hF1 hH1).links hF2 hL2
    refine J_aload_n dX6_undo_24 rfl ?_
    refine J_get (k := 3) dX6_undo_25 gc_6 fl_RX6_26 (by decide) hC.o hC.bo rfl ?_
    refine J_callV (As := []) (rest := []) (M' := m_X1_size) dX6_undo_28 ml_RX6_137 gm_X1_size gv_X1_size hC.H.o hC.H.bo rfl rfl rfl (Nat.le_of_ble_eq_true rfl) (by decide) ⟨rfl, rfl, by decide, by decide⟩ (s_X1_size hC.H (fun r2 hr2 => ?_))
    subst hr2
    exact J_iret dX6_undo_31 rfl ⟨rfl, Nat.le_refl _⟩ (hQ _ _ _ (by unfold f_undo; rw [e2]; dsimp only; rw [e3, e4]; rfl) ((hF1.mono (by omega) (by omega)).tr (hF2.mono (by omega) (by omega))) hC)
  · refine J_bipush (x := -5) dX6_undo_10 (by decide) ?_
    exact J_iret dX6_undo_12 rfl ⟨rfl, Nat.le_refl _⟩ (hQ h _ s (by unfold f_undo; have c7 := (nI_eq (b := 0) (by omega) (by omega)).mp c7; rw [List.length_eq_zero_iff.mp c7]; rfl) Fr.rf hC)
theorem s_X6_keep (hC : CI h a s) (hQ : ∀ h' r s', (r, s') = f_keep s → Fr a (a + 56) h h' → CI h' a s' → Q (some (.int r)) h') : MJ m_X6_keep 4 0 0 [.ref a] h Q := by
  have hn := hC.L.len
  obtain ⟨sl, hS, hs0⟩ := hC.2.2.2.1
  refine MJ_of_J (L := [some (.ref a)]) (by decide +kernel) rfl (Nat.le_of_ble_eq_true rfl) rfl ?_
  refine J_aload_n dX6_keep_0 rfl ?_
  refine J_get (k := 1) dX6_keep_1 gc_6 fl_RX6_16 (by decide) hC.o hC.bo rfl ?_
  refine J_aload_n dX6_keep_4 rfl ?_
  refine J_get (k := 0) dX6_keep_5 gc_6 fl_RX6_10 (by decide) hC.o hC.bo rfl ?_
  refine J_callV (As := [_]) (rest := []) (M' := m_X4_take) dX6_keep_8 ml_RX6_141 gm_X4_take gv_X4_take hS.o hS.b rfl rfl rfl (Nat.le_of_ble_eq_true rfl) (by decide) ⟨rfl, rfl, by decide, by decide⟩ (s_X4_take hS hC.L (by omega) (fun h1 hF1 hS1 => ?_))
  have hC1 := hC.snap hF1 hS1
  have hO1 : h1.1 a = _ := (hF1.2 a (by omega)).trans hC.o
  have hB1 : 1 ≤ a ∧ a ≤ h1.2 := by rw [hF1.1]; exact hC.bo
  refine J_aload_n dX6_keep_11 rfl ?_
  refine J_iconst (x := 1) dX6_keep_12 (by decide) ?_
  refine J_put (k := 2) dX6_keep_13 gc_6 fl_RX6_19 (by decide) rfl hO1 hB1 (Nat.le_of_ble_eq_true rfl) (fun _ => ⟨rfl, rfl⟩) rfl ?_
  replace hC := hC1
  refine J_aload_n dX6_keep_16 rfl ?_
  refine J_get (k := 0) dX6_keep_17 gc_6 fl_RX6_10 (by decide) hC.o hC.bo rfl ?_
  refine J_callV (As := []) (rest := []) (M' := m_X4_size) dX6_keep_20 ml_RX6_81 gm_X4_size gv_X4_size hC.L.o hC.L.b rfl rfl rfl (Nat.le_of_ble_eq_true rfl) (by decide) ⟨rfl, rfl, by decide, by decide⟩ (s_X4_size hC.L (fun r5 hr5 => ?_))
  subst hr5
  exact J_iret dX6_keep_23 rfl ⟨rfl, Nat.le_refl _⟩ (hQ _ _ _ rfl ((hF1.mono (by omega) (by omega)).up (by omega) (by omega)) hC)
theorem s_X6_restore (hC : CI h a s) (hQ : ∀ h' r s', (r, s') = f_rest s → Fr a (a + 56) h h' → CI h' a s' → Q (some (.int r)) h') : MJ m_X6_restore 5 0 0 [.ref a] h Q := by
  have hn := hC.L.len
  obtain ⟨sl, hS, hs0⟩ := hC.2.2.2.1
  refine MJ_of_J (L := [some (.ref a)]) (by decide +kernel) rfl (Nat.le_of_ble_eq_true rfl) rfl ?_
  refine J_aload_n dX6_restore_0 rfl ?_
  refine J_get (k := 2) dX6_restore_1 gc_6 fl_RX6_19 (by decide) hC.o hC.bo rfl ?_
  refine J_if_ne (tgt := 10) dX6_restore_4 (by decide) (fun c4 => ?_) (fun c4 => ?_)
  · obtain ⟨q, hq⟩ : ∃ q, s.2.2.1 = some q := by
      cases z : s.2.2.1 with
      | none => exact absurd (by rw [z]; rfl) c4
      | some q => exact ⟨q, rfl⟩
    obtain rfl := hs0 q hq
    refine J_aload_n dX6_restore_10 rfl ?_
    refine J_get (k := 3) dX6_restore_11 gc_6 fl_RX6_26 (by decide) hC.o hC.bo rfl ?_
    refine J_aload_n dX6_restore_14 rfl ?_
    refine J_get (k := 0) dX6_restore_15 gc_6 fl_RX6_10 (by decide) hC.o hC.bo rfl ?_
    refine J_callV (As := [_]) (rest := []) (M' := m_X1_remember) dX6_restore_18 ml_RX6_73 gm_X1_remember gv_X1_remember hC.H.o hC.H.bo rfl rfl rfl (Nat.le_of_ble_eq_true rfl) (by decide) ⟨rfl, rfl, by decide, by decide⟩ (s_X1_remember hC.H hC.L (by omega) (fun h1 hF1 hH1 => ?_))
    have hC0 := hC
    replace hC := hC.hist hF1 hH1
    replace hS := hS.fr hF1 (by omega)
    refine J_aload_n dX6_restore_21 rfl ?_
    refine J_get (k := 0) dX6_restore_22 gc_6 fl_RX6_10 (by decide) hC.o hC.bo rfl ?_
    refine J_aload_n dX6_restore_25 rfl ?_
    refine J_get (k := 1) dX6_restore_26 gc_6 fl_RX6_16 (by decide) hC.o hC.bo rfl ?_
    refine J_callV (As := [_]) (rest := []) (M' := m_X4_take) dX6_restore_29 ml_RX6_141 gm_X4_take gv_X4_take hC.L.o hC.L.b rfl rfl rfl (Nat.le_of_ble_eq_true rfl) (by decide) ⟨rfl, rfl, by decide, by decide⟩ (s_X4_take hC.L hS (by omega) (fun h2 hF2 hL2 => ?_))
    replace hC := hC.links hF2 hL2
    refine J_aload_n dX6_restore_32 rfl ?_
    refine J_get (k := 0) dX6_restore_33 gc_6 fl_RX6_10 (by decide) hC.o hC.bo rfl ?_
    refine J_callV (As := []) (rest := []) (M' := m_X4_size) dX6_restore_36 ml_RX6_81 gm_X4_size gv_X4_size hC.L.o hC.L.b rfl rfl rfl (Nat.le_of_ble_eq_true rfl) (by decide) ⟨rfl, rfl, by decide, by decide⟩ (s_X4_size hC.L (fun r5 hr5 => ?_))
    subst hr5
    exact J_iret dX6_restore_39 rfl ⟨rfl, Nat.le_refl _⟩ (hQ _ _ (act s sl) (by unfold f_rest; rw [hq]) ((hF1.mono (by omega) (by omega)).tr (hF2.mono (by omega) (by omega))) hC)
  · refine J_bipush (x := -5) dX6_restore_7 (by decide) ?_
    exact J_iret dX6_restore_9 rfl ⟨rfl, Nat.le_refl _⟩ (hQ h _ s (by unfold f_rest; cases z : s.2.2.1 with | none => rfl | some q => (rw [z] at c4; exact absurd c4 (by show ¬ (1 : Int32) = 0; decide))) Fr.rf hC)
end SFace2
