section SFace4
variable {h h' : g_H} {a : Nat} {s : St} {Q : Option Value → g_H → Prop}
theorem l_X6_together {x y : Nat} {v : Int32} (hx : x < 16) (hy : y < 16) (K : ∀ h1 mn fi la ro lo bg, Fr a (a + 55) h h1 → CI h1 a s → tgN (fun m => CM s.1 m x y) 64 = (mn, fi, la, ro, lo, bg) → J m_X6_together 5 0 0 0 0 116 [some (.ref a), some (.int (nI x)), some (.int (nI y)), some (.int v), some (.int (nI mn)), some (.int fi), some (.int la), some (.int (nI ro)), some (.int (nI lo)), some (.int bg), some (.int (nI 64))] [] h1 Q) : ∀ (t m : Nat) (h1 : g_H) (mn : Nat) (fi la : Int32) (ro lo : Nat) (bg : Int32), 64 - m < t → m ≤ 64 → Fr a (a + 55) h h1 → CI h1 a s → tgN (fun m => CM s.1 m x y) m = (mn, fi, la, ro, lo, bg) → mn ≤ m ∧ ro ≤ m ∧ lo ≤ m → J m_X6_together 5 0 0 0 0 40 [some (.ref a), some (.int (nI x)), some (.int (nI y)), some (.int v), some (.int (nI mn)), some (.int fi), some (.int la), some (.int (nI ro)), some (.int (nI lo)), some (.int bg), some (.int (nI m))] [] h1 Q := by
  intro t
  induction t with
  | zero => intro m h1 mn fi la ro lo bg ht; omega
  | succ t ih =>
    intro m h1 mn fi la ro lo bg ht hm hF hC hT hb
    obtain ⟨hb1, hb2, hb3⟩ := hb
    have hst : tgN (fun m => CM s.1 m x y) (m + 1) = tgS (fun m => CM s.1 m x y) m (tgN (fun m => CM s.1 m x y) m) := rfl
    rw [hT] at hst
    refine J_iload dX6_together_40 rfl ?_
    refine J_bipush (x := 64) dX6_together_42 (by decide) ?_
    refine J_icmp_ge (tgt := 116) dX6_together_44 (by decide) (fun c44 => ?_) (fun c44 => ?_)
    · have c44 : 64 ≤ m := (nI_leI (a := 64) (b := m) (by omega) (by omega)).mp c44
      obtain rfl : m = 64 := by omega
      exact K h1 _ _ _ _ _ _ hF hC hT
    · have c44 : m < 64 := Nat.not_le.mp (fun q => c44 ((nI_leI (a := 64) (b := m) (by omega) (by omega)).mpr q))
      refine J_aload_n dX6_together_47 rfl ?_
      refine J_get (k := 6) dX6_together_48 gc_6 fl_RX6_43 (by decide) hC.o hC.bo rfl ?_
      refine J_aload_n dX6_together_51 rfl ?_
      refine J_get (k := 0) dX6_together_52 gc_6 fl_RX6_10 (by decide) hC.o hC.bo rfl ?_
      refine J_iload dX6_together_55 rfl ?_
      refine J_iload_n dX6_together_57 rfl ?_
      refine J_iload_n dX6_together_58 rfl ?_
      refine J_callV (As := [_, _, _, _]) (rest := []) (M' := m_X5_areJoinedAt) dX6_together_59 ml_RX6_144 gm_X5_areJoinedAt gv_X5_areJoinedAt hC.M.o hC.M.bo rfl rfl rfl (Nat.le_of_ble_eq_true rfl) (by decide) ⟨rfl, rfl, by decide, by decide⟩ (s_X5_areJoinedAt c44 hC.M hC.L (by omega) hx hy (fun r5 h2 hr5 hF1 hM1 => ?_))
      have hC2 := hC.mom hF1 hM1
      have hF2 := hF.tr (hF1.mono (by omega) (by omega))
      refine J_if_eq (tgt := 87) dX6_together_62 (by decide) (fun c62 => ?_) (fun c62 => ?_)
      · have hp := (bI_0 hr5).mp c62
        refine J_iconst (x := 0) dX6_together_87 (by decide) ?_
        refine J_istore (L' := [_, _, _, _, _, _, _, _, _, _, _]) dX6_together_88 (by decide) rfl ?_
        refine J_iload dX6_together_90 rfl ?_
        refine J_iload dX6_together_92 rfl ?_
        refine J_icmp_le (tgt := 110) dX6_together_94 (by decide) (fun c94 => ?_) (fun c94 => ?_)
        · refine J_iinc (L' := [_, _, _, _, _, _, _, _, _, _, _]) dX6_together_110 rfl (nI_i1 m) (by decide) rfl ?_
          refine J_goto (tgt := 40) dX6_together_113 (by decide) ?_
          have hq : ¬ (CM s.1 m x y ∧ mn = 0) := fun q => hp q.1
          have hs : ¬ lo < 0 := Nat.not_lt_zero _
          have hst2 := hst
          unfold tgS at hst2
          simp only [ci_f hp, ci_f hq, ci_f hs] at hst2
          exact ih (m + 1) h2 mn fi la 0 lo bg (by omega) (by omega) hF2 hC2 hst2 (by refine ⟨?_, ?_, ?_⟩ <;> omega)
        · refine J_iload dX6_together_97 rfl ?_
          refine J_istore (L' := [_, _, _, _, _, _, _, _, _, _, _]) dX6_together_99 (by decide) rfl ?_
          refine J_iload dX6_together_101 rfl ?_
          refine J_iload dX6_together_103 rfl ?_
          refine J_isub dX6_together_105 ?_
          refine J_iconst (x := 1) dX6_together_106 (by decide) ?_
          refine J_iadd dX6_together_107 ?_
          refine J_istore (L' := [_, _, _, _, _, _, _, _, _, _, _]) dX6_together_108 (by decide) rfl ?_
          refine J_iinc (L' := [_, _, _, _, _, _, _, _, _, _, _]) dX6_together_110 rfl (nI_i1 m) (by decide) rfl ?_
          refine J_goto (tgt := 40) dX6_together_113 (by decide) ?_
          exact absurd ((nI_leI (a := 0) (b := lo) (by omega) (by omega)).mpr (Nat.zero_le _)) c94
      · have hp := nn_of hr5 c62
        refine J_iload dX6_together_65 rfl ?_
        refine J_if_ne (tgt := 74) dX6_together_67 (by decide) (fun c67 => ?_) (fun c67 => ?_)
        · refine J_iinc (L' := [_, _, _, _, _, _, _, _, _, _, _]) dX6_together_74 rfl (nI_i1 mn) (by decide) rfl ?_
          refine J_iload dX6_together_77 rfl ?_
          refine J_istore (L' := [_, _, _, _, _, _, _, _, _, _, _]) dX6_together_79 (by decide) rfl ?_
          refine J_iinc (L' := [_, _, _, _, _, _, _, _, _, _, _]) dX6_together_81 rfl (nI_i1 ro) (by decide) rfl ?_
          refine J_goto (tgt := 90) dX6_together_84 (by decide) ?_
          refine J_iload dX6_together_90 rfl ?_
          refine J_iload dX6_together_92 rfl ?_
          refine J_icmp_le (tgt := 110) dX6_together_94 (by decide) (fun c94 => ?_) (fun c94 => ?_)
          · refine J_iinc (L' := [_, _, _, _, _, _, _, _, _, _, _]) dX6_together_110 rfl (nI_i1 m) (by decide) rfl ?_
            refine J_goto (tgt := 40) dX6_together_113 (by decide) ?_
            have hq : ¬ (CM s.1 m x y ∧ mn = 0) := fun q => c67 (by rw [q.2]; rfl)
            have hs : ¬ lo < ro + 1 := Nat.not_lt.mpr ((nI_leI (by omega) (by omega)).mp c94)
            have hst2 := hst
            unfold tgS at hst2
            simp only [ci_t hp, ci_f hq, ci_f hs] at hst2
            exact ih (m + 1) h2 (mn + 1) fi (nI m) (ro + 1) lo bg (by omega) (by omega) hF2 hC2 hst2 (by refine ⟨?_, ?_, ?_⟩ <;> omega)
          · refine J_iload dX6_together_97 rfl ?_
            refine J_istore (L' := [_, _, _, _, _, _, _, _, _, _, _]) dX6_together_99 (by decide) rfl ?_
            refine J_iload dX6_together_101 rfl ?_
            refine J_iload dX6_together_103 rfl ?_
            refine J_isub dX6_together_105 ?_
            refine J_iconst (x := 1) dX6_together_106 (by decide) ?_
            refine J_iadd dX6_together_107 ?_
            refine J_istore (L' := [_, _, _, _, _, _, _, _, _, _, _]) dX6_together_108 (by decide) rfl ?_
            refine J_iinc (L' := [_, _, _, _, _, _, _, _, _, _, _]) dX6_together_110 rfl (nI_i1 m) (by decide) rfl ?_
            refine J_goto (tgt := 40) dX6_together_113 (by decide) ?_
            have hq : ¬ (CM s.1 m x y ∧ mn = 0) := fun q => c67 (by rw [q.2]; rfl)
            have hs : lo < ro + 1 := Nat.not_le.mp (fun q => c94 ((nI_leI (by omega) (by omega)).mpr q))
            have hst2 := hst
            unfold tgS at hst2
            simp only [ci_t hp, ci_f hq, ci_t hs] at hst2
            exact ih (m + 1) h2 (mn + 1) fi (nI m) (ro + 1) (ro + 1) (nI m - nI (ro + 1) + 1) (by omega) (by omega) hF2 hC2 hst2 (by refine ⟨?_, ?_, ?_⟩ <;> omega)
        · refine J_iload dX6_together_70 rfl ?_
          refine J_istore (L' := [_, _, _, _, _, _, _, _, _, _, _]) dX6_together_72 (by decide) rfl ?_
          refine J_iinc (L' := [_, _, _, _, _, _, _, _, _, _, _]) dX6_together_74 rfl (nI_i1 mn) (by decide) rfl ?_
          refine J_iload dX6_together_77 rfl ?_
          refine J_istore (L' := [_, _, _, _, _, _, _, _, _, _, _]) dX6_together_79 (by decide) rfl ?_
          refine J_iinc (L' := [_, _, _, _, _, _, _, _, _, _, _]) dX6_together_81 rfl (nI_i1 ro) (by decide) rfl ?_
          refine J_goto (tgt := 90) dX6_together_84 (by decide) ?_
          refine J_iload dX6_together_90 rfl ?_
          refine J_iload dX6_together_92 rfl ?_
          refine J_icmp_le (tgt := 110) dX6_together_94 (by decide) (fun c94 => ?_) (fun c94 => ?_)
          · refine J_iinc (L' := [_, _, _, _, _, _, _, _, _, _, _]) dX6_together_110 rfl (nI_i1 m) (by decide) rfl ?_
            refine J_goto (tgt := 40) dX6_together_113 (by decide) ?_
            have hq : CM s.1 m x y ∧ mn = 0 := ⟨hp, (nI_eq (b := 0) (by omega) (by omega)).mp c67⟩
            have hs : ¬ lo < ro + 1 := Nat.not_lt.mpr ((nI_leI (by omega) (by omega)).mp c94)
            have hst2 := hst
            unfold tgS at hst2
            simp only [ci_t hp, ci_t hq, ci_f hs] at hst2
            exact ih (m + 1) h2 (mn + 1) (nI m) (nI m) (ro + 1) lo bg (by omega) (by omega) hF2 hC2 hst2 (by refine ⟨?_, ?_, ?_⟩ <;> omega)
          · refine J_iload dX6_together_97 rfl ?_
            refine J_istore (L' := [_, _, _, _, _, _, _, _, _, _, _]) dX6_together_99 (by decide) rfl ?_
            refine J_iload dX6_together_101 rfl ?_
            refine J_iload dX6_together_103 rfl ?_
            refine J_isub dX6_together_105 ?_
            refine J_iconst (x := 1) dX6_together_106 (by decide) ?_
            refine J_iadd dX6_together_107 ?_
            refine J_istore (L' := [_, _, _, _, _, _, _, _, _, _, _]) dX6_together_108 (by decide) rfl ?_
            refine J_iinc (L' := [_, _, _, _, _, _, _, _, _, _, _]) dX6_together_110 rfl (nI_i1 m) (by decide) rfl ?_
            refine J_goto (tgt := 40) dX6_together_113 (by decide) ?_
            have hq : CM s.1 m x y ∧ mn = 0 := ⟨hp, (nI_eq (b := 0) (by omega) (by omega)).mp c67⟩
            have hs : lo < ro + 1 := Nat.not_le.mp (fun q => c94 ((nI_leI (by omega) (by omega)).mpr q))
            have hst2 := hst
            unfold tgS at hst2
            simp only [ci_t hp, ci_t hq, ci_t hs] at hst2
            exact ih (m + 1) h2 (mn + 1) (nI m) (nI m) (ro + 1) (ro + 1) (nI m - nI (ro + 1) + 1) (by omega) (by omega) hF2 hC2 hst2 (by refine ⟨?_, ?_, ?_⟩ <;> omega)
theorem s_X6_together {x y v : Int32} (hC : CI h a s) (hQ : ∀ h' r, r = f_tog x y v s → Fr a (a + 55) h h' → CI h' a s → Q (some (.int r)) h') : MJ m_X6_together 5 0 0 [.ref a, .int x, .int y, .int v] h Q := by
  have hn := hC.L.len
  refine MJ_of_J (L := [some (.ref a), some (.int x), some (.int y), some (.int v), none, none, none, none, none, none, none]) (by decide +kernel) rfl (Nat.le_of_ble_eq_true rfl) rfl ?_
  refine J_iload_n dX6_together_0 rfl ?_
  refine J_callS (As := [_]) (rest := []) (M' := m_X6_isPoint) dX6_together_1 ml_RX6_54 gm_X6_isPoint sm_yX6_isPoint rfl rfl (Nat.le_of_ble_eq_true rfl) (by decide) ⟨rfl, rfl, by decide, by decide⟩ (s_X6_isPoint (fun r1 hr1 => ?_))
  refine J_if_eq (tgt := 14) dX6_together_4 (by decide) (fun c4 => ?_) (fun c4 => ?_)
  · refine J_iconst (x := -1) dX6_together_14 (by decide) ?_
    exact J_iret dX6_together_15 rfl ⟨rfl, Nat.le_refl _⟩ (hQ h _ (by unfold f_tog; rw [ci_t (fun q => (bI_0 hr1).mp c4 q.1)]) Fr.rf hC)
  · refine J_iload_n dX6_together_7 rfl ?_
    refine J_callS (As := [_]) (rest := []) (M' := m_X6_isPoint) dX6_together_8 ml_RX6_54 gm_X6_isPoint sm_yX6_isPoint rfl rfl (Nat.le_of_ble_eq_true rfl) (by decide) ⟨rfl, rfl, by decide, by decide⟩ (s_X6_isPoint (fun r2 hr2 => ?_))
    refine J_if_ne (tgt := 16) dX6_together_11 (by decide) (fun c11 => ?_) (fun c11 => ?_)
    · obtain ⟨i, hi, rfl⟩ := nn_of hr1 c4
      obtain ⟨j, hj, rfl⟩ := nn_of hr2 c11
      refine J_iconst (x := 0) dX6_together_16 (by decide) ?_
      refine J_istore (L' := [_, _, _, _, _, _, _, _, _, _, _]) dX6_together_17 (by decide) rfl ?_
      refine J_bipush (x := -5) dX6_together_19 (by decide) ?_
      refine J_istore (L' := [_, _, _, _, _, _, _, _, _, _, _]) dX6_together_21 (by decide) rfl ?_
      refine J_bipush (x := -5) dX6_together_23 (by decide) ?_
      refine J_istore (L' := [_, _, _, _, _, _, _, _, _, _, _]) dX6_together_25 (by decide) rfl ?_
      refine J_iconst (x := 0) dX6_together_27 (by decide) ?_
      refine J_istore (L' := [_, _, _, _, _, _, _, _, _, _, _]) dX6_together_28 (by decide) rfl ?_
      refine J_iconst (x := 0) dX6_together_30 (by decide) ?_
      refine J_istore (L' := [_, _, _, _, _, _, _, _, _, _, _]) dX6_together_31 (by decide) rfl ?_
      refine J_bipush (x := -5) dX6_together_33 (by decide) ?_
      refine J_istore (L' := [_, _, _, _, _, _, _, _, _, _, _]) dX6_together_35 (by decide) rfl ?_
      refine J_iconst (x := 0) dX6_together_37 (by decide) ?_
      refine J_istore (L' := [_, _, _, _, _, _, _, _, _, _, _]) dX6_together_38 (by decide) rfl ?_
      refine l_X6_together hi hj (fun h1 mn fi la ro lo bg hF1 hC1 hT => ?_) 65 0 h 0 (-5) (-5) 0 0 (-5) (by omega) (by omega) Fr.rf hC rfl (by omega)
      refine J_iload_n dX6_together_116 rfl ?_
      rcases sw_of v 5 (by decide) with hsw | ⟨jsw, hjsw, rfl⟩
      · refine J_tsOut (tgt := 167) dX6_together_117 (by rcases hsw with q | q; exact Or.inl q; exact Or.inr (by omega)) (by decide) ?_
        refine J_bipush (x := -2) dX6_together_167 (by decide) ?_
        exact J_iret dX6_together_169 rfl ⟨rfl, Nat.le_refl _⟩ (hQ h1 _ (by unfold f_tog; rw [ci_f (fun q => q ⟨nn_of hr1 c4, nn_of hr2 c11⟩), tN_n (by omega), tN_n (by omega)]; unfold tgL; rw [hT]; rw [sel_o (Nat.le_of_ble_eq_true rfl) hsw]) hF1 hC1)
      · rcases (show jsw = 0 ∨ jsw = 1 ∨ jsw = 2 ∨ jsw = 3 ∨ jsw = 4 by omega) with rfl | rfl | rfl | rfl | rfl
        · refine J_tsIn (off := 35) (tgt := 152) dX6_together_117 (by decide) (by decide) (by decide) (by decide) ?_
          refine J_iload dX6_together_152 rfl ?_
          exact J_iret dX6_together_154 rfl ⟨rfl, Nat.le_refl _⟩ (hQ h1 _ (by unfold f_tog; rw [ci_f (fun q => q ⟨nn_of hr1 c4, nn_of hr2 c11⟩), tN_n (by omega), tN_n (by omega)]; unfold tgL; rw [hT]; exact sel_e (j := 0) (by rfl) (by rfl)) hF1 hC1)
        · refine J_tsIn (off := 38) (tgt := 155) dX6_together_117 (by decide) (by decide) (by decide) (by decide) ?_
          refine J_iload dX6_together_155 rfl ?_
          exact J_iret dX6_together_157 rfl ⟨rfl, Nat.le_refl _⟩ (hQ h1 _ (by unfold f_tog; rw [ci_f (fun q => q ⟨nn_of hr1 c4, nn_of hr2 c11⟩), tN_n (by omega), tN_n (by omega)]; unfold tgL; rw [hT]; exact sel_e (j := 1) (by rfl) (by rfl)) hF1 hC1)
        · refine J_tsIn (off := 41) (tgt := 158) dX6_together_117 (by decide) (by decide) (by decide) (by decide) ?_
          refine J_iload dX6_together_158 rfl ?_
          exact J_iret dX6_together_160 rfl ⟨rfl, Nat.le_refl _⟩ (hQ h1 _ (by unfold f_tog; rw [ci_f (fun q => q ⟨nn_of hr1 c4, nn_of hr2 c11⟩), tN_n (by omega), tN_n (by omega)]; unfold tgL; rw [hT]; exact sel_e (j := 2) (by rfl) (by rfl)) hF1 hC1)
        · refine J_tsIn (off := 44) (tgt := 161) dX6_together_117 (by decide) (by decide) (by decide) (by decide) ?_
          refine J_iload dX6_together_161 rfl ?_
          exact J_iret dX6_together_163 rfl ⟨rfl, Nat.le_refl _⟩ (hQ h1 _ (by unfold f_tog; rw [ci_f (fun q => q ⟨nn_of hr1 c4, nn_of hr2 c11⟩), tN_n (by omega), tN_n (by omega)]; unfold tgL; rw [hT]; exact sel_e (j := 3) (by rfl) (by rfl)) hF1 hC1)
        · refine J_tsIn (off := 47) (tgt := 164) dX6_together_117 (by decide) (by decide) (by decide) (by decide) ?_
          refine J_iload dX6_together_164 rfl ?_
          exact J_iret dX6_together_166 rfl ⟨rfl, Nat.le_refl _⟩ (hQ h1 _ (by unfold f_tog; rw [ci_f (fun q => q ⟨nn_of hr1 c4, nn_of hr2 c11⟩), tN_n (by omega), tN_n (by omega)]; unfold tgL; rw [hT]; exact sel_e (j := 4) (by rfl) (by rfl)) hF1 hC1)
    · refine J_iconst (x := -1) dX6_together_14 (by decide) ?_
      exact J_iret dX6_together_15 rfl ⟨rfl, Nat.le_refl _⟩ (hQ h _ (by unfold f_tog; rw [ci_t (fun q => (bI_0 hr2).mp c11 q.2)]) Fr.rf hC)
end SFace4
