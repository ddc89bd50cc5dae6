/-! the law: what one object tells agrees -/
theorem i_as (a b : Int32) : a + (b - a) = b := by
  rw [Int32.sub_eq_add_neg, Int32.add_comm b, ← Int32.add_assoc, Int32.add_right_neg, Int32.zero_add]
theorem m5_ne {k : Nat} (hk : k < 64) : ¬ (-5 : Int32) = nI k := by
  have h : ∀ k, k < 64 → ¬ (-5 : Int32) = nI k := by decide +kernel
  exact h k hk
section IsWell
variable {h : g_H} {Q : Option Value → g_H → Prop} {x : Int32} {s s2 : St}
theorem k806_L_isWell {w13 : Int32} {w6 w7 w8 w9 w11 w12 : Int32} {m a b : Nat} (hm : m < 64) (ha : a < 16) (hb : b < 16) (hQ : ∀ h', W3 h' s s2 → Q (some (.int 1)) h') (hW : W3 h s s2) : J m_L_isWell 7 0 0 0 0 806 [some (.ref 1), some (.int x), some (.int (nI m)), some (.int (nI a)), some (.int (nI b)), some (.int (nI s.1.length)), some (.int w6), some (.int w7), some (.int w8), some (.int w9), some (.int 1), some (.int w11), some (.int w12), some (.int w13)] [] h Q := by
  have hO := hW.hO
  have h4 := hW.h4
  have g1 : pts s.1 m ≤ maxN (pts s.1) 64 := maxN_ge hm
  have g2 : minN (pts s.1) 64 ≤ pts s.1 m := minN_at hm
  have g3 : maxN (pts s.1) 64 ≤ 16 := maxN_lub (fun k _ => nfst_le _ _)
  have g4 : pts s.1 m < 2 ^ 31 := Nat.lt_of_le_of_lt (Nat.le_trans g1 g3) (by decide)
  have g5 : ¬ nI (pts s.1 m) < nI (minN (pts s.1) 64) := nI_nlt g2 g4
  refine J_aload_n dL_isWell_806 rfl ?_
  refine J_iload_n dL_isWell_807 rfl ?_
  refine J_iconst (x := 1) dL_isWell_808 (by decide) ?_
  refine J_callV (As := [_, _]) (rest := []) (M' := m_X6_moment) dL_isWell_809 ml_R_law_32 gm_X6_moment gv_X6_moment hW.1.o hW.b1 rfl rfl rfl (Nat.le_of_ble_eq_true rfl) (by decide) ⟨rfl, rfl, by decide, by decide⟩ (q1_moment hW (fun h1 hW1 => ?_))
  replace hW := hW1
  rw [v_m1 hm]
  refine J_aload_n dL_isWell_812 rfl ?_
  refine J_iconst (x := 5) dL_isWell_813 (by decide) ?_
  refine J_callV (As := [_]) (rest := [_]) (M' := m_X6_count) dL_isWell_814 ml_R_law_9 gm_X6_count gv_X6_count hW.1.o hW.b1 rfl rfl rfl (Nat.le_of_ble_eq_true rfl) (by decide) ⟨rfl, rfl, by decide, by decide⟩ (q1_count hW (fun h1 hW1 => ?_))
  replace hW := hW1
  rw [v_c5]
  refine J_icmp_gt (tgt := 839) dL_isWell_817 (by decide) (fun c817 => absurd c817 (nI_nlt (g1) (by omega))) (fun c817 => ?_)
  refine J_aload_n dL_isWell_820 rfl ?_
  refine J_iload_n dL_isWell_821 rfl ?_
  refine J_iconst (x := 1) dL_isWell_822 (by decide) ?_
  refine J_callV (As := [_, _]) (rest := []) (M' := m_X6_moment) dL_isWell_823 ml_R_law_32 gm_X6_moment gv_X6_moment hW.1.o hW.b1 rfl rfl rfl (Nat.le_of_ble_eq_true rfl) (by decide) ⟨rfl, rfl, by decide, by decide⟩ (q1_moment hW (fun h1 hW1 => ?_))
  replace hW := hW1
  rw [v_m1 hm]
  refine J_aload_n dL_isWell_826 rfl ?_
  refine J_bipush (x := 6) dL_isWell_827 (by decide) ?_
  refine J_callV (As := [_]) (rest := [_]) (M' := m_X6_count) dL_isWell_829 ml_R_law_9 gm_X6_count gv_X6_count hW.1.o hW.b1 rfl rfl rfl (Nat.le_of_ble_eq_true rfl) (by decide) ⟨rfl, rfl, by decide, by decide⟩ (q1_count hW (fun h1 hW1 => ?_))
  replace hW := hW1
  rw [v_c6]
  refine J_icmp_lt (tgt := 839) dL_isWell_832 (by decide) (fun c832 => absurd c832 g5) (fun c832 => ?_)
  refine J_iconst (x := 1) dL_isWell_835 (by decide) ?_
  refine J_goto (tgt := 840) dL_isWell_836 (by decide) ?_
  exact J_zret dL_isWell_840 rfl (by first | exact Or.inl rfl | exact Or.inr rfl) ⟨rfl, Nat.le_refl _⟩ (hQ _ hW)
theorem k729_L_isWell {w6 w7 w8 w9 w11 w12 : Int32} {m a b : Nat} (hm : m < 64) (ha : a < 16) (hb : b < 16) (hQ : ∀ h', W3 h' s s2 → Q (some (.int 1)) h') (hW : W3 h s s2) : J m_L_isWell 7 0 0 0 0 729 [some (.ref 1), some (.int x), some (.int (nI m)), some (.int (nI a)), some (.int (nI b)), some (.int (nI s.1.length)), some (.int w6), some (.int w7), some (.int w8), some (.int w9), some (.int 1), some (.int w11), some (.int w12), none] [] h Q := by
  have hO := hW.hO
  have h4 := hW.h4
  have sp := fsO_spec (OM s.1) (64 - m) m
  rw [show m + (64 - m) = 64 by omega] at sp
  refine J_aload_n dL_isWell_729 rfl ?_
  refine J_iload_n dL_isWell_730 rfl ?_
  refine J_callV (As := [_]) (rest := []) (M' := m_X6_odd) dL_isWell_731 ml_R_law_69 gm_X6_odd gv_X6_odd hW.1.o hW.b1 rfl rfl rfl (Nat.le_of_ble_eq_true rfl) (by decide) ⟨rfl, rfl, by decide, by decide⟩ (q1_odd hW (fun h1 hW1 => ?_))
  replace hW := hW1
  rw [v_o hm]
  refine J_istore (L' := [_, _, _, _, _, _, _, _, _, _, _, _, _, _]) dL_isWell_734 (by decide) rfl ?_
  refine J_iload dL_isWell_736 rfl ?_
  refine J_if_eq (tgt := 839) dL_isWell_738 (by decide) (fun c738 => absurd c738 (by decide)) (fun c738 => ?_)
  refine J_iload dL_isWell_741 rfl ?_
  refine J_bipush (x := -5) dL_isWell_743 (by decide) ?_
  refine J_icmp_ne (tgt := 760) dL_isWell_745 (by decide) (fun c745 => ?_) (fun c745 => ?_)
  · obtain ⟨k, z1, z2, z3, z4, z5⟩ : ∃ k, m ≤ k ∧ k < 64 ∧ fsO (OM s.1) (64 - m) m = nI k ∧ OM s.1 k ∧ ∀ j, m ≤ j → j < k → ¬ OM s.1 j := by
      rcases sp with ⟨z, -⟩ | q
      · exact absurd z c745
      · exact q
    rw [z3]
    refine J_iload dL_isWell_760 rfl ?_
    refine J_iload_n dL_isWell_762 rfl ?_
    refine J_icmp_lt (tgt := 839) dL_isWell_763 (by decide) (fun c763 => absurd c763 (nI_nlt (z1) (by omega))) (fun c763 => ?_)
    refine J_aload_n dL_isWell_766 rfl ?_
    refine J_iload dL_isWell_767 rfl ?_
    refine J_iconst (x := 2) dL_isWell_769 (by decide) ?_
    refine J_callV (As := [_, _]) (rest := []) (M' := m_X6_moment) dL_isWell_770 ml_R_law_32 gm_X6_moment gv_X6_moment hW.1.o hW.b1 rfl rfl rfl (Nat.le_of_ble_eq_true rfl) (by decide) ⟨rfl, rfl, by decide, by decide⟩ (q1_moment hW (fun h1 hW1 => ?_))
    replace hW := hW1
    rw [v_m2 z2, bI_t z4]
    refine J_iconst (x := 1) dL_isWell_773 (by decide) ?_
    refine J_icmp_ne (tgt := 839) dL_isWell_774 (by decide) (fun c774 => absurd rfl c774) (fun c774 => ?_)
    refine J_iload dL_isWell_777 rfl ?_
    refine J_iload_n dL_isWell_779 rfl ?_
    refine J_icmp_ne (tgt := 787) dL_isWell_780 (by decide) (fun c780 => ?_) (fun c780 => ?_)
    · refine J_iconst (x := 0) dL_isWell_787 (by decide) ?_
      have hno : ¬ OM s.1 m := z5 m (Nat.le_refl _) (by
        rcases Nat.lt_or_ge m k with w | w
        · exact w
        · exact absurd (by rw [show k = m by omega]) c780)
      refine J_aload_n dL_isWell_788 rfl ?_
      refine J_iload_n dL_isWell_789 rfl ?_
      refine J_iconst (x := 2) dL_isWell_790 (by decide) ?_
      refine J_callV (As := [_, _]) (rest := [_]) (M' := m_X6_moment) dL_isWell_791 ml_R_law_32 gm_X6_moment gv_X6_moment hW.1.o hW.b1 rfl rfl rfl (Nat.le_of_ble_eq_true rfl) (by decide) ⟨rfl, rfl, by decide, by decide⟩ (q1_moment hW (fun h1 hW1 => ?_))
      replace hW := hW1
      rw [v_m2 hm, bI_f hno]
      refine J_iconst (x := 1) dL_isWell_794 (by decide) ?_
      refine J_icmp_ne (tgt := 802) dL_isWell_795 (by decide) (fun c795 => ?_) (fun c795 => absurd c795 (by decide))
      refine J_iconst (x := 0) dL_isWell_802 (by decide) ?_
      refine J_icmp_ne (tgt := 839) dL_isWell_803 (by decide) (fun c803 => absurd rfl c803) (fun c803 => ?_)
      exact k806_L_isWell hm ha hb hQ hW
    · refine J_iconst (x := 1) dL_isWell_783 (by decide) ?_
      refine J_goto (tgt := 788) dL_isWell_784 (by decide) ?_
      have hyes : OM s.1 m := by
        rw [← (nI_eq (by omega) (by omega)).mp c780]; exact z4
      refine J_aload_n dL_isWell_788 rfl ?_
      refine J_iload_n dL_isWell_789 rfl ?_
      refine J_iconst (x := 2) dL_isWell_790 (by decide) ?_
      refine J_callV (As := [_, _]) (rest := [_]) (M' := m_X6_moment) dL_isWell_791 ml_R_law_32 gm_X6_moment gv_X6_moment hW.1.o hW.b1 rfl rfl rfl (Nat.le_of_ble_eq_true rfl) (by decide) ⟨rfl, rfl, by decide, by decide⟩ (q1_moment hW (fun h1 hW1 => ?_))
      replace hW := hW1
      rw [v_m2 hm, bI_t hyes]
      refine J_iconst (x := 1) dL_isWell_794 (by decide) ?_
      refine J_icmp_ne (tgt := 802) dL_isWell_795 (by decide) (fun c795 => absurd rfl c795) (fun c795 => ?_)
      refine J_iconst (x := 1) dL_isWell_798 (by decide) ?_
      refine J_goto (tgt := 803) dL_isWell_799 (by decide) ?_
      refine J_icmp_ne (tgt := 839) dL_isWell_803 (by decide) (fun c803 => absurd rfl c803) (fun c803 => ?_)
      exact k806_L_isWell hm ha hb hQ hW
  · refine J_aload_n dL_isWell_748 rfl ?_
    refine J_iload_n dL_isWell_749 rfl ?_
    refine J_iconst (x := 2) dL_isWell_750 (by decide) ?_
    refine J_callV (As := [_, _]) (rest := []) (M' := m_X6_moment) dL_isWell_751 ml_R_law_32 gm_X6_moment gv_X6_moment hW.1.o hW.b1 rfl rfl rfl (Nat.le_of_ble_eq_true rfl) (by decide) ⟨rfl, rfl, by decide, by decide⟩ (q1_moment hW (fun h1 hW1 => ?_))
    replace hW := hW1
    rw [v_m2 hm, bI_f (by rcases sp with ⟨-, z⟩ | ⟨k, z1, z2, z3, -⟩; exact z m (Nat.le_refl _) hm; exact absurd (c745.symm.trans z3) (m5_ne z2))]
    refine J_if_ne (tgt := 839) dL_isWell_754 (by decide) (fun c754 => absurd rfl c754) (fun c754 => ?_)
    refine J_goto (tgt := 806) dL_isWell_757 (by decide) ?_
    exact k806_L_isWell hm ha hb hQ hW
theorem k619_L_isWell {w6 w7 w8 w9 w11 : Int32} {m a b : Nat} (hm : m < 64) (ha : a < 16) (hb : b < 16) (hQ : ∀ h', W3 h' s s2 → Q (some (.int 1)) h') (hW : W3 h s s2) : J m_L_isWell 7 0 0 0 0 619 [some (.ref 1), some (.int x), some (.int (nI m)), some (.int (nI a)), some (.int (nI b)), some (.int (nI s.1.length)), some (.int w6), some (.int w7), some (.int w8), some (.int w9), some (.int 1), some (.int w11), none, none] [] h Q := by
  have hO := hW.hO
  have h4 := hW.h4
  obtain ⟨a1, a2, -, a6, a7, -, a9⟩ := TI_all (fun m => CM s.1 m a b) 64 (Nat.le_refl _)
  have hlo : (tgN (fun m => CM s.1 m a b) 64).1 ≤ 64 := by rw [a1]; exact Nat.le_trans (sumN_le (b := 1) (fun _ => oneI_le _) 64) (Nat.le_of_eq (Nat.one_mul 64))
  have t0 := v_t0 (s := s) ha hb
  have t3 := v_t3 (s := s) ha hb
  have t4 := v_t4 (s := s) ha hb
  generalize tgN (fun m => CM s.1 m a b) 64 = T at *
  refine J_aload_n dL_isWell_619 rfl ?_
  refine J_iload_n dL_isWell_620 rfl ?_
  refine J_iload dL_isWell_621 rfl ?_
  refine J_iconst (x := 3) dL_isWell_623 (by decide) ?_
  refine J_callV (As := [_, _, _]) (rest := []) (M' := m_X6_together) dL_isWell_624 ml_R_law_57 gm_X6_together gv_X6_together hW.1.o hW.b1 rfl rfl rfl (Nat.le_of_ble_eq_true rfl) (by decide) ⟨rfl, rfl, by decide, by decide⟩ (q1_together hW (fun h1 hW1 => ?_))
  replace hW := hW1
  rw [t3]
  refine J_istore (L' := [_, _, _, _, _, _, _, _, _, _, _, _, _, _]) dL_isWell_627 (by decide) rfl ?_
  refine J_aload_n dL_isWell_629 rfl ?_
  refine J_iload_n dL_isWell_630 rfl ?_
  refine J_iload dL_isWell_631 rfl ?_
  refine J_iconst (x := 4) dL_isWell_633 (by decide) ?_
  refine J_callV (As := [_, _, _]) (rest := []) (M' := m_X6_together) dL_isWell_634 ml_R_law_57 gm_X6_together gv_X6_together hW.1.o hW.b1 rfl rfl rfl (Nat.le_of_ble_eq_true rfl) (by decide) ⟨rfl, rfl, by decide, by decide⟩ (q1_together hW (fun h1 hW1 => ?_))
  replace hW := hW1
  rw [t4]
  refine J_istore (L' := [_, _, _, _, _, _, _, _, _, _, _, _, _, _]) dL_isWell_637 (by decide) rfl ?_
  refine J_iload dL_isWell_639 rfl ?_
  refine J_if_eq (tgt := 726) dL_isWell_641 (by decide) (fun c641 => absurd c641 (by decide)) (fun c641 => ?_)
  refine J_iload dL_isWell_644 rfl ?_
  refine J_aload_n dL_isWell_646 rfl ?_
  refine J_iload_n dL_isWell_647 rfl ?_
  refine J_iload dL_isWell_648 rfl ?_
  refine J_iconst (x := 0) dL_isWell_650 (by decide) ?_
  refine J_callV (As := [_, _, _]) (rest := [_]) (M' := m_X6_together) dL_isWell_651 ml_R_law_57 gm_X6_together gv_X6_together hW.1.o hW.b1 rfl rfl rfl (Nat.le_of_ble_eq_true rfl) (by decide) ⟨rfl, rfl, by decide, by decide⟩ (q1_together hW (fun h1 hW1 => ?_))
  replace hW := hW1
  rw [t0]
  refine J_icmp_gt (tgt := 726) dL_isWell_654 (by decide) (fun c654 => absurd c654 (nI_nlt (a9) (by omega))) (fun c654 => ?_)
  refine J_iload dL_isWell_657 rfl ?_
  refine J_if_ne (tgt := 672) dL_isWell_659 (by decide) (fun c659 => ?_) (fun c659 => ?_)
  · have a10 : ¬ T.2.2.2.2.1 = 0 := fun q => c659 (by rw [q]; rfl)
    obtain ⟨k, z1, z2, z3, z4, z5⟩ : ∃ k, T.2.2.2.2.2 = nI k ∧ 0 < T.2.2.2.2.1 ∧ k + T.2.2.2.2.1 ≤ 64 ∧ (∀ i, k ≤ i → i < k + T.2.2.2.2.1 → CM s.1 i a b) ∧ (0 < k → ¬ CM s.1 (k - 1) a b) := by
      rcases a6 with ⟨z, -⟩ | q
      · exact absurd z a10
      · exact q
    rw [z1]
    refine J_aload_n dL_isWell_672 rfl ?_
    refine J_iload dL_isWell_673 rfl ?_
    refine J_iload_n dL_isWell_675 rfl ?_
    refine J_iload dL_isWell_676 rfl ?_
    refine J_callV (As := [_, _, _]) (rest := []) (M' := m_X6_joined) dL_isWell_678 ml_R_law_66 gm_X6_joined gv_X6_joined hW.1.o hW.b1 rfl rfl rfl (Nat.le_of_ble_eq_true rfl) (by decide) ⟨rfl, rfl, by decide, by decide⟩ (q1_joined hW (fun h1 hW1 => ?_))
    replace hW := hW1
    rw [v_j (show k < 64 by omega) ha hb, bI_t (z4 k (Nat.le_refl _) (by omega))]
    refine J_iconst (x := 1) dL_isWell_681 (by decide) ?_
    refine J_icmp_ne (tgt := 726) dL_isWell_682 (by decide) (fun c682 => absurd rfl c682) (fun c682 => ?_)
    refine J_aload_n dL_isWell_685 rfl ?_
    refine J_iload dL_isWell_686 rfl ?_
    refine J_iload dL_isWell_688 rfl ?_
    refine J_iadd dL_isWell_690 ?_
    refine J_iconst (x := 1) dL_isWell_691 (by decide) ?_
    refine J_isub dL_isWell_692 ?_
    rw [nI_add, show nI (k + T.2.2.2.2.1) - 1 = nI (k + T.2.2.2.2.1 - 1) from pk_sub (b := 1) (by omega)]
    refine J_iload_n dL_isWell_693 rfl ?_
    refine J_iload dL_isWell_694 rfl ?_
    refine J_callV (As := [_, _, _]) (rest := []) (M' := m_X6_joined) dL_isWell_696 ml_R_law_66 gm_X6_joined gv_X6_joined hW.1.o hW.b1 rfl rfl rfl (Nat.le_of_ble_eq_true rfl) (by decide) ⟨rfl, rfl, by decide, by decide⟩ (q1_joined hW (fun h1 hW1 => ?_))
    replace hW := hW1
    rw [v_j (show k + T.2.2.2.2.1 - 1 < 64 by omega) ha hb, bI_t (z4 _ (by omega) (by omega))]
    refine J_iconst (x := 1) dL_isWell_699 (by decide) ?_
    refine J_icmp_ne (tgt := 726) dL_isWell_700 (by decide) (fun c700 => absurd rfl c700) (fun c700 => ?_)
    refine J_iload dL_isWell_703 rfl ?_
    refine J_if_eq (tgt := 722) dL_isWell_705 (by decide) (fun c705 => ?_) (fun c705 => ?_)
    · refine J_iconst (x := 1) dL_isWell_722 (by decide) ?_
      refine J_goto (tgt := 727) dL_isWell_723 (by decide) ?_
      refine J_istore (L' := [_, _, _, _, _, _, _, _, _, _, _, _, _, _]) dL_isWell_727 (by decide) rfl ?_
      exact k729_L_isWell hm ha hb hQ hW
    · have k0 : 0 < k := by
        rcases Nat.eq_zero_or_pos k with w | w
        · exact absurd (by rw [w]; rfl) c705
        · exact w
      refine J_aload_n dL_isWell_708 rfl ?_
      refine J_iload dL_isWell_709 rfl ?_
      refine J_iconst (x := 1) dL_isWell_711 (by decide) ?_
      refine J_isub dL_isWell_712 ?_
      rw [show nI k - 1 = nI (k - 1) from pk_sub (b := 1) (by omega)]
      refine J_iload_n dL_isWell_713 rfl ?_
      refine J_iload dL_isWell_714 rfl ?_
      refine J_callV (As := [_, _, _]) (rest := []) (M' := m_X6_joined) dL_isWell_716 ml_R_law_66 gm_X6_joined gv_X6_joined hW.1.o hW.b1 rfl rfl rfl (Nat.le_of_ble_eq_true rfl) (by decide) ⟨rfl, rfl, by decide, by decide⟩ (q1_joined hW (fun h1 hW1 => ?_))
      replace hW := hW1
      rw [v_j (show k - 1 < 64 by omega) ha hb, bI_f (z5 k0)]
      refine J_if_ne (tgt := 726) dL_isWell_719 (by decide) (fun c719 => absurd rfl c719) (fun c719 => ?_)
      refine J_iconst (x := 1) dL_isWell_722 (by decide) ?_
      refine J_goto (tgt := 727) dL_isWell_723 (by decide) ?_
      refine J_istore (L' := [_, _, _, _, _, _, _, _, _, _, _, _, _, _]) dL_isWell_727 (by decide) rfl ?_
      exact k729_L_isWell hm ha hb hQ hW
  · refine J_iload dL_isWell_662 rfl ?_
    refine J_bipush (x := -5) dL_isWell_664 (by decide) ?_
    refine J_icmp_ne (tgt := 726) dL_isWell_666 (by decide) (fun c666 => absurd (by rcases a6 with ⟨-, z⟩ | ⟨k, -, z, -⟩; exact z; exact absurd ((nI_eq (b := 0) (by omega) (by omega)).mp c659) (by omega)) c666) (fun c666 => ?_)
    refine J_goto (tgt := 722) dL_isWell_669 (by decide) ?_
    refine J_iconst (x := 1) dL_isWell_722 (by decide) ?_
    refine J_goto (tgt := 727) dL_isWell_723 (by decide) ?_
    refine J_istore (L' := [_, _, _, _, _, _, _, _, _, _, _, _, _, _]) dL_isWell_727 (by decide) rfl ?_
    exact k729_L_isWell hm ha hb hQ hW
theorem k495_L_isWell {w11 : Int32} {m a b : Nat} (hm : m < 64) (ha : a < 16) (hb : b < 16) (hQ : ∀ h', W3 h' s s2 → Q (some (.int 1)) h') (hW : W3 h s s2) : J m_L_isWell 7 0 0 0 0 495 [some (.ref 1), some (.int x), some (.int (nI m)), some (.int (nI a)), some (.int (nI b)), some (.int (nI s.1.length)), some (.int (nI (s.1.countP (lvB (m : Int))))), some (.int (nI (sumN (nlN s.1 m) s.1.length))), some (.int (nI (sumN (mdN s.1 m) 7))), some (.int (nI (s.1.countP (lvB (m : Int))))), some (.int 1), some (.int w11), none, none] [] h Q := by
  have hO := hW.hO
  have h4 := hW.h4
  have g1 := stand (ls := s.1) hm
  have g2 := need_le hO h4 hm
  have g3 := stand_le (ls := s.1) hm
  have g4 := al_mx (ls := s.1) (m := m)
  have g5 : pts s.1 m ≤ 16 := nfst_le _ _
  have g6 : mx2 (stN s.1) 64 ≤ 16 := mx2_le (fun _ _ => Nat.sub_le _ _) 64
  have g7 : maxN (pSz s.1 m) 16 ≤ 16 := maxN_le (fun k => pSz_le s.1 m k) 16
  have g8 : sumN (alN s.1 m) 16 ≤ 1 * 16 := sumN_le (fun _ => oneI_le _) 16
  have g9 : s.1.countP (lvB (m : Int)) ≤ s.1.length := List.countP_le_length
  refine J_iload dL_isWell_495 rfl ?_
  refine J_if_eq (tgt := 616) dL_isWell_497 (by decide) (fun c497 => absurd c497 (by decide)) (fun c497 => ?_)
  refine J_iload dL_isWell_500 rfl ?_
  refine J_aload_n dL_isWell_502 rfl ?_
  refine J_iload_n dL_isWell_503 rfl ?_
  refine J_iconst (x := 0) dL_isWell_504 (by decide) ?_
  refine J_callV (As := [_, _]) (rest := [_]) (M' := m_X6_moment) dL_isWell_505 ml_R_law_32 gm_X6_moment gv_X6_moment hW.1.o hW.b1 rfl rfl rfl (Nat.le_of_ble_eq_true rfl) (by decide) ⟨rfl, rfl, by decide, by decide⟩ (q1_moment hW (fun h1 hW1 => ?_))
  replace hW := hW1
  rw [v_m0 hm]
  refine J_icmp_ne (tgt := 616) dL_isWell_508 (by decide) (fun c508 => absurd rfl c508) (fun c508 => ?_)
  refine J_iload dL_isWell_511 rfl ?_
  refine J_iload dL_isWell_513 rfl ?_
  refine J_icmp_ne (tgt := 616) dL_isWell_515 (by decide) (fun c515 => absurd rfl c515) (fun c515 => ?_)
  refine J_iload dL_isWell_518 rfl ?_
  refine J_aload_n dL_isWell_520 rfl ?_
  refine J_iload_n dL_isWell_521 rfl ?_
  refine J_iconst (x := 4) dL_isWell_522 (by decide) ?_
  refine J_callV (As := [_, _]) (rest := [_]) (M' := m_X6_moment) dL_isWell_523 ml_R_law_32 gm_X6_moment gv_X6_moment hW.1.o hW.b1 rfl rfl rfl (Nat.le_of_ble_eq_true rfl) (by decide) ⟨rfl, rfl, by decide, by decide⟩ (q1_moment hW (fun h1 hW1 => ?_))
  replace hW := hW1
  rw [v_m4 hm]
  refine J_icmp_ne (tgt := 616) dL_isWell_526 (by decide) (fun c526 => absurd rfl c526) (fun c526 => ?_)
  refine J_iload dL_isWell_529 rfl ?_
  refine J_bipush (x := 16) dL_isWell_531 (by decide) ?_
  refine J_aload_n dL_isWell_533 rfl ?_
  refine J_iload_n dL_isWell_534 rfl ?_
  refine J_iconst (x := 1) dL_isWell_535 (by decide) ?_
  refine J_callV (As := [_, _]) (rest := [_, _]) (M' := m_X6_moment) dL_isWell_536 ml_R_law_32 gm_X6_moment gv_X6_moment hW.1.o hW.b1 rfl rfl rfl (Nat.le_of_ble_eq_true rfl) (by decide) ⟨rfl, rfl, by decide, by decide⟩ (q1_moment hW (fun h1 hW1 => ?_))
  replace hW := hW1
  rw [v_m1 hm]
  refine J_isub dL_isWell_539 ?_
  rw [show (16 : Int32) - nI (pts s.1 m) = nI (sumN (mdN s.1 m) 7) from (pk_sub (a := 16) (by omega)).trans (by rw [show 16 - pts s.1 m = sumN (mdN s.1 m) 7 by omega])]
  refine J_icmp_ne (tgt := 616) dL_isWell_540 (by decide) (fun c540 => absurd rfl c540) (fun c540 => ?_)
  refine J_iload dL_isWell_543 rfl ?_
  refine J_iload dL_isWell_545 rfl ?_
  refine J_icmp_gt (tgt := 616) dL_isWell_547 (by decide) (fun c547 => absurd c547 (nI_nlt (g2) (by omega))) (fun c547 => ?_)
  refine J_iload dL_isWell_550 rfl ?_
  refine J_aload_n dL_isWell_552 rfl ?_
  refine J_iconst (x := 3) dL_isWell_553 (by decide) ?_
  refine J_callV (As := [_]) (rest := [_]) (M' := m_X6_count) dL_isWell_554 ml_R_law_9 gm_X6_count gv_X6_count hW.1.o hW.b1 rfl rfl rfl (Nat.le_of_ble_eq_true rfl) (by decide) ⟨rfl, rfl, by decide, by decide⟩ (q1_count hW (fun h1 hW1 => ?_))
  replace hW := hW1
  rw [v_c3]
  refine J_icmp_gt (tgt := 616) dL_isWell_557 (by decide) (fun c557 => absurd c557 (nI_nlt (g3) (by omega))) (fun c557 => ?_)
  refine J_aload_n dL_isWell_560 rfl ?_
  refine J_iload_n dL_isWell_561 rfl ?_
  refine J_iconst (x := 2) dL_isWell_562 (by decide) ?_
  refine J_callV (As := [_, _]) (rest := []) (M' := m_X6_moment) dL_isWell_563 ml_R_law_32 gm_X6_moment gv_X6_moment hW.1.o hW.b1 rfl rfl rfl (Nat.le_of_ble_eq_true rfl) (by decide) ⟨rfl, rfl, by decide, by decide⟩ (q1_moment hW (fun h1 hW1 => ?_))
  replace hW := hW1
  rw [v_m2 hm]
  refine J_if_eq (tgt := 578) dL_isWell_566 (by decide) (fun c566 => ?_) (fun c566 => ?_)
  · refine J_aload_n dL_isWell_578 rfl ?_
    refine J_iload_n dL_isWell_579 rfl ?_
    refine J_iconst (x := 5) dL_isWell_580 (by decide) ?_
    refine J_callV (As := [_, _]) (rest := []) (M' := m_X6_moment) dL_isWell_581 ml_R_law_32 gm_X6_moment gv_X6_moment hW.1.o hW.b1 rfl rfl rfl (Nat.le_of_ble_eq_true rfl) (by decide) ⟨rfl, rfl, by decide, by decide⟩ (q1_moment hW (fun h1 hW1 => ?_))
    replace hW := hW1
    rw [v_m5 hm]
    refine J_aload_n dL_isWell_584 rfl ?_
    refine J_iload_n dL_isWell_585 rfl ?_
    refine J_iconst (x := 3) dL_isWell_586 (by decide) ?_
    refine J_callV (As := [_, _]) (rest := [_]) (M' := m_X6_moment) dL_isWell_587 ml_R_law_32 gm_X6_moment gv_X6_moment hW.1.o hW.b1 rfl rfl rfl (Nat.le_of_ble_eq_true rfl) (by decide) ⟨rfl, rfl, by decide, by decide⟩ (q1_moment hW (fun h1 hW1 => ?_))
    replace hW := hW1
    rw [v_m3 hm]
    refine J_iadd dL_isWell_590 ?_
    rw [nI_add]
    refine J_bipush (x := 16) dL_isWell_591 (by decide) ?_
    refine J_aload_n dL_isWell_593 rfl ?_
    refine J_iload_n dL_isWell_594 rfl ?_
    refine J_iconst (x := 3) dL_isWell_595 (by decide) ?_
    refine J_callV (As := [_, _]) (rest := [_, _]) (M' := m_X6_moment) dL_isWell_596 ml_R_law_32 gm_X6_moment gv_X6_moment hW.1.o hW.b1 rfl rfl rfl (Nat.le_of_ble_eq_true rfl) (by decide) ⟨rfl, rfl, by decide, by decide⟩ (q1_moment hW (fun h1 hW1 => ?_))
    replace hW := hW1
    rw [v_m3 hm]
    refine J_iconst (x := 1) dL_isWell_599 (by decide) ?_
    refine J_icmp_ne (tgt := 607) dL_isWell_600 (by decide) (fun c600 => ?_) (fun c600 => ?_)
    · refine J_iconst (x := 0) dL_isWell_607 (by decide) ?_
      rw [if_neg (fun q => c600 (by rw [q]; rfl))] at g4
      refine J_iadd dL_isWell_608 ?_
      refine J_icmp_gt (tgt := 616) dL_isWell_609 (by decide) (fun c609 => absurd c609 (nI_nlt (a := 16) (by omega) (by omega))) (fun c609 => ?_)
      refine J_iconst (x := 1) dL_isWell_612 (by decide) ?_
      refine J_goto (tgt := 617) dL_isWell_613 (by decide) ?_
      refine J_istore (L' := [_, _, _, _, _, _, _, _, _, _, _, _, _, _]) dL_isWell_617 (by decide) rfl ?_
      exact k619_L_isWell hm ha hb hQ hW
    · refine J_iconst (x := 1) dL_isWell_603 (by decide) ?_
      refine J_goto (tgt := 608) dL_isWell_604 (by decide) ?_
      rw [if_pos ((nI_eq (b := 1) (by omega) (by omega)).mp c600)] at g4
      refine J_iadd dL_isWell_608 ?_
      refine J_icmp_gt (tgt := 616) dL_isWell_609 (by decide) (fun c609 => absurd c609 (nI_nlt (a := 17) (by omega) (by omega))) (fun c609 => ?_)
      refine J_iconst (x := 1) dL_isWell_612 (by decide) ?_
      refine J_goto (tgt := 617) dL_isWell_613 (by decide) ?_
      refine J_istore (L' := [_, _, _, _, _, _, _, _, _, _, _, _, _, _]) dL_isWell_617 (by decide) rfl ?_
      exact k619_L_isWell hm ha hb hQ hW
  · have o1 := odd_idle hO (nn_of rfl c566)
    refine J_iload dL_isWell_569 rfl ?_
    refine J_iload dL_isWell_571 rfl ?_
    refine J_isub dL_isWell_573 ?_
    rw [pk_sub (a := s.1.countP (lvB (m : Int))) (b := sumN (mdN s.1 m) 7) (by omega)]
    refine J_iconst (x := 1) dL_isWell_574 (by decide) ?_
    refine J_icmp_lt (tgt := 616) dL_isWell_575 (by decide) (fun c575 => absurd c575 (nI_nlt (b := 1) (by omega) (by omega))) (fun c575 => ?_)
    refine J_aload_n dL_isWell_578 rfl ?_
    refine J_iload_n dL_isWell_579 rfl ?_
    refine J_iconst (x := 5) dL_isWell_580 (by decide) ?_
    refine J_callV (As := [_, _]) (rest := []) (M' := m_X6_moment) dL_isWell_581 ml_R_law_32 gm_X6_moment gv_X6_moment hW.1.o hW.b1 rfl rfl rfl (Nat.le_of_ble_eq_true rfl) (by decide) ⟨rfl, rfl, by decide, by decide⟩ (q1_moment hW (fun h1 hW1 => ?_))
    replace hW := hW1
    rw [v_m5 hm]
    refine J_aload_n dL_isWell_584 rfl ?_
    refine J_iload_n dL_isWell_585 rfl ?_
    refine J_iconst (x := 3) dL_isWell_586 (by decide) ?_
    refine J_callV (As := [_, _]) (rest := [_]) (M' := m_X6_moment) dL_isWell_587 ml_R_law_32 gm_X6_moment gv_X6_moment hW.1.o hW.b1 rfl rfl rfl (Nat.le_of_ble_eq_true rfl) (by decide) ⟨rfl, rfl, by decide, by decide⟩ (q1_moment hW (fun h1 hW1 => ?_))
    replace hW := hW1
    rw [v_m3 hm]
    refine J_iadd dL_isWell_590 ?_
    rw [nI_add]
    refine J_bipush (x := 16) dL_isWell_591 (by decide) ?_
    refine J_aload_n dL_isWell_593 rfl ?_
    refine J_iload_n dL_isWell_594 rfl ?_
    refine J_iconst (x := 3) dL_isWell_595 (by decide) ?_
    refine J_callV (As := [_, _]) (rest := [_, _]) (M' := m_X6_moment) dL_isWell_596 ml_R_law_32 gm_X6_moment gv_X6_moment hW.1.o hW.b1 rfl rfl rfl (Nat.le_of_ble_eq_true rfl) (by decide) ⟨rfl, rfl, by decide, by decide⟩ (q1_moment hW (fun h1 hW1 => ?_))
    replace hW := hW1
    rw [v_m3 hm]
    refine J_iconst (x := 1) dL_isWell_599 (by decide) ?_
    refine J_icmp_ne (tgt := 607) dL_isWell_600 (by decide) (fun c600 => ?_) (fun c600 => ?_)
    · refine J_iconst (x := 0) dL_isWell_607 (by decide) ?_
      rw [if_neg (fun q => c600 (by rw [q]; rfl))] at g4
      refine J_iadd dL_isWell_608 ?_
      refine J_icmp_gt (tgt := 616) dL_isWell_609 (by decide) (fun c609 => absurd c609 (nI_nlt (a := 16) (by omega) (by omega))) (fun c609 => ?_)
      refine J_iconst (x := 1) dL_isWell_612 (by decide) ?_
      refine J_goto (tgt := 617) dL_isWell_613 (by decide) ?_
      refine J_istore (L' := [_, _, _, _, _, _, _, _, _, _, _, _, _, _]) dL_isWell_617 (by decide) rfl ?_
      exact k619_L_isWell hm ha hb hQ hW
    · refine J_iconst (x := 1) dL_isWell_603 (by decide) ?_
      refine J_goto (tgt := 608) dL_isWell_604 (by decide) ?_
      rw [if_pos ((nI_eq (b := 1) (by omega) (by omega)).mp c600)] at g4
      refine J_iadd dL_isWell_608 ?_
      refine J_icmp_gt (tgt := 616) dL_isWell_609 (by decide) (fun c609 => absurd c609 (nI_nlt (a := 17) (by omega) (by omega))) (fun c609 => ?_)
      refine J_iconst (x := 1) dL_isWell_612 (by decide) ?_
      refine J_goto (tgt := 617) dL_isWell_613 (by decide) ?_
      refine J_istore (L' := [_, _, _, _, _, _, _, _, _, _, _, _, _, _]) dL_isWell_617 (by decide) rfl ?_
      exact k619_L_isWell hm ha hb hQ hW
theorem l2_L_isWell {m a b : Nat} (hm : m < 64) (ha : a < 16) (hb : b < 16) (hO : ∀ x ∈ s.1, okK x) (h4 : s.1.length ≤ 40) (hQ : ∀ h', W3 h' s s2 → Q (some (.int 1)) h') : ∀ (f k : Nat) (h : g_H), 7 - k < f → k ≤ 7 → W3 h s s2 → J m_L_isWell 7 0 0 0 0 367 [some (.ref 1), some (.int x), some (.int (nI m)), some (.int (nI a)), some (.int (nI b)), some (.int (nI s.1.length)), some (.int (nI (s.1.countP (lvB (m : Int))))), some (.int (nI (sumN (nlN s.1 m) s.1.length))), some (.int (nI (sumN (mdN s.1 m) k))), some (.int (nI (sumN (lcN s.1 m) k))), some (.int 1), some (.int (nI k)), none, none] [] h Q := by
  intro f
  induction f with
  | zero => intro k h hf; omega
  | succ f ih =>
    intro k h hf hk hW
    refine J_iload dL_isWell_367 rfl ?_
    refine J_bipush (x := 7) dL_isWell_369 (by decide) ?_
    refine J_icmp_ge (tgt := 495) dL_isWell_371 (by decide) (fun c371 => ?_) (fun c371 => ?_)
    · have c371 : 7 ≤ k := (nI_leI (a := 7) (b := k) (by omega) (by omega)).mp c371
      obtain rfl : k = 7 := by omega
      rw [laid_one hm]
      exact k495_L_isWell hm ha hb hQ hW
    · have c371 : k < 7 := Nat.not_le.mp (fun q => c371 ((nI_leI (a := 7) (b := k) (by omega) (by omega)).mpr q))
      obtain ⟨b1, b2, b3⟩ := sbm m hm k c371
      have b4 := sb_le m k
      have b5 := sl_64 k c371
      refine J_iload dL_isWell_374 rfl ?_
      refine J_aload_n dL_isWell_376 rfl ?_
      refine J_iload_n dL_isWell_377 rfl ?_
      refine J_iload dL_isWell_378 rfl ?_
      refine J_iconst (x := 3) dL_isWell_380 (by decide) ?_
      refine J_callV (As := [_, _, _]) (rest := [_]) (M' := m_X6_span) dL_isWell_381 ml_R_law_54 gm_X6_span gv_X6_span hW.1.o hW.b1 rfl rfl rfl (Nat.le_of_ble_eq_true rfl) (by decide) ⟨rfl, rfl, by decide, by decide⟩ (q1_span hW (fun h1 hW1 => ?_))
      replace hW := hW1
      rw [v_s3 hm c371]
      refine J_iadd dL_isWell_384 ?_
      rw [nI_add, show sumN (mdN s.1 m) k + mdN s.1 m k = sumN (mdN s.1 m) (k + 1) from rfl]
      refine J_istore (L' := [_, _, _, _, _, _, _, _, _, _, _, _, _, _]) dL_isWell_385 (by decide) rfl ?_
      refine J_iload dL_isWell_387 rfl ?_
      refine J_aload_n dL_isWell_389 rfl ?_
      refine J_iload_n dL_isWell_390 rfl ?_
      refine J_iload dL_isWell_391 rfl ?_
      refine J_iconst (x := 2) dL_isWell_393 (by decide) ?_
      refine J_callV (As := [_, _, _]) (rest := [_]) (M' := m_X6_span) dL_isWell_394 ml_R_law_54 gm_X6_span gv_X6_span hW.1.o hW.b1 rfl rfl rfl (Nat.le_of_ble_eq_true rfl) (by decide) ⟨rfl, rfl, by decide, by decide⟩ (q1_span hW (fun h1 hW1 => ?_))
      replace hW := hW1
      rw [v_s2 hm c371]
      refine J_iadd dL_isWell_397 ?_
      rw [nI_add, show sumN (lcN s.1 m) k + lcN s.1 m k = sumN (lcN s.1 m) (k + 1) from rfl]
      refine J_istore (L' := [_, _, _, _, _, _, _, _, _, _, _, _, _, _]) dL_isWell_398 (by decide) rfl ?_
      refine J_iload dL_isWell_400 rfl ?_
      refine J_if_eq (tgt := 486) dL_isWell_402 (by decide) (fun c402 => absurd c402 (by decide)) (fun c402 => ?_)
      refine J_aload_n dL_isWell_405 rfl ?_
      refine J_iload_n dL_isWell_406 rfl ?_
      refine J_iload dL_isWell_407 rfl ?_
      refine J_iconst (x := 3) dL_isWell_409 (by decide) ?_
      refine J_callV (As := [_, _, _]) (rest := []) (M' := m_X6_span) dL_isWell_410 ml_R_law_54 gm_X6_span gv_X6_span hW.1.o hW.b1 rfl rfl rfl (Nat.le_of_ble_eq_true rfl) (by decide) ⟨rfl, rfl, by decide, by decide⟩ (q1_span hW (fun h1 hW1 => ?_))
      replace hW := hW1
      rw [v_s3 hm c371]
      refine J_aload_n dL_isWell_413 rfl ?_
      refine J_iload_n dL_isWell_414 rfl ?_
      refine J_iload dL_isWell_415 rfl ?_
      refine J_iconst (x := 4) dL_isWell_417 (by decide) ?_
      refine J_callV (As := [_, _, _]) (rest := [_]) (M' := m_X6_span) dL_isWell_418 ml_R_law_54 gm_X6_span gv_X6_span hW.1.o hW.b1 rfl rfl rfl (Nat.le_of_ble_eq_true rfl) (by decide) ⟨rfl, rfl, by decide, by decide⟩ (q1_span hW (fun h1 hW1 => ?_))
      replace hW := hW1
      rw [v_s4 hm c371]
      refine J_iadd dL_isWell_421 ?_
      rw [i_as]
      refine J_aload_n dL_isWell_422 rfl ?_
      refine J_iload_n dL_isWell_423 rfl ?_
      refine J_iload dL_isWell_424 rfl ?_
      refine J_iconst (x := 2) dL_isWell_426 (by decide) ?_
      refine J_callV (As := [_, _, _]) (rest := [_]) (M' := m_X6_span) dL_isWell_427 ml_R_law_54 gm_X6_span gv_X6_span hW.1.o hW.b1 rfl rfl rfl (Nat.le_of_ble_eq_true rfl) (by decide) ⟨rfl, rfl, by decide, by decide⟩ (q1_span hW (fun h1 hW1 => ?_))
      replace hW := hW1
      rw [v_s2 hm c371]
      refine J_icmp_ne (tgt := 486) dL_isWell_430 (by decide) (fun c430 => absurd rfl c430) (fun c430 => ?_)
      refine J_aload_n dL_isWell_433 rfl ?_
      refine J_iload_n dL_isWell_434 rfl ?_
      refine J_iload dL_isWell_435 rfl ?_
      refine J_iconst (x := 0) dL_isWell_437 (by decide) ?_
      refine J_callV (As := [_, _, _]) (rest := []) (M' := m_X6_span) dL_isWell_438 ml_R_law_54 gm_X6_span gv_X6_span hW.1.o hW.b1 rfl rfl rfl (Nat.le_of_ble_eq_true rfl) (by decide) ⟨rfl, rfl, by decide, by decide⟩ (q1_span hW (fun h1 hW1 => ?_))
      replace hW := hW1
      rw [v_s0 hm c371]
      refine J_iload_n dL_isWell_441 rfl ?_
      refine J_icmp_gt (tgt := 486) dL_isWell_442 (by decide) (fun c442 => absurd c442 (nI_nlt (b4) (by omega))) (fun c442 => ?_)
      refine J_iload_n dL_isWell_445 rfl ?_
      refine J_aload_n dL_isWell_446 rfl ?_
      refine J_iload_n dL_isWell_447 rfl ?_
      refine J_iload dL_isWell_448 rfl ?_
      refine J_iconst (x := 0) dL_isWell_450 (by decide) ?_
      refine J_callV (As := [_, _, _]) (rest := [_]) (M' := m_X6_span) dL_isWell_451 ml_R_law_54 gm_X6_span gv_X6_span hW.1.o hW.b1 rfl rfl rfl (Nat.le_of_ble_eq_true rfl) (by decide) ⟨rfl, rfl, by decide, by decide⟩ (q1_span hW (fun h1 hW1 => ?_))
      replace hW := hW1
      rw [v_s0 hm c371]
      refine J_aload_n dL_isWell_454 rfl ?_
      refine J_iload_n dL_isWell_455 rfl ?_
      refine J_iload dL_isWell_456 rfl ?_
      refine J_iconst (x := 1) dL_isWell_458 (by decide) ?_
      refine J_callV (As := [_, _, _]) (rest := [_, _]) (M' := m_X6_span) dL_isWell_459 ml_R_law_54 gm_X6_span gv_X6_span hW.1.o hW.b1 rfl rfl rfl (Nat.le_of_ble_eq_true rfl) (by decide) ⟨rfl, rfl, by decide, by decide⟩ (q1_span hW (fun h1 hW1 => ?_))
      replace hW := hW1
      rw [v_s1 hm c371]
      refine J_iadd dL_isWell_462 ?_
      rw [nI_add]
      refine J_icmp_ge (tgt := 486) dL_isWell_463 (by decide) (fun c463 => absurd ((nI_leI (by omega) (by omega)).mp c463) (by omega)) (fun c463 => ?_)
      refine J_aload_n dL_isWell_466 rfl ?_
      refine J_iload_n dL_isWell_467 rfl ?_
      refine J_iload dL_isWell_468 rfl ?_
      refine J_iconst (x := 1) dL_isWell_470 (by decide) ?_
      refine J_callV (As := [_, _, _]) (rest := []) (M' := m_X6_span) dL_isWell_471 ml_R_law_54 gm_X6_span gv_X6_span hW.1.o hW.b1 rfl rfl rfl (Nat.le_of_ble_eq_true rfl) (by decide) ⟨rfl, rfl, by decide, by decide⟩ (q1_span hW (fun h1 hW1 => ?_))
      replace hW := hW1
      rw [v_s1 hm c371]
      refine J_bipush (x := 64) dL_isWell_474 (by decide) ?_
      refine J_iload dL_isWell_476 rfl ?_
      refine J_ishr dL_isWell_478 ?_
      rw [sl_i k c371]
      refine J_icmp_ne (tgt := 486) dL_isWell_479 (by decide) (fun c479 => absurd rfl c479) (fun c479 => ?_)
      refine J_iconst (x := 1) dL_isWell_482 (by decide) ?_
      refine J_goto (tgt := 487) dL_isWell_483 (by decide) ?_
      refine J_istore (L' := [_, _, _, _, _, _, _, _, _, _, _, _, _, _]) dL_isWell_487 (by decide) rfl ?_
      refine J_iinc (L' := [_, _, _, _, _, _, _, _, _, _, _, _, _, _]) dL_isWell_489 rfl (nI_i1 k) (by decide) rfl ?_
      refine J_goto (tgt := 367) dL_isWell_492 (by decide) ?_
      exact ih (k + 1) _ (by omega) (by omega) hW
theorem l1_L_isWell {m a b : Nat} (hm : m < 64) (ha : a < 16) (hb : b < 16) (hO : ∀ x ∈ s.1, okK x) (h4 : s.1.length ≤ 40) (hQ : ∀ h', W3 h' s s2 → Q (some (.int 1)) h') : ∀ (f k : Nat) (h : g_H), s.1.length - k < f → k ≤ s.1.length → W3 h s s2 → J m_L_isWell 7 0 0 0 0 169 [some (.ref 1), some (.int x), some (.int (nI m)), some (.int (nI a)), some (.int (nI b)), some (.int (nI s.1.length)), some (.int (nI ((s.1.take k).countP (lvB (m : Int))))), some (.int (nI (sumN (nlN s.1 m) k))), some (.int 0), some (.int 0), some (.int 1), some (.int (nI k)), none, none] [] h Q := by
  intro f
  induction f with
  | zero => intro k h hf; omega
  | succ f ih =>
    intro k h hf hk hW
    refine J_iload dL_isWell_169 rfl ?_
    refine J_iload dL_isWell_171 rfl ?_
    refine J_icmp_ge (tgt := 364) dL_isWell_173 (by decide) (fun c173 => ?_) (fun c173 => ?_)
    · refine J_iconst (x := 0) dL_isWell_364 (by decide) ?_
      refine J_istore (L' := [_, _, _, _, _, _, _, _, _, _, _, _, _, _]) dL_isWell_365 (by decide) rfl ?_
      have c173 : s.1.length ≤ k := (nI_leI (a := s.1.length) (b := k) (by omega) (by omega)).mp c173
      obtain rfl : k = s.1.length := by omega
      rw [List.take_length]
      exact l2_L_isWell hm ha hb hO h4 hQ 8 0 _ (by omega) (by omega) hW
    · have c173 : k < s.1.length := Nat.not_le.mp (fun q => c173 ((nI_leI (a := s.1.length) (b := k) (by omega) (by omega)).mpr q))
      obtain ⟨y, hy⟩ := get_of c173
      obtain ⟨o1, o2, o3, o4, o5⟩ := hO y (List.mem_of_getElem? hy)
      have hsp := spN_bd (hO y (List.mem_of_getElem? hy))
      have hnm := nm_le (ls := s.1) k y
      refine J_aload_n dL_isWell_176 rfl ?_
      refine J_iload dL_isWell_177 rfl ?_
      refine J_iload_n dL_isWell_179 rfl ?_
      refine J_callV (As := [_, _]) (rest := []) (M' := m_X6_needed) dL_isWell_180 ml_R_law_51 gm_X6_needed gv_X6_needed hW.1.o hW.b1 rfl rfl rfl (Nat.le_of_ble_eq_true rfl) (by decide) ⟨rfl, rfl, by decide, by decide⟩ (q1_needed hW (fun h1 hW1 => ?_))
      replace hW := hW1
      rcases Classical.em (lvB (m : Int) y = true) with hlv | hlv
      · have hlv2 := lvB_iff.mp hlv
        have hlv2 : y.2.2.1 ≤ m ∧ m < y.2.2.2 := by omega
        have hcm : CM s.1 m y.1 y.2.1 := Cn.ed (e := (y.1, y.2.1)) (EK_mem.mpr ⟨k, y, c173, hy, hlv, rfl⟩)
        rcases Classical.em (NM s.1 k m y) with hnd | hnd
        · rw [v_n hm hy h4, ci_f (fun q => q hlv), bI_t hnd]
          refine J_istore (L' := [_, _, _, _, _, _, _, _, _, _, _, _, _, _]) dL_isWell_183 (by decide) rfl ?_
          refine J_aload_n dL_isWell_185 rfl ?_
          refine J_iload dL_isWell_186 rfl ?_
          refine J_iconst (x := 2) dL_isWell_188 (by decide) ?_
          refine J_callV (As := [_, _]) (rest := []) (M' := m_X6_link) dL_isWell_189 ml_R_law_48 gm_X6_link gv_X6_link hW.1.o hW.b1 rfl rfl rfl (Nat.le_of_ble_eq_true rfl) (by decide) ⟨rfl, rfl, by decide, by decide⟩ (q1_link hW (fun h1 hW1 => ?_))
          replace hW := hW1
          rw [v_l2 hy h4]
          refine J_iload_n dL_isWell_192 rfl ?_
          refine J_icmp_gt (tgt := 211) dL_isWell_193 (by decide) (fun c193 => absurd ((nI_ltI (by omega) (by omega)).mp c193) (by omega)) (fun c193 => ?_)
          refine J_iload_n dL_isWell_196 rfl ?_
          refine J_aload_n dL_isWell_197 rfl ?_
          refine J_iload dL_isWell_198 rfl ?_
          refine J_iconst (x := 3) dL_isWell_200 (by decide) ?_
          refine J_callV (As := [_, _]) (rest := [_]) (M' := m_X6_link) dL_isWell_201 ml_R_law_48 gm_X6_link gv_X6_link hW.1.o hW.b1 rfl rfl rfl (Nat.le_of_ble_eq_true rfl) (by decide) ⟨rfl, rfl, by decide, by decide⟩ (q1_link hW (fun h1 hW1 => ?_))
          replace hW := hW1
          rw [v_l3 hy h4]
          refine J_icmp_ge (tgt := 211) dL_isWell_204 (by decide) (fun c204 => absurd ((nI_leI (by omega) (by omega)).mp c204) (by omega)) (fun c204 => ?_)
          refine J_iconst (x := 1) dL_isWell_207 (by decide) ?_
          refine J_goto (tgt := 212) dL_isWell_208 (by decide) ?_
          refine J_istore (L' := [_, _, _, _, _, _, _, _, _, _, _, _, _, _]) dL_isWell_212 (by decide) rfl ?_
          refine J_iload dL_isWell_214 rfl ?_
          refine J_iload dL_isWell_216 rfl ?_
          refine J_if_eq (tgt := 225) dL_isWell_218 (by decide) (fun c218 => absurd c218 (by decide)) (fun c218 => ?_)
          refine J_iconst (x := 1) dL_isWell_221 (by decide) ?_
          refine J_goto (tgt := 226) dL_isWell_222 (by decide) ?_
          refine J_iadd dL_isWell_226 ?_
          rw [show nI ((s.1.take k).countP (lvB (m : Int))) + 1 = nI ((s.1.take (k + 1)).countP (lvB (m : Int))) from by rw [take_succ_cnt _ hy, if_pos hlv]; exact nI_p1q _]
          refine J_istore (L' := [_, _, _, _, _, _, _, _, _, _, _, _, _, _]) dL_isWell_227 (by decide) rfl ?_
          refine J_iload dL_isWell_229 rfl ?_
          refine J_iload dL_isWell_231 rfl ?_
          refine J_iconst (x := 1) dL_isWell_233 (by decide) ?_
          refine J_icmp_ne (tgt := 241) dL_isWell_234 (by decide) (fun c234 => absurd rfl c234) (fun c234 => ?_)
          refine J_iconst (x := 1) dL_isWell_237 (by decide) ?_
          refine J_goto (tgt := 242) dL_isWell_238 (by decide) ?_
          refine J_iadd dL_isWell_242 ?_
          rw [show nI (sumN (nlN s.1 m) k) + 1 = nI (sumN (nlN s.1 m) (k + 1)) from by rw [show sumN (nlN s.1 m) (k + 1) = sumN (nlN s.1 m) k + nlN s.1 m k from rfl, nlN_of hy, oneI_t hnd]; exact nI_p1q _]
          refine J_istore (L' := [_, _, _, _, _, _, _, _, _, _, _, _, _, _]) dL_isWell_243 (by decide) rfl ?_
          refine J_iload dL_isWell_245 rfl ?_
          refine J_if_eq (tgt := 355) dL_isWell_247 (by decide) (fun c247 => absurd c247 (by decide)) (fun c247 => ?_)
          refine J_iload dL_isWell_250 rfl ?_
          refine J_bipush (x := -5) dL_isWell_252 (by decide) ?_
          refine J_icmp_ne (tgt := 261) dL_isWell_254 (by decide) (fun c254 => ?_) (fun c254 => absurd c254 (by decide))
          refine J_iconst (x := 0) dL_isWell_261 (by decide) ?_
          refine J_iload dL_isWell_262 rfl ?_
          refine J_if_ne (tgt := 271) dL_isWell_264 (by decide) (fun c264 => ?_) (fun c264 => absurd c264 (by decide))
          refine J_iconst (x := 0) dL_isWell_271 (by decide) ?_
          refine J_icmp_ne (tgt := 355) dL_isWell_272 (by decide) (fun c272 => absurd rfl c272) (fun c272 => ?_)
          refine J_iload dL_isWell_275 rfl ?_
          refine J_if_eq (tgt := 303) dL_isWell_277 (by decide) (fun c277 => absurd c277 (by decide)) (fun c277 => ?_)
          refine J_aload_n dL_isWell_280 rfl ?_
          refine J_iload_n dL_isWell_281 rfl ?_
          refine J_aload_n dL_isWell_282 rfl ?_
          refine J_iload dL_isWell_283 rfl ?_
          refine J_iconst (x := 0) dL_isWell_285 (by decide) ?_
          refine J_callV (As := [_, _]) (rest := [_, _]) (M' := m_X6_link) dL_isWell_286 ml_R_law_48 gm_X6_link gv_X6_link hW.1.o hW.b1 rfl rfl rfl (Nat.le_of_ble_eq_true rfl) (by decide) ⟨rfl, rfl, by decide, by decide⟩ (q1_link hW (fun h1 hW1 => ?_))
          replace hW := hW1
          rw [v_l0 hy h4]
          refine J_aload_n dL_isWell_289 rfl ?_
          refine J_iload dL_isWell_290 rfl ?_
          refine J_iconst (x := 1) dL_isWell_292 (by decide) ?_
          refine J_callV (As := [_, _]) (rest := [_, _, _]) (M' := m_X6_link) dL_isWell_293 ml_R_law_48 gm_X6_link gv_X6_link hW.1.o hW.b1 rfl rfl rfl (Nat.le_of_ble_eq_true rfl) (by decide) ⟨rfl, rfl, by decide, by decide⟩ (q1_link hW (fun h1 hW1 => ?_))
          replace hW := hW1
          rw [v_l1 hy h4]
          refine J_callV (As := [_, _, _]) (rest := []) (M' := m_X6_joined) dL_isWell_296 ml_R_law_66 gm_X6_joined gv_X6_joined hW.1.o hW.b1 rfl rfl rfl (Nat.le_of_ble_eq_true rfl) (by decide) ⟨rfl, rfl, by decide, by decide⟩ (q1_joined hW (fun h1 hW1 => ?_))
          replace hW := hW1
          rw [v_j hm o1 o2, bI_t hcm]
          refine J_iconst (x := 1) dL_isWell_299 (by decide) ?_
          refine J_icmp_ne (tgt := 355) dL_isWell_300 (by decide) (fun c300 => absurd rfl c300) (fun c300 => ?_)
          refine J_aload_n dL_isWell_303 rfl ?_
          refine J_iload dL_isWell_304 rfl ?_
          refine J_iconst (x := 5) dL_isWell_306 (by decide) ?_
          refine J_callV (As := [_, _]) (rest := []) (M' := m_X6_link) dL_isWell_307 ml_R_law_48 gm_X6_link gv_X6_link hW.1.o hW.b1 rfl rfl rfl (Nat.le_of_ble_eq_true rfl) (by decide) ⟨rfl, rfl, by decide, by decide⟩ (q1_link hW (fun h1 hW1 => ?_))
          replace hW := hW1
          rw [v_l5 hy h4]
          refine J_aload_n dL_isWell_310 rfl ?_
          refine J_iload dL_isWell_311 rfl ?_
          refine J_iconst (x := 3) dL_isWell_313 (by decide) ?_
          refine J_callV (As := [_, _]) (rest := [_]) (M' := m_X6_link) dL_isWell_314 ml_R_law_48 gm_X6_link gv_X6_link hW.1.o hW.b1 rfl rfl rfl (Nat.le_of_ble_eq_true rfl) (by decide) ⟨rfl, rfl, by decide, by decide⟩ (q1_link hW (fun h1 hW1 => ?_))
          replace hW := hW1
          rw [v_l3 hy h4]
          refine J_aload_n dL_isWell_317 rfl ?_
          refine J_iload dL_isWell_318 rfl ?_
          refine J_iconst (x := 2) dL_isWell_320 (by decide) ?_
          refine J_callV (As := [_, _]) (rest := [_, _]) (M' := m_X6_link) dL_isWell_321 ml_R_law_48 gm_X6_link gv_X6_link hW.1.o hW.b1 rfl rfl rfl (Nat.le_of_ble_eq_true rfl) (by decide) ⟨rfl, rfl, by decide, by decide⟩ (q1_link hW (fun h1 hW1 => ?_))
          replace hW := hW1
          rw [v_l2 hy h4]
          refine J_isub dL_isWell_324 ?_
          rw [pk_sub (a := y.2.2.2) (b := y.2.2.1) (by omega)]
          refine J_icmp_gt (tgt := 355) dL_isWell_325 (by decide) (fun c325 => absurd c325 (nI_nlt hnm (by omega))) (fun c325 => ?_)
          refine J_aload_n dL_isWell_328 rfl ?_
          refine J_iload dL_isWell_329 rfl ?_
          refine J_iconst (x := 4) dL_isWell_331 (by decide) ?_
          refine J_callV (As := [_, _]) (rest := []) (M' := m_X6_link) dL_isWell_332 ml_R_law_48 gm_X6_link gv_X6_link hW.1.o hW.b1 rfl rfl rfl (Nat.le_of_ble_eq_true rfl) (by decide) ⟨rfl, rfl, by decide, by decide⟩ (q1_link hW (fun h1 hW1 => ?_))
          replace hW := hW1
          rw [v_l4 hy h4]
          refine J_iconst (x := 1) dL_isWell_335 (by decide) ?_
          refine J_icmp_lt (tgt := 355) dL_isWell_336 (by decide) (fun c336 => absurd c336 (nI_nlt (b := 1) hsp.1 (by omega))) (fun c336 => ?_)
          refine J_aload_n dL_isWell_339 rfl ?_
          refine J_iload dL_isWell_340 rfl ?_
          refine J_iconst (x := 4) dL_isWell_342 (by decide) ?_
          refine J_callV (As := [_, _]) (rest := []) (M' := m_X6_link) dL_isWell_343 ml_R_law_48 gm_X6_link gv_X6_link hW.1.o hW.b1 rfl rfl rfl (Nat.le_of_ble_eq_true rfl) (by decide) ⟨rfl, rfl, by decide, by decide⟩ (q1_link hW (fun h1 hW1 => ?_))
          replace hW := hW1
          rw [v_l4 hy h4]
          refine J_bipush (x := 11) dL_isWell_346 (by decide) ?_
          refine J_icmp_gt (tgt := 355) dL_isWell_348 (by decide) (fun c348 => absurd c348 (nI_nlt (a := 11) hsp.2 (by omega))) (fun c348 => ?_)
          refine J_iconst (x := 1) dL_isWell_351 (by decide) ?_
          refine J_goto (tgt := 356) dL_isWell_352 (by decide) ?_
          refine J_istore (L' := [_, _, _, _, _, _, _, _, _, _, _, _, _, _]) dL_isWell_356 (by decide) rfl ?_
          refine J_iinc (L' := [_, _, _, _, _, _, _, _, _, _, _, _, _, _]) dL_isWell_358 rfl (nI_i1 k) (by decide) rfl ?_
          refine J_goto (tgt := 169) dL_isWell_361 (by decide) ?_
          refine J_drop [12, 13] rfl ?_
          exact ih (k + 1) _ (by omega) (by omega) hW
        · rw [v_n hm hy h4, ci_f (fun q => q hlv), bI_f hnd]
          refine J_istore (L' := [_, _, _, _, _, _, _, _, _, _, _, _, _, _]) dL_isWell_183 (by decide) rfl ?_
          refine J_aload_n dL_isWell_185 rfl ?_
          refine J_iload dL_isWell_186 rfl ?_
          refine J_iconst (x := 2) dL_isWell_188 (by decide) ?_
          refine J_callV (As := [_, _]) (rest := []) (M' := m_X6_link) dL_isWell_189 ml_R_law_48 gm_X6_link gv_X6_link hW.1.o hW.b1 rfl rfl rfl (Nat.le_of_ble_eq_true rfl) (by decide) ⟨rfl, rfl, by decide, by decide⟩ (q1_link hW (fun h1 hW1 => ?_))
          replace hW := hW1
          rw [v_l2 hy h4]
          refine J_iload_n dL_isWell_192 rfl ?_
          refine J_icmp_gt (tgt := 211) dL_isWell_193 (by decide) (fun c193 => absurd ((nI_ltI (by omega) (by omega)).mp c193) (by omega)) (fun c193 => ?_)
          refine J_iload_n dL_isWell_196 rfl ?_
          refine J_aload_n dL_isWell_197 rfl ?_
          refine J_iload dL_isWell_198 rfl ?_
          refine J_iconst (x := 3) dL_isWell_200 (by decide) ?_
          refine J_callV (As := [_, _]) (rest := [_]) (M' := m_X6_link) dL_isWell_201 ml_R_law_48 gm_X6_link gv_X6_link hW.1.o hW.b1 rfl rfl rfl (Nat.le_of_ble_eq_true rfl) (by decide) ⟨rfl, rfl, by decide, by decide⟩ (q1_link hW (fun h1 hW1 => ?_))
          replace hW := hW1
          rw [v_l3 hy h4]
          refine J_icmp_ge (tgt := 211) dL_isWell_204 (by decide) (fun c204 => absurd ((nI_leI (by omega) (by omega)).mp c204) (by omega)) (fun c204 => ?_)
          refine J_iconst (x := 1) dL_isWell_207 (by decide) ?_
          refine J_goto (tgt := 212) dL_isWell_208 (by decide) ?_
          refine J_istore (L' := [_, _, _, _, _, _, _, _, _, _, _, _, _, _]) dL_isWell_212 (by decide) rfl ?_
          refine J_iload dL_isWell_214 rfl ?_
          refine J_iload dL_isWell_216 rfl ?_
          refine J_if_eq (tgt := 225) dL_isWell_218 (by decide) (fun c218 => absurd c218 (by decide)) (fun c218 => ?_)
          refine J_iconst (x := 1) dL_isWell_221 (by decide) ?_
          refine J_goto (tgt := 226) dL_isWell_222 (by decide) ?_
          refine J_iadd dL_isWell_226 ?_
          rw [show nI ((s.1.take k).countP (lvB (m : Int))) + 1 = nI ((s.1.take (k + 1)).countP (lvB (m : Int))) from by rw [take_succ_cnt _ hy, if_pos hlv]; exact nI_p1q _]
          refine J_istore (L' := [_, _, _, _, _, _, _, _, _, _, _, _, _, _]) dL_isWell_227 (by decide) rfl ?_
          refine J_iload dL_isWell_229 rfl ?_
          refine J_iload dL_isWell_231 rfl ?_
          refine J_iconst (x := 1) dL_isWell_233 (by decide) ?_
          refine J_icmp_ne (tgt := 241) dL_isWell_234 (by decide) (fun c234 => ?_) (fun c234 => absurd c234 (by decide))
          refine J_iconst (x := 0) dL_isWell_241 (by decide) ?_
          refine J_iadd dL_isWell_242 ?_
          rw [show nI (sumN (nlN s.1 m) k) + 0 = nI (sumN (nlN s.1 m) (k + 1)) from by rw [show sumN (nlN s.1 m) (k + 1) = sumN (nlN s.1 m) k + nlN s.1 m k from rfl, nlN_of hy, oneI_f hnd]; exact Int32.add_zero _]
          refine J_istore (L' := [_, _, _, _, _, _, _, _, _, _, _, _, _, _]) dL_isWell_243 (by decide) rfl ?_
          refine J_iload dL_isWell_245 rfl ?_
          refine J_if_eq (tgt := 355) dL_isWell_247 (by decide) (fun c247 => absurd c247 (by decide)) (fun c247 => ?_)
          refine J_iload dL_isWell_250 rfl ?_
          refine J_bipush (x := -5) dL_isWell_252 (by decide) ?_
          refine J_icmp_ne (tgt := 261) dL_isWell_254 (by decide) (fun c254 => ?_) (fun c254 => absurd c254 (by decide))
          refine J_iconst (x := 0) dL_isWell_261 (by decide) ?_
          refine J_iload dL_isWell_262 rfl ?_
          refine J_if_ne (tgt := 271) dL_isWell_264 (by decide) (fun c264 => ?_) (fun c264 => absurd c264 (by decide))
          refine J_iconst (x := 0) dL_isWell_271 (by decide) ?_
          refine J_icmp_ne (tgt := 355) dL_isWell_272 (by decide) (fun c272 => absurd rfl c272) (fun c272 => ?_)
          refine J_iload dL_isWell_275 rfl ?_
          refine J_if_eq (tgt := 303) dL_isWell_277 (by decide) (fun c277 => absurd c277 (by decide)) (fun c277 => ?_)
          refine J_aload_n dL_isWell_280 rfl ?_
          refine J_iload_n dL_isWell_281 rfl ?_
          refine J_aload_n dL_isWell_282 rfl ?_
          refine J_iload dL_isWell_283 rfl ?_
          refine J_iconst (x := 0) dL_isWell_285 (by decide) ?_
          refine J_callV (As := [_, _]) (rest := [_, _]) (M' := m_X6_link) dL_isWell_286 ml_R_law_48 gm_X6_link gv_X6_link hW.1.o hW.b1 rfl rfl rfl (Nat.le_of_ble_eq_true rfl) (by decide) ⟨rfl, rfl, by decide, by decide⟩ (q1_link hW (fun h1 hW1 => ?_))
          replace hW := hW1
          rw [v_l0 hy h4]
          refine J_aload_n dL_isWell_289 rfl ?_
          refine J_iload dL_isWell_290 rfl ?_
          refine J_iconst (x := 1) dL_isWell_292 (by decide) ?_
          refine J_callV (As := [_, _]) (rest := [_, _, _]) (M' := m_X6_link) dL_isWell_293 ml_R_law_48 gm_X6_link gv_X6_link hW.1.o hW.b1 rfl rfl rfl (Nat.le_of_ble_eq_true rfl) (by decide) ⟨rfl, rfl, by decide, by decide⟩ (q1_link hW (fun h1 hW1 => ?_))
          replace hW := hW1
          rw [v_l1 hy h4]
          refine J_callV (As := [_, _, _]) (rest := []) (M' := m_X6_joined) dL_isWell_296 ml_R_law_66 gm_X6_joined gv_X6_joined hW.1.o hW.b1 rfl rfl rfl (Nat.le_of_ble_eq_true rfl) (by decide) ⟨rfl, rfl, by decide, by decide⟩ (q1_joined hW (fun h1 hW1 => ?_))
          replace hW := hW1
          rw [v_j hm o1 o2, bI_t hcm]
          refine J_iconst (x := 1) dL_isWell_299 (by decide) ?_
          refine J_icmp_ne (tgt := 355) dL_isWell_300 (by decide) (fun c300 => absurd rfl c300) (fun c300 => ?_)
          refine J_aload_n dL_isWell_303 rfl ?_
          refine J_iload dL_isWell_304 rfl ?_
          refine J_iconst (x := 5) dL_isWell_306 (by decide) ?_
          refine J_callV (As := [_, _]) (rest := []) (M' := m_X6_link) dL_isWell_307 ml_R_law_48 gm_X6_link gv_X6_link hW.1.o hW.b1 rfl rfl rfl (Nat.le_of_ble_eq_true rfl) (by decide) ⟨rfl, rfl, by decide, by decide⟩ (q1_link hW (fun h1 hW1 => ?_))
          replace hW := hW1
          rw [v_l5 hy h4]
          refine J_aload_n dL_isWell_310 rfl ?_
          refine J_iload dL_isWell_311 rfl ?_
          refine J_iconst (x := 3) dL_isWell_313 (by decide) ?_
          refine J_callV (As := [_, _]) (rest := [_]) (M' := m_X6_link) dL_isWell_314 ml_R_law_48 gm_X6_link gv_X6_link hW.1.o hW.b1 rfl rfl rfl (Nat.le_of_ble_eq_true rfl) (by decide) ⟨rfl, rfl, by decide, by decide⟩ (q1_link hW (fun h1 hW1 => ?_))
          replace hW := hW1
          rw [v_l3 hy h4]
          refine J_aload_n dL_isWell_317 rfl ?_
          refine J_iload dL_isWell_318 rfl ?_
          refine J_iconst (x := 2) dL_isWell_320 (by decide) ?_
          refine J_callV (As := [_, _]) (rest := [_, _]) (M' := m_X6_link) dL_isWell_321 ml_R_law_48 gm_X6_link gv_X6_link hW.1.o hW.b1 rfl rfl rfl (Nat.le_of_ble_eq_true rfl) (by decide) ⟨rfl, rfl, by decide, by decide⟩ (q1_link hW (fun h1 hW1 => ?_))
          replace hW := hW1
          rw [v_l2 hy h4]
          refine J_isub dL_isWell_324 ?_
          rw [pk_sub (a := y.2.2.2) (b := y.2.2.1) (by omega)]
          refine J_icmp_gt (tgt := 355) dL_isWell_325 (by decide) (fun c325 => absurd c325 (nI_nlt hnm (by omega))) (fun c325 => ?_)
          refine J_aload_n dL_isWell_328 rfl ?_
          refine J_iload dL_isWell_329 rfl ?_
          refine J_iconst (x := 4) dL_isWell_331 (by decide) ?_
          refine J_callV (As := [_, _]) (rest := []) (M' := m_X6_link) dL_isWell_332 ml_R_law_48 gm_X6_link gv_X6_link hW.1.o hW.b1 rfl rfl rfl (Nat.le_of_ble_eq_true rfl) (by decide) ⟨rfl, rfl, by decide, by decide⟩ (q1_link hW (fun h1 hW1 => ?_))
          replace hW := hW1
          rw [v_l4 hy h4]
          refine J_iconst (x := 1) dL_isWell_335 (by decide) ?_
          refine J_icmp_lt (tgt := 355) dL_isWell_336 (by decide) (fun c336 => absurd c336 (nI_nlt (b := 1) hsp.1 (by omega))) (fun c336 => ?_)
          refine J_aload_n dL_isWell_339 rfl ?_
          refine J_iload dL_isWell_340 rfl ?_
          refine J_iconst (x := 4) dL_isWell_342 (by decide) ?_
          refine J_callV (As := [_, _]) (rest := []) (M' := m_X6_link) dL_isWell_343 ml_R_law_48 gm_X6_link gv_X6_link hW.1.o hW.b1 rfl rfl rfl (Nat.le_of_ble_eq_true rfl) (by decide) ⟨rfl, rfl, by decide, by decide⟩ (q1_link hW (fun h1 hW1 => ?_))
          replace hW := hW1
          rw [v_l4 hy h4]
          refine J_bipush (x := 11) dL_isWell_346 (by decide) ?_
          refine J_icmp_gt (tgt := 355) dL_isWell_348 (by decide) (fun c348 => absurd c348 (nI_nlt (a := 11) hsp.2 (by omega))) (fun c348 => ?_)
          refine J_iconst (x := 1) dL_isWell_351 (by decide) ?_
          refine J_goto (tgt := 356) dL_isWell_352 (by decide) ?_
          refine J_istore (L' := [_, _, _, _, _, _, _, _, _, _, _, _, _, _]) dL_isWell_356 (by decide) rfl ?_
          refine J_iinc (L' := [_, _, _, _, _, _, _, _, _, _, _, _, _, _]) dL_isWell_358 rfl (nI_i1 k) (by decide) rfl ?_
          refine J_goto (tgt := 169) dL_isWell_361 (by decide) ?_
          refine J_drop [12, 13] rfl ?_
          exact ih (k + 1) _ (by omega) (by omega) hW
      · have hlv2 : ¬ (y.2.2.1 ≤ m ∧ m < y.2.2.2) := fun q => hlv (lvB_iff.mpr (by omega))
        rw [v_n hm hy h4, ci_t hlv]
        have hnd : ¬ NM s.1 k m y := fun q => hlv q.1
        refine J_istore (L' := [_, _, _, _, _, _, _, _, _, _, _, _, _, _]) dL_isWell_183 (by decide) rfl ?_
        refine J_aload_n dL_isWell_185 rfl ?_
        refine J_iload dL_isWell_186 rfl ?_
        refine J_iconst (x := 2) dL_isWell_188 (by decide) ?_
        refine J_callV (As := [_, _]) (rest := []) (M' := m_X6_link) dL_isWell_189 ml_R_law_48 gm_X6_link gv_X6_link hW.1.o hW.b1 rfl rfl rfl (Nat.le_of_ble_eq_true rfl) (by decide) ⟨rfl, rfl, by decide, by decide⟩ (q1_link hW (fun h1 hW1 => ?_))
        replace hW := hW1
        rw [v_l2 hy h4]
        refine J_iload_n dL_isWell_192 rfl ?_
        refine J_icmp_gt (tgt := 211) dL_isWell_193 (by decide) (fun c193 => ?_) (fun c193 => ?_)
        · refine J_iconst (x := 0) dL_isWell_211 (by decide) ?_
          refine J_istore (L' := [_, _, _, _, _, _, _, _, _, _, _, _, _, _]) dL_isWell_212 (by decide) rfl ?_
          refine J_iload dL_isWell_214 rfl ?_
          refine J_iload dL_isWell_216 rfl ?_
          refine J_if_eq (tgt := 225) dL_isWell_218 (by decide) (fun c218 => ?_) (fun c218 => absurd rfl c218)
          refine J_iconst (x := 0) dL_isWell_225 (by decide) ?_
          refine J_iadd dL_isWell_226 ?_
          rw [show nI ((s.1.take k).countP (lvB (m : Int))) + 0 = nI ((s.1.take (k + 1)).countP (lvB (m : Int))) from by rw [take_succ_cnt _ hy, if_neg hlv]; exact Int32.add_zero _]
          refine J_istore (L' := [_, _, _, _, _, _, _, _, _, _, _, _, _, _]) dL_isWell_227 (by decide) rfl ?_
          refine J_iload dL_isWell_229 rfl ?_
          refine J_iload dL_isWell_231 rfl ?_
          refine J_iconst (x := 1) dL_isWell_233 (by decide) ?_
          refine J_icmp_ne (tgt := 241) dL_isWell_234 (by decide) (fun c234 => ?_) (fun c234 => absurd c234 (by decide))
          refine J_iconst (x := 0) dL_isWell_241 (by decide) ?_
          refine J_iadd dL_isWell_242 ?_
          rw [show nI (sumN (nlN s.1 m) k) + 0 = nI (sumN (nlN s.1 m) (k + 1)) from by rw [show sumN (nlN s.1 m) (k + 1) = sumN (nlN s.1 m) k + nlN s.1 m k from rfl, nlN_of hy, oneI_f hnd]; exact Int32.add_zero _]
          refine J_istore (L' := [_, _, _, _, _, _, _, _, _, _, _, _, _, _]) dL_isWell_243 (by decide) rfl ?_
          refine J_iload dL_isWell_245 rfl ?_
          refine J_if_eq (tgt := 355) dL_isWell_247 (by decide) (fun c247 => absurd c247 (by decide)) (fun c247 => ?_)
          refine J_iload dL_isWell_250 rfl ?_
          refine J_bipush (x := -5) dL_isWell_252 (by decide) ?_
          refine J_icmp_ne (tgt := 261) dL_isWell_254 (by decide) (fun c254 => absurd rfl c254) (fun c254 => ?_)
          refine J_iconst (x := 1) dL_isWell_257 (by decide) ?_
          refine J_goto (tgt := 262) dL_isWell_258 (by decide) ?_
          refine J_iload dL_isWell_262 rfl ?_
          refine J_if_ne (tgt := 271) dL_isWell_264 (by decide) (fun c264 => absurd rfl c264) (fun c264 => ?_)
          refine J_iconst (x := 1) dL_isWell_267 (by decide) ?_
          refine J_goto (tgt := 272) dL_isWell_268 (by decide) ?_
          refine J_icmp_ne (tgt := 355) dL_isWell_272 (by decide) (fun c272 => absurd rfl c272) (fun c272 => ?_)
          refine J_iload dL_isWell_275 rfl ?_
          refine J_if_eq (tgt := 303) dL_isWell_277 (by decide) (fun c277 => ?_) (fun c277 => absurd rfl c277)
          refine J_aload_n dL_isWell_303 rfl ?_
          refine J_iload dL_isWell_304 rfl ?_
          refine J_iconst (x := 5) dL_isWell_306 (by decide) ?_
          refine J_callV (As := [_, _]) (rest := []) (M' := m_X6_link) dL_isWell_307 ml_R_law_48 gm_X6_link gv_X6_link hW.1.o hW.b1 rfl rfl rfl (Nat.le_of_ble_eq_true rfl) (by decide) ⟨rfl, rfl, by decide, by decide⟩ (q1_link hW (fun h1 hW1 => ?_))
          replace hW := hW1
          rw [v_l5 hy h4]
          refine J_aload_n dL_isWell_310 rfl ?_
          refine J_iload dL_isWell_311 rfl ?_
          refine J_iconst (x := 3) dL_isWell_313 (by decide) ?_
          refine J_callV (As := [_, _]) (rest := [_]) (M' := m_X6_link) dL_isWell_314 ml_R_law_48 gm_X6_link gv_X6_link hW.1.o hW.b1 rfl rfl rfl (Nat.le_of_ble_eq_true rfl) (by decide) ⟨rfl, rfl, by decide, by decide⟩ (q1_link hW (fun h1 hW1 => ?_))
          replace hW := hW1
          rw [v_l3 hy h4]
          refine J_aload_n dL_isWell_317 rfl ?_
          refine J_iload dL_isWell_318 rfl ?_
          refine J_iconst (x := 2) dL_isWell_320 (by decide) ?_
          refine J_callV (As := [_, _]) (rest := [_, _]) (M' := m_X6_link) dL_isWell_321 ml_R_law_48 gm_X6_link gv_X6_link hW.1.o hW.b1 rfl rfl rfl (Nat.le_of_ble_eq_true rfl) (by decide) ⟨rfl, rfl, by decide, by decide⟩ (q1_link hW (fun h1 hW1 => ?_))
          replace hW := hW1
          rw [v_l2 hy h4]
          refine J_isub dL_isWell_324 ?_
          rw [pk_sub (a := y.2.2.2) (b := y.2.2.1) (by omega)]
          refine J_icmp_gt (tgt := 355) dL_isWell_325 (by decide) (fun c325 => absurd c325 (nI_nlt hnm (by omega))) (fun c325 => ?_)
          refine J_aload_n dL_isWell_328 rfl ?_
          refine J_iload dL_isWell_329 rfl ?_
          refine J_iconst (x := 4) dL_isWell_331 (by decide) ?_
          refine J_callV (As := [_, _]) (rest := []) (M' := m_X6_link) dL_isWell_332 ml_R_law_48 gm_X6_link gv_X6_link hW.1.o hW.b1 rfl rfl rfl (Nat.le_of_ble_eq_true rfl) (by decide) ⟨rfl, rfl, by decide, by decide⟩ (q1_link hW (fun h1 hW1 => ?_))
          replace hW := hW1
          rw [v_l4 hy h4]
          refine J_iconst (x := 1) dL_isWell_335 (by decide) ?_
          refine J_icmp_lt (tgt := 355) dL_isWell_336 (by decide) (fun c336 => absurd c336 (nI_nlt (b := 1) hsp.1 (by omega))) (fun c336 => ?_)
          refine J_aload_n dL_isWell_339 rfl ?_
          refine J_iload dL_isWell_340 rfl ?_
          refine J_iconst (x := 4) dL_isWell_342 (by decide) ?_
          refine J_callV (As := [_, _]) (rest := []) (M' := m_X6_link) dL_isWell_343 ml_R_law_48 gm_X6_link gv_X6_link hW.1.o hW.b1 rfl rfl rfl (Nat.le_of_ble_eq_true rfl) (by decide) ⟨rfl, rfl, by decide, by decide⟩ (q1_link hW (fun h1 hW1 => ?_))
          replace hW := hW1
          rw [v_l4 hy h4]
          refine J_bipush (x := 11) dL_isWell_346 (by decide) ?_
          refine J_icmp_gt (tgt := 355) dL_isWell_348 (by decide) (fun c348 => absurd c348 (nI_nlt (a := 11) hsp.2 (by omega))) (fun c348 => ?_)
          refine J_iconst (x := 1) dL_isWell_351 (by decide) ?_
          refine J_goto (tgt := 356) dL_isWell_352 (by decide) ?_
          refine J_istore (L' := [_, _, _, _, _, _, _, _, _, _, _, _, _, _]) dL_isWell_356 (by decide) rfl ?_
          refine J_iinc (L' := [_, _, _, _, _, _, _, _, _, _, _, _, _, _]) dL_isWell_358 rfl (nI_i1 k) (by decide) rfl ?_
          refine J_goto (tgt := 169) dL_isWell_361 (by decide) ?_
          refine J_drop [12, 13] rfl ?_
          exact ih (k + 1) _ (by omega) (by omega) hW
        · refine J_iload_n dL_isWell_196 rfl ?_
          refine J_aload_n dL_isWell_197 rfl ?_
          refine J_iload dL_isWell_198 rfl ?_
          refine J_iconst (x := 3) dL_isWell_200 (by decide) ?_
          refine J_callV (As := [_, _]) (rest := [_]) (M' := m_X6_link) dL_isWell_201 ml_R_law_48 gm_X6_link gv_X6_link hW.1.o hW.b1 rfl rfl rfl (Nat.le_of_ble_eq_true rfl) (by decide) ⟨rfl, rfl, by decide, by decide⟩ (q1_link hW (fun h1 hW1 => ?_))
          replace hW := hW1
          rw [v_l3 hy h4]
          refine J_icmp_ge (tgt := 211) dL_isWell_204 (by decide) (fun c204 => ?_) (fun c204 => absurd (show False from by have q1 := Nat.not_lt.mp (fun z => c193 ((nI_ltI (by omega) (by omega)).mpr z)); have q2 := Nat.not_le.mp (fun z => c204 ((nI_leI (by omega) (by omega)).mpr z)); exact hlv2 ⟨q1, q2⟩) id)
          refine J_iconst (x := 0) dL_isWell_211 (by decide) ?_
          refine J_istore (L' := [_, _, _, _, _, _, _, _, _, _, _, _, _, _]) dL_isWell_212 (by decide) rfl ?_
          refine J_iload dL_isWell_214 rfl ?_
          refine J_iload dL_isWell_216 rfl ?_
          refine J_if_eq (tgt := 225) dL_isWell_218 (by decide) (fun c218 => ?_) (fun c218 => absurd rfl c218)
          refine J_iconst (x := 0) dL_isWell_225 (by decide) ?_
          refine J_iadd dL_isWell_226 ?_
          rw [show nI ((s.1.take k).countP (lvB (m : Int))) + 0 = nI ((s.1.take (k + 1)).countP (lvB (m : Int))) from by rw [take_succ_cnt _ hy, if_neg hlv]; exact Int32.add_zero _]
          refine J_istore (L' := [_, _, _, _, _, _, _, _, _, _, _, _, _, _]) dL_isWell_227 (by decide) rfl ?_
          refine J_iload dL_isWell_229 rfl ?_
          refine J_iload dL_isWell_231 rfl ?_
          refine J_iconst (x := 1) dL_isWell_233 (by decide) ?_
          refine J_icmp_ne (tgt := 241) dL_isWell_234 (by decide) (fun c234 => ?_) (fun c234 => absurd c234 (by decide))
          refine J_iconst (x := 0) dL_isWell_241 (by decide) ?_
          refine J_iadd dL_isWell_242 ?_
          rw [show nI (sumN (nlN s.1 m) k) + 0 = nI (sumN (nlN s.1 m) (k + 1)) from by rw [show sumN (nlN s.1 m) (k + 1) = sumN (nlN s.1 m) k + nlN s.1 m k from rfl, nlN_of hy, oneI_f hnd]; exact Int32.add_zero _]
          refine J_istore (L' := [_, _, _, _, _, _, _, _, _, _, _, _, _, _]) dL_isWell_243 (by decide) rfl ?_
          refine J_iload dL_isWell_245 rfl ?_
          refine J_if_eq (tgt := 355) dL_isWell_247 (by decide) (fun c247 => absurd c247 (by decide)) (fun c247 => ?_)
          refine J_iload dL_isWell_250 rfl ?_
          refine J_bipush (x := -5) dL_isWell_252 (by decide) ?_
          refine J_icmp_ne (tgt := 261) dL_isWell_254 (by decide) (fun c254 => absurd rfl c254) (fun c254 => ?_)
          refine J_iconst (x := 1) dL_isWell_257 (by decide) ?_
          refine J_goto (tgt := 262) dL_isWell_258 (by decide) ?_
          refine J_iload dL_isWell_262 rfl ?_
          refine J_if_ne (tgt := 271) dL_isWell_264 (by decide) (fun c264 => absurd rfl c264) (fun c264 => ?_)
          refine J_iconst (x := 1) dL_isWell_267 (by decide) ?_
          refine J_goto (tgt := 272) dL_isWell_268 (by decide) ?_
          refine J_icmp_ne (tgt := 355) dL_isWell_272 (by decide) (fun c272 => absurd rfl c272) (fun c272 => ?_)
          refine J_iload dL_isWell_275 rfl ?_
          refine J_if_eq (tgt := 303) dL_isWell_277 (by decide) (fun c277 => ?_) (fun c277 => absurd rfl c277)
          refine J_aload_n dL_isWell_303 rfl ?_
          refine J_iload dL_isWell_304 rfl ?_
          refine J_iconst (x := 5) dL_isWell_306 (by decide) ?_
          refine J_callV (As := [_, _]) (rest := []) (M' := m_X6_link) dL_isWell_307 ml_R_law_48 gm_X6_link gv_X6_link hW.1.o hW.b1 rfl rfl rfl (Nat.le_of_ble_eq_true rfl) (by decide) ⟨rfl, rfl, by decide, by decide⟩ (q1_link hW (fun h1 hW1 => ?_))
          replace hW := hW1
          rw [v_l5 hy h4]
          refine J_aload_n dL_isWell_310 rfl ?_
          refine J_iload dL_isWell_311 rfl ?_
          refine J_iconst (x := 3) dL_isWell_313 (by decide) ?_
          refine J_callV (As := [_, _]) (rest := [_]) (M' := m_X6_link) dL_isWell_314 ml_R_law_48 gm_X6_link gv_X6_link hW.1.o hW.b1 rfl rfl rfl (Nat.le_of_ble_eq_true rfl) (by decide) ⟨rfl, rfl, by decide, by decide⟩ (q1_link hW (fun h1 hW1 => ?_))
          replace hW := hW1
          rw [v_l3 hy h4]
          refine J_aload_n dL_isWell_317 rfl ?_
          refine J_iload dL_isWell_318 rfl ?_
          refine J_iconst (x := 2) dL_isWell_320 (by decide) ?_
          refine J_callV (As := [_, _]) (rest := [_, _]) (M' := m_X6_link) dL_isWell_321 ml_R_law_48 gm_X6_link gv_X6_link hW.1.o hW.b1 rfl rfl rfl (Nat.le_of_ble_eq_true rfl) (by decide) ⟨rfl, rfl, by decide, by decide⟩ (q1_link hW (fun h1 hW1 => ?_))
          replace hW := hW1
          rw [v_l2 hy h4]
          refine J_isub dL_isWell_324 ?_
          rw [pk_sub (a := y.2.2.2) (b := y.2.2.1) (by omega)]
          refine J_icmp_gt (tgt := 355) dL_isWell_325 (by decide) (fun c325 => absurd c325 (nI_nlt hnm (by omega))) (fun c325 => ?_)
          refine J_aload_n dL_isWell_328 rfl ?_
          refine J_iload dL_isWell_329 rfl ?_
          refine J_iconst (x := 4) dL_isWell_331 (by decide) ?_
          refine J_callV (As := [_, _]) (rest := []) (M' := m_X6_link) dL_isWell_332 ml_R_law_48 gm_X6_link gv_X6_link hW.1.o hW.b1 rfl rfl rfl (Nat.le_of_ble_eq_true rfl) (by decide) ⟨rfl, rfl, by decide, by decide⟩ (q1_link hW (fun h1 hW1 => ?_))
          replace hW := hW1
          rw [v_l4 hy h4]
          refine J_iconst (x := 1) dL_isWell_335 (by decide) ?_
          refine J_icmp_lt (tgt := 355) dL_isWell_336 (by decide) (fun c336 => absurd c336 (nI_nlt (b := 1) hsp.1 (by omega))) (fun c336 => ?_)
          refine J_aload_n dL_isWell_339 rfl ?_
          refine J_iload dL_isWell_340 rfl ?_
          refine J_iconst (x := 4) dL_isWell_342 (by decide) ?_
          refine J_callV (As := [_, _]) (rest := []) (M' := m_X6_link) dL_isWell_343 ml_R_law_48 gm_X6_link gv_X6_link hW.1.o hW.b1 rfl rfl rfl (Nat.le_of_ble_eq_true rfl) (by decide) ⟨rfl, rfl, by decide, by decide⟩ (q1_link hW (fun h1 hW1 => ?_))
          replace hW := hW1
          rw [v_l4 hy h4]
          refine J_bipush (x := 11) dL_isWell_346 (by decide) ?_
          refine J_icmp_gt (tgt := 355) dL_isWell_348 (by decide) (fun c348 => absurd c348 (nI_nlt (a := 11) hsp.2 (by omega))) (fun c348 => ?_)
          refine J_iconst (x := 1) dL_isWell_351 (by decide) ?_
          refine J_goto (tgt := 356) dL_isWell_352 (by decide) ?_
          refine J_istore (L' := [_, _, _, _, _, _, _, _, _, _, _, _, _, _]) dL_isWell_356 (by decide) rfl ?_
          refine J_iinc (L' := [_, _, _, _, _, _, _, _, _, _, _, _, _, _]) dL_isWell_358 rfl (nI_i1 k) (by decide) rfl ?_
          refine J_goto (tgt := 169) dL_isWell_361 (by decide) ?_
          refine J_drop [12, 13] rfl ?_
          exact ih (k + 1) _ (by omega) (by omega) hW
theorem k100_L_isWell {m a b : Nat} (hm : m < 64) (ha : a < 16) (hb : b < 16) (hQ : ∀ h', W3 h' s s2 → Q (some (.int 1)) h') (hW : W3 h s s2) : J m_L_isWell 7 0 0 0 0 100 [some (.ref 1), some (.int x), some (.int (nI m)), some (.int (nI a)), some (.int (nI b)), some (.int (nI s.1.length)), some (.int 0), some (.int 0), some (.int 0), some (.int 0), none, none, none, none] [] h Q := by
  have hO := hW.hO
  have h4 := hW.h4
  have g1 : pSz s.1 m a ≤ maxN (pSz s.1 m) 16 := maxN_ge ha
  have g2 : maxN (pSz s.1 m) 16 ≤ 16 := maxN_le (fun k => pSz_le s.1 m k) 16
  rcases Classical.em (CM s.1 m a b) with q | q
  · refine J_aload_n dL_isWell_100 rfl ?_
    refine J_iload_n dL_isWell_101 rfl ?_
    refine J_iload_n dL_isWell_102 rfl ?_
    refine J_iload dL_isWell_103 rfl ?_
    refine J_callV (As := [_, _, _]) (rest := []) (M' := m_X6_joined) dL_isWell_105 ml_R_law_66 gm_X6_joined gv_X6_joined hW.1.o hW.b1 rfl rfl rfl (Nat.le_of_ble_eq_true rfl) (by decide) ⟨rfl, rfl, by decide, by decide⟩ (q1_joined hW (fun h1 hW1 => ?_))
    replace hW := hW1
    rw [v_j hm ha hb, bI_t q]
    refine J_iconst (x := 1) dL_isWell_108 (by decide) ?_
    refine J_icmp_ne (tgt := 116) dL_isWell_109 (by decide) (fun c109 => absurd rfl c109) (fun c109 => ?_)
    refine J_iconst (x := 1) dL_isWell_112 (by decide) ?_
    refine J_goto (tgt := 117) dL_isWell_113 (by decide) ?_
    refine J_aload_n dL_isWell_117 rfl ?_
    refine J_iload_n dL_isWell_118 rfl ?_
    refine J_iload_n dL_isWell_119 rfl ?_
    refine J_iconst (x := 0) dL_isWell_120 (by decide) ?_
    refine J_callV (As := [_, _, _]) (rest := [_]) (M' := m_X6_part) dL_isWell_121 ml_R_law_60 gm_X6_part gv_X6_part hW.1.o hW.b1 rfl rfl rfl (Nat.le_of_ble_eq_true rfl) (by decide) ⟨rfl, rfl, by decide, by decide⟩ (q1_part hW (fun h1 hW1 => ?_))
    replace hW := hW1
    rw [v_p0 hm ha]
    refine J_aload_n dL_isWell_124 rfl ?_
    refine J_iload_n dL_isWell_125 rfl ?_
    refine J_iload dL_isWell_126 rfl ?_
    refine J_iconst (x := 0) dL_isWell_128 (by decide) ?_
    refine J_callV (As := [_, _, _]) (rest := [_, _]) (M' := m_X6_part) dL_isWell_129 ml_R_law_60 gm_X6_part gv_X6_part hW.1.o hW.b1 rfl rfl rfl (Nat.le_of_ble_eq_true rfl) (by decide) ⟨rfl, rfl, by decide, by decide⟩ (q1_part hW (fun h1 hW1 => ?_))
    replace hW := hW1
    rw [v_p0 hm hb]
    rw [(lw_eq ha hb).mpr q]
    refine J_icmp_ne (tgt := 139) dL_isWell_132 (by decide) (fun c132 => absurd rfl c132) (fun c132 => ?_)
    refine J_iconst (x := 1) dL_isWell_135 (by decide) ?_
    refine J_goto (tgt := 140) dL_isWell_136 (by decide) ?_
    refine J_icmp_ne (tgt := 163) dL_isWell_140 (by decide) (fun c140 => absurd rfl c140) (fun c140 => ?_)
    refine J_aload_n dL_isWell_143 rfl ?_
    refine J_iload_n dL_isWell_144 rfl ?_
    refine J_iload_n dL_isWell_145 rfl ?_
    refine J_iconst (x := 1) dL_isWell_146 (by decide) ?_
    refine J_callV (As := [_, _, _]) (rest := []) (M' := m_X6_part) dL_isWell_147 ml_R_law_60 gm_X6_part gv_X6_part hW.1.o hW.b1 rfl rfl rfl (Nat.le_of_ble_eq_true rfl) (by decide) ⟨rfl, rfl, by decide, by decide⟩ (q1_part hW (fun h1 hW1 => ?_))
    replace hW := hW1
    rw [v_p1 hm ha]
    refine J_aload_n dL_isWell_150 rfl ?_
    refine J_iload_n dL_isWell_151 rfl ?_
    refine J_iconst (x := 3) dL_isWell_152 (by decide) ?_
    refine J_callV (As := [_, _]) (rest := [_]) (M' := m_X6_moment) dL_isWell_153 ml_R_law_32 gm_X6_moment gv_X6_moment hW.1.o hW.b1 rfl rfl rfl (Nat.le_of_ble_eq_true rfl) (by decide) ⟨rfl, rfl, by decide, by decide⟩ (q1_moment hW (fun h1 hW1 => ?_))
    replace hW := hW1
    rw [v_m3 hm]
    refine J_icmp_gt (tgt := 163) dL_isWell_156 (by decide) (fun c156 => absurd c156 (nI_nlt (g1) (by omega))) (fun c156 => ?_)
    refine J_iconst (x := 1) dL_isWell_159 (by decide) ?_
    refine J_goto (tgt := 164) dL_isWell_160 (by decide) ?_
    refine J_istore (L' := [_, _, _, _, _, _, _, _, _, _, _, _, _, _]) dL_isWell_164 (by decide) rfl ?_
    refine J_iconst (x := 0) dL_isWell_166 (by decide) ?_
    refine J_istore (L' := [_, _, _, _, _, _, _, _, _, _, _, _, _, _]) dL_isWell_167 (by decide) rfl ?_
    exact l1_L_isWell hm ha hb hW.hO hW.h4 hQ (s.1.length + 1) 0 _ (by omega) (by omega) hW
  · refine J_aload_n dL_isWell_100 rfl ?_
    refine J_iload_n dL_isWell_101 rfl ?_
    refine J_iload_n dL_isWell_102 rfl ?_
    refine J_iload dL_isWell_103 rfl ?_
    refine J_callV (As := [_, _, _]) (rest := []) (M' := m_X6_joined) dL_isWell_105 ml_R_law_66 gm_X6_joined gv_X6_joined hW.1.o hW.b1 rfl rfl rfl (Nat.le_of_ble_eq_true rfl) (by decide) ⟨rfl, rfl, by decide, by decide⟩ (q1_joined hW (fun h1 hW1 => ?_))
    replace hW := hW1
    rw [v_j hm ha hb, bI_f q]
    refine J_iconst (x := 1) dL_isWell_108 (by decide) ?_
    refine J_icmp_ne (tgt := 116) dL_isWell_109 (by decide) (fun c109 => ?_) (fun c109 => absurd c109 (by decide))
    refine J_iconst (x := 0) dL_isWell_116 (by decide) ?_
    refine J_aload_n dL_isWell_117 rfl ?_
    refine J_iload_n dL_isWell_118 rfl ?_
    refine J_iload_n dL_isWell_119 rfl ?_
    refine J_iconst (x := 0) dL_isWell_120 (by decide) ?_
    refine J_callV (As := [_, _, _]) (rest := [_]) (M' := m_X6_part) dL_isWell_121 ml_R_law_60 gm_X6_part gv_X6_part hW.1.o hW.b1 rfl rfl rfl (Nat.le_of_ble_eq_true rfl) (by decide) ⟨rfl, rfl, by decide, by decide⟩ (q1_part hW (fun h1 hW1 => ?_))
    replace hW := hW1
    rw [v_p0 hm ha]
    refine J_aload_n dL_isWell_124 rfl ?_
    refine J_iload_n dL_isWell_125 rfl ?_
    refine J_iload dL_isWell_126 rfl ?_
    refine J_iconst (x := 0) dL_isWell_128 (by decide) ?_
    refine J_callV (As := [_, _, _]) (rest := [_, _]) (M' := m_X6_part) dL_isWell_129 ml_R_law_60 gm_X6_part gv_X6_part hW.1.o hW.b1 rfl rfl rfl (Nat.le_of_ble_eq_true rfl) (by decide) ⟨rfl, rfl, by decide, by decide⟩ (q1_part hW (fun h1 hW1 => ?_))
    replace hW := hW1
    rw [v_p0 hm hb]
    refine J_icmp_ne (tgt := 139) dL_isWell_132 (by decide) (fun c132 => ?_) (fun c132 => absurd ((lw_eq ha hb).mp ((nI_eq (by have := (lw_spec (ls := s.1) (m := m) ha).1; omega) (by have := (lw_spec (ls := s.1) (m := m) hb).1; omega)).mp c132)) q)
    refine J_iconst (x := 0) dL_isWell_139 (by decide) ?_
    refine J_icmp_ne (tgt := 163) dL_isWell_140 (by decide) (fun c140 => absurd rfl c140) (fun c140 => ?_)
    refine J_aload_n dL_isWell_143 rfl ?_
    refine J_iload_n dL_isWell_144 rfl ?_
    refine J_iload_n dL_isWell_145 rfl ?_
    refine J_iconst (x := 1) dL_isWell_146 (by decide) ?_
    refine J_callV (As := [_, _, _]) (rest := []) (M' := m_X6_part) dL_isWell_147 ml_R_law_60 gm_X6_part gv_X6_part hW.1.o hW.b1 rfl rfl rfl (Nat.le_of_ble_eq_true rfl) (by decide) ⟨rfl, rfl, by decide, by decide⟩ (q1_part hW (fun h1 hW1 => ?_))
    replace hW := hW1
    rw [v_p1 hm ha]
    refine J_aload_n dL_isWell_150 rfl ?_
    refine J_iload_n dL_isWell_151 rfl ?_
    refine J_iconst (x := 3) dL_isWell_152 (by decide) ?_
    refine J_callV (As := [_, _]) (rest := [_]) (M' := m_X6_moment) dL_isWell_153 ml_R_law_32 gm_X6_moment gv_X6_moment hW.1.o hW.b1 rfl rfl rfl (Nat.le_of_ble_eq_true rfl) (by decide) ⟨rfl, rfl, by decide, by decide⟩ (q1_moment hW (fun h1 hW1 => ?_))
    replace hW := hW1
    rw [v_m3 hm]
    refine J_icmp_gt (tgt := 163) dL_isWell_156 (by decide) (fun c156 => absurd c156 (nI_nlt (g1) (by omega))) (fun c156 => ?_)
    refine J_iconst (x := 1) dL_isWell_159 (by decide) ?_
    refine J_goto (tgt := 164) dL_isWell_160 (by decide) ?_
    refine J_istore (L' := [_, _, _, _, _, _, _, _, _, _, _, _, _, _]) dL_isWell_164 (by decide) rfl ?_
    refine J_iconst (x := 0) dL_isWell_166 (by decide) ?_
    refine J_istore (L' := [_, _, _, _, _, _, _, _, _, _, _, _, _, _]) dL_isWell_167 (by decide) rfl ?_
    exact l1_L_isWell hm ha hb hW.hO hW.h4 hQ (s.1.length + 1) 0 _ (by omega) (by omega) hW
theorem s_L_isWell (hW : W3 h s s2) (hQ : ∀ h', W3 h' s s2 → Q (some (.int 1)) h') : MJ m_L_isWell 7 0 0 [.ref 1, .int x] h Q := by
  have h4 := hW.h4
  refine MJ_of_J (L := [some (.ref 1), some (.int x), none, none, none, none, none, none, none, none, none, none, none, none]) (by decide +kernel) rfl (Nat.le_of_ble_eq_true rfl) rfl ?_
  refine J_iload_n dL_isWell_0 rfl ?_
  refine J_bipush (x := 64) dL_isWell_1 (by decide) ?_
  refine J_callS (As := [_, _]) (rest := []) (M' := m_L_up) dL_isWell_3 ml_R_law_15 gm_L_up sm_yL_up rfl rfl (Nat.le_of_ble_eq_true rfl) (by decide) ⟨rfl, rfl, by decide, by decide⟩ (s_L_up (n := 64) rfl (by decide) (by decide) (fun m hm => ?_))
  refine J_istore_n (L' := [_, _, _, _, _, _, _, _, _, _, _, _, _, _]) dL_isWell_6 (by decide) rfl ?_
  refine J_iload_n dL_isWell_7 rfl ?_
  refine J_bipush (x := 6) dL_isWell_8 (by decide) ?_
  refine J_ishr dL_isWell_10 ?_
  refine J_bipush (x := 16) dL_isWell_11 (by decide) ?_
  refine J_callS (As := [_, _]) (rest := []) (M' := m_L_up) dL_isWell_13 ml_R_law_15 gm_L_up sm_yL_up rfl rfl (Nat.le_of_ble_eq_true rfl) (by decide) ⟨rfl, rfl, by decide, by decide⟩ (s_L_up (n := 16) rfl (by decide) (by decide) (fun a ha => ?_))
  refine J_istore_n (L' := [_, _, _, _, _, _, _, _, _, _, _, _, _, _]) dL_isWell_16 (by decide) rfl ?_
  refine J_iload_n dL_isWell_17 rfl ?_
  refine J_bipush (x := 10) dL_isWell_18 (by decide) ?_
  refine J_ishr dL_isWell_20 ?_
  refine J_bipush (x := 16) dL_isWell_21 (by decide) ?_
  refine J_callS (As := [_, _]) (rest := []) (M' := m_L_up) dL_isWell_23 ml_R_law_15 gm_L_up sm_yL_up rfl rfl (Nat.le_of_ble_eq_true rfl) (by decide) ⟨rfl, rfl, by decide, by decide⟩ (s_L_up (n := 16) rfl (by decide) (by decide) (fun b hb => ?_))
  refine J_istore (L' := [_, _, _, _, _, _, _, _, _, _, _, _, _, _]) dL_isWell_26 (by decide) rfl ?_
  refine J_aload_n dL_isWell_28 rfl ?_
  refine J_iconst (x := 0) dL_isWell_29 (by decide) ?_
  refine J_callV (As := [_]) (rest := []) (M' := m_X6_count) dL_isWell_30 ml_R_law_9 gm_X6_count gv_X6_count hW.1.o hW.b1 rfl rfl rfl (Nat.le_of_ble_eq_true rfl) (by decide) ⟨rfl, rfl, by decide, by decide⟩ (q1_count hW (fun h1 hW1 => ?_))
  replace hW := hW1
  rw [v_c0]
  refine J_istore (L' := [_, _, _, _, _, _, _, _, _, _, _, _, _, _]) dL_isWell_33 (by decide) rfl ?_
  refine J_iconst (x := 0) dL_isWell_35 (by decide) ?_
  refine J_istore (L' := [_, _, _, _, _, _, _, _, _, _, _, _, _, _]) dL_isWell_36 (by decide) rfl ?_
  refine J_iconst (x := 0) dL_isWell_38 (by decide) ?_
  refine J_istore (L' := [_, _, _, _, _, _, _, _, _, _, _, _, _, _]) dL_isWell_39 (by decide) rfl ?_
  refine J_iconst (x := 0) dL_isWell_41 (by decide) ?_
  refine J_istore (L' := [_, _, _, _, _, _, _, _, _, _, _, _, _, _]) dL_isWell_42 (by decide) rfl ?_
  refine J_iconst (x := 0) dL_isWell_44 (by decide) ?_
  refine J_istore (L' := [_, _, _, _, _, _, _, _, _, _, _, _, _, _]) dL_isWell_45 (by decide) rfl ?_
  refine J_aload_n dL_isWell_47 rfl ?_
  refine J_iload_n dL_isWell_48 rfl ?_
  refine J_iload_n dL_isWell_49 rfl ?_
  refine J_iload_n dL_isWell_50 rfl ?_
  refine J_callV (As := [_, _, _]) (rest := []) (M' := m_X6_joined) dL_isWell_51 ml_R_law_66 gm_X6_joined gv_X6_joined hW.1.o hW.b1 rfl rfl rfl (Nat.le_of_ble_eq_true rfl) (by decide) ⟨rfl, rfl, by decide, by decide⟩ (q1_joined hW (fun h1 hW1 => ?_))
  replace hW := hW1
  rw [v_j hm ha ha, bI_t (show CM s.1 m a a from Cn.rf a)]
  refine J_iconst (x := 1) dL_isWell_54 (by decide) ?_
  refine J_icmp_ne (tgt := 163) dL_isWell_55 (by decide) (fun c55 => absurd rfl c55) (fun c55 => ?_)
  refine J_aload_n dL_isWell_58 rfl ?_
  refine J_iload_n dL_isWell_59 rfl ?_
  refine J_iload_n dL_isWell_60 rfl ?_
  refine J_iload dL_isWell_61 rfl ?_
  refine J_callV (As := [_, _, _]) (rest := []) (M' := m_X6_joined) dL_isWell_63 ml_R_law_66 gm_X6_joined gv_X6_joined hW.1.o hW.b1 rfl rfl rfl (Nat.le_of_ble_eq_true rfl) (by decide) ⟨rfl, rfl, by decide, by decide⟩ (q1_joined hW (fun h1 hW1 => ?_))
  replace hW := hW1
  rw [v_j hm ha hb]
  refine J_aload_n dL_isWell_66 rfl ?_
  refine J_iload_n dL_isWell_67 rfl ?_
  refine J_iload dL_isWell_68 rfl ?_
  refine J_iload_n dL_isWell_70 rfl ?_
  refine J_callV (As := [_, _, _]) (rest := [_]) (M' := m_X6_joined) dL_isWell_71 ml_R_law_66 gm_X6_joined gv_X6_joined hW.1.o hW.b1 rfl rfl rfl (Nat.le_of_ble_eq_true rfl) (by decide) ⟨rfl, rfl, by decide, by decide⟩ (q1_joined hW (fun h1 hW1 => ?_))
  replace hW := hW1
  rw [v_j hm hb ha, show bI (CM s.1 m b a) = bI (CM s.1 m a b) from congrArg bI (propext ⟨Cn.sm, Cn.sm⟩)]
  refine J_icmp_ne (tgt := 163) dL_isWell_74 (by decide) (fun c74 => absurd rfl c74) (fun c74 => ?_)
  refine J_aload_n dL_isWell_77 rfl ?_
  refine J_iload_n dL_isWell_78 rfl ?_
  refine J_iload_n dL_isWell_79 rfl ?_
  refine J_iload dL_isWell_80 rfl ?_
  refine J_callV (As := [_, _, _]) (rest := []) (M' := m_X6_joined) dL_isWell_82 ml_R_law_66 gm_X6_joined gv_X6_joined hW.1.o hW.b1 rfl rfl rfl (Nat.le_of_ble_eq_true rfl) (by decide) ⟨rfl, rfl, by decide, by decide⟩ (q1_joined hW (fun h1 hW1 => ?_))
  replace hW := hW1
  rw [v_j hm ha hb]
  refine J_aload_n dL_isWell_85 rfl ?_
  refine J_iload_n dL_isWell_86 rfl ?_
  refine J_iload_n dL_isWell_87 rfl ?_
  refine J_iconst (x := 2) dL_isWell_88 (by decide) ?_
  refine J_callV (As := [_, _, _]) (rest := [_]) (M' := m_X6_part) dL_isWell_89 ml_R_law_60 gm_X6_part gv_X6_part hW.1.o hW.b1 rfl rfl rfl (Nat.le_of_ble_eq_true rfl) (by decide) ⟨rfl, rfl, by decide, by decide⟩ (q1_part hW (fun h1 hW1 => ?_))
  replace hW := hW1
  rw [v_p2 hm ha]
  refine J_iload dL_isWell_92 rfl ?_
  refine J_ishr dL_isWell_94 ?_
  refine J_iconst (x := 1) dL_isWell_95 (by decide) ?_
  refine J_iand dL_isWell_96 ?_
  rw [BS_bit (bt_spec (ls := s.1) m a) hb]
  refine J_icmp_ne (tgt := 163) dL_isWell_97 (by decide) (fun c97 => absurd rfl c97) (fun c97 => ?_)
  exact k100_L_isWell hm ha hb hQ hW
end IsWell
