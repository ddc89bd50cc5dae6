theorem sw_of (x : Int32) (n : Nat) (hn : n < 100) : (x.toInt < 0 ∨ (n : Int) - 1 < x.toInt) ∨ ∃ j : Nat, j < n ∧ x = nI j := by
  by_cases h0 : x < 0
  · left; left
    rw [Int32.lt_iff_toInt_lt] at h0
    exact h0
  · obtain ⟨j, hj, rfl⟩ := nI_of h0
    by_cases h : j < n
    · exact Or.inr ⟨j, h, rfl⟩
    · left; right
      rw [nI_toInt hj]; omega
/-- one of several numbers -/
noncomputable def sel (w : Int32) (l : List Int32) : Int32 := ci (IX w l.length) (l.getD (tN w) 0) (-2)
theorem sel_o {w : Int32} {l : List Int32} (hl : l.length < 100) (h : w.toInt < 0 ∨ (l.length : Int) - 1 < w.toInt) : sel w l = -2 := by
  unfold sel
  rw [ci_f]
  rintro ⟨j, hj, rfl⟩
  rw [nI_toInt (by omega)] at h
  omega
theorem sel_i {j : Nat} {l : List Int32} (hl : l.length < 100) (h : j < l.length) : sel (nI j) l = l.getD j 0 := by
  unfold sel
  rw [ci_t ⟨j, h, rfl⟩, tN_n (by omega)]
theorem sel_e {j : Nat} {l : List Int32} {v : Int32} (hl : Nat.ble l.length 99 = true) (e : l[j]? = some v) : v = sel (nI j) l := by
  have h1 := Nat.le_of_ble_eq_true hl
  have h2 := (List.getElem?_eq_some_iff.mp e).1
  rw [sel_i (by omega) h2, List.getD_eq_getElem?_getD, e]
  rfl
noncomputable def lwN (ls : List Lk) (m p : Nat) : Nat := Classical.epsilon (fun l => l < 16 ∧ CM ls m p l ∧ ∀ y, y < l → ¬ CM ls m p y)
theorem lwN_of {ls : List Lk} {m p l : Nat} (h1 : l < 16) (h2 : CM ls m p l) (h3 : ∀ y, y < l → ¬ CM ls m p y) : l = lwN ls m p := by
  have e : lwN ls m p < 16 ∧ CM ls m p (lwN ls m p) ∧ ∀ y, y < lwN ls m p → ¬ CM ls m p y := Classical.epsilon_spec (p := fun l => l < 16 ∧ CM ls m p l ∧ ∀ y, y < l → ¬ CM ls m p y) ⟨l, h1, h2, h3⟩
  rcases Nat.lt_trichotomy l (lwN ls m p) with q | q | q
  · exact absurd h2 (e.2.2 _ q)
  · exact q
  · exact absurd e.2.1 (h3 _ q)
noncomputable def btN (ls : List Lk) (m p : Nat) : Int32 := Classical.epsilon (fun r => BS r (fun i => CM ls m p i))
theorem btN_of {ls : List Lk} {m p : Nat} {r : Int32} (h : BS r (fun i => CM ls m p i)) : r = btN ls m p :=
  h.uniq (Classical.epsilon_spec (p := fun r => BS r (fun i => CM ls m p i)) ⟨r, h⟩)
/-- going through the moments: how many, the first, the last, the row, the longest one, its begin -/
abbrev TG : Type := Nat × Int32 × Int32 × Nat × Nat × Int32
noncomputable def tgS (P : Nat → Prop) (m : Nat) (t : TG) : TG :=
  let row := ci (P m) (t.2.2.2.1 + 1) 0
  (ci (P m) (t.1 + 1) t.1, ci (P m ∧ t.1 = 0) (nI m) t.2.1, ci (P m) (nI m) t.2.2.1, row, ci (t.2.2.2.2.1 < row) row t.2.2.2.2.1, ci (t.2.2.2.2.1 < row) (nI m - nI row + 1) t.2.2.2.2.2)
noncomputable def tgN (P : Nat → Prop) : Nat → TG
  | 0 => (0, -5, -5, 0, 0, -5)
  | m + 1 => tgS P m (tgN P m)
noncomputable def fsO (P : Nat → Prop) : Nat → Nat → Int32
  | 0, _ => -5
  | n + 1, m => ci (P m) (nI m) (fsO P n (m + 1))
noncomputable def f_link (x v : Int32) (s : St) : Int32 := ci (¬ IX x s.1.length) (-1) (match s.1[tN x]? with
  | none => 0
  | some y => sel v [nI y.1, nI y.2.1, nI y.2.2.1, nI y.2.2.2, nI (spN y), nI (sumN (nmN s.1 (tN x) y) 64)])
noncomputable def f_joined (m x y : Int32) (s : St) : Int32 := ci (¬ (IX m 64 ∧ IX x 16 ∧ IX y 16)) (-1) (bI (CM s.1 (tN m) (tN x) (tN y)))
noncomputable def f_moment (m v : Int32) (s : St) : Int32 := ci (¬ IX m 64) (-1) (sel v [nI (s.1.countP (lvB (tN m : Int))), nI (pts s.1 (tN m)), bI (OM s.1 (tN m)), nI (maxN (pSz s.1 (tN m)) 16), nI (sumN (nlN s.1 (tN m)) s.1.length), nI (sumN (alN s.1 (tN m)) 16)])
noncomputable def f_part (m p v : Int32) (s : St) : Int32 := ci (¬ (IX m 64 ∧ IX p 16)) (-1) (sel v [nI (lwN s.1 (tN m) (tN p)), nI (pSz s.1 (tN m) (tN p)), btN s.1 (tN m) (tN p)])
noncomputable def f_needed (x m : Int32) (s : St) : Int32 := ci (¬ (IX x s.1.length ∧ IX m 64)) (-1) (match s.1[tN x]? with
  | none => 0
  | some y => ci (¬ lvB (tN m : Int) y = true) (-5) (bI (NM s.1 (tN x) (tN m) y)))
noncomputable def tgL (ls : List Lk) (x y : Nat) : List Int32 :=
  let t := tgN (fun m => CM ls m x y) 64
  [nI t.1, t.2.1, t.2.2.1, nI t.2.2.2.2.1, t.2.2.2.2.2]
noncomputable def f_tog (x y v : Int32) (s : St) : Int32 := ci (¬ (IX x 16 ∧ IX y 16)) (-1) (sel v (tgL s.1 (tN x) (tN y)))
noncomputable def f_odd (m : Int32) (s : St) : Int32 := ci (¬ IX m 64) (-1) (fsO (OM s.1) (64 - tN m) (tN m))
noncomputable def f_span (m d v : Int32) (s : St) : Int32 := ci (¬ IX m 64) (-1) (ci (¬ IX d 7) (-2) (sel v [nI (sb (tN m) (tN d)), nI (sl (tN d)), nI (lcN s.1 (tN m) (tN d)), nI (mdN s.1 (tN m) (tN d)), nI (lcN s.1 (tN m) (tN d)) - nI (mdN s.1 (tN m) (tN d))]))
noncomputable def f_count (v : Int32) (s : St) : Int32 := sel v [nI s.1.length, nI (sp2 (mdN s.1)), nI (sp2 (lcN s.1)) - nI (sp2 (mdN s.1)), nI (mx2 (stN s.1) 64), nI (sumN (omN s.1) 64), nI (maxN (pts s.1) 64), nI (minN (pts s.1) 64), nI s.2.1.length, nI s.2.2.2.length]
section SFace3
variable {h h' : g_H} {a : Nat} {s : St} {Q : Option Value → g_H → Prop}
theorem s_X6_link {x v : Int32} (hC : CI h a s) (hQ : ∀ h' r, r = f_link x v s → Fr a (a + 56) h h' → CI h' a s → Q (some (.int r)) h') : MJ m_X6_link 6 0 0 [.ref a, .int x, .int v] h Q := by
  have hn := hC.L.len
  refine MJ_of_J (L := [some (.ref a), some (.int x), some (.int v)]) (by decide +kernel) rfl (Nat.le_of_ble_eq_true rfl) rfl ?_
  refine J_aload_n dX6_link_0 rfl ?_
  refine J_get (k := 0) dX6_link_1 gc_6 fl_RX6_10 (by decide) hC.o hC.bo rfl ?_
  refine J_iload_n dX6_link_4 rfl ?_
  refine J_callV (As := [_]) (rest := []) (M' := m_X4_has) dX6_link_5 ml_RX6_84 gm_X4_has gv_X4_has hC.L.o hC.L.b rfl rfl rfl (Nat.le_of_ble_eq_true rfl) (by decide) ⟨rfl, rfl, by decide, by decide⟩ (s_X4_has hC.L (fun r1 hr1 => ?_))
  refine J_if_ne (tgt := 13) dX6_link_8 (by decide) (fun c8 => ?_) (fun c8 => ?_)
  · obtain ⟨j, hj, rfl⟩ := nn_of hr1 c8
    obtain ⟨y, hy⟩ := get_of hj
    refine J_iload_n dX6_link_13 rfl ?_
    rcases sw_of v 6 (by decide) with hsw | ⟨jsw, hjsw, rfl⟩
    · refine J_tsOut (tgt := 110) dX6_link_14 (by rcases hsw with q | q; exact Or.inl q; exact Or.inr (by omega)) (by decide) ?_
      refine J_bipush (x := -2) dX6_link_110 (by decide) ?_
      exact J_iret dX6_link_112 rfl ⟨rfl, Nat.le_refl _⟩ (hQ h _ (by unfold f_link; rw [ci_f (fun q => q (nn_of hr1 c8)), tN_n (by omega), hy]; dsimp only; rw [sel_o (Nat.le_of_ble_eq_true rfl) hsw]) Fr.rf hC)
    · rcases (show jsw = 0 ∨ jsw = 1 ∨ jsw = 2 ∨ jsw = 3 ∨ jsw = 4 ∨ jsw = 5 by omega) with rfl | rfl | rfl | rfl | rfl | rfl
      · refine J_tsIn (off := 38) (tgt := 52) dX6_link_14 (by decide) (by decide) (by decide) (by decide) ?_
        refine J_aload_n dX6_link_52 rfl ?_
        refine J_get (k := 0) dX6_link_53 gc_6 fl_RX6_10 (by decide) hC.o hC.bo rfl ?_
        refine J_iload_n dX6_link_56 rfl ?_
        refine J_callV (As := [_]) (rest := []) (M' := m_X4_oneOf) dX6_link_57 ml_RX6_108 gm_X4_oneOf gv_X4_oneOf hC.L.o hC.L.b rfl rfl rfl (Nat.le_of_ble_eq_true rfl) (by decide) ⟨rfl, rfl, by decide, by decide⟩ (s_X4_oneOf hC.L hy (fun r2 hr2 => ?_))
        subst hr2
        exact J_iret dX6_link_60 rfl ⟨rfl, Nat.le_refl _⟩ (hQ h _ (by unfold f_link; rw [ci_f (fun q => q (nn_of hr1 c8)), tN_n (by omega), hy]; dsimp only; exact sel_e (j := 0) (by rfl) (by rfl)) Fr.rf hC)
      · refine J_tsIn (off := 47) (tgt := 61) dX6_link_14 (by decide) (by decide) (by decide) (by decide) ?_
        refine J_aload_n dX6_link_61 rfl ?_
        refine J_get (k := 0) dX6_link_62 gc_6 fl_RX6_10 (by decide) hC.o hC.bo rfl ?_
        refine J_iload_n dX6_link_65 rfl ?_
        refine J_callV (As := [_]) (rest := []) (M' := m_X4_otherOf) dX6_link_66 ml_RX6_111 gm_X4_otherOf gv_X4_otherOf hC.L.o hC.L.b rfl rfl rfl (Nat.le_of_ble_eq_true rfl) (by decide) ⟨rfl, rfl, by decide, by decide⟩ (s_X4_otherOf hC.L hy (fun r2 hr2 => ?_))
        subst hr2
        exact J_iret dX6_link_69 rfl ⟨rfl, Nat.le_refl _⟩ (hQ h _ (by unfold f_link; rw [ci_f (fun q => q (nn_of hr1 c8)), tN_n (by omega), hy]; dsimp only; exact sel_e (j := 1) (by rfl) (by rfl)) Fr.rf hC)
      · refine J_tsIn (off := 56) (tgt := 70) dX6_link_14 (by decide) (by decide) (by decide) (by decide) ?_
        refine J_aload_n dX6_link_70 rfl ?_
        refine J_get (k := 0) dX6_link_71 gc_6 fl_RX6_10 (by decide) hC.o hC.bo rfl ?_
        refine J_iload_n dX6_link_74 rfl ?_
        refine J_callV (As := [_]) (rest := []) (M' := m_X4_fromOf) dX6_link_75 ml_RX6_91 gm_X4_fromOf gv_X4_fromOf hC.L.o hC.L.b rfl rfl rfl (Nat.le_of_ble_eq_true rfl) (by decide) ⟨rfl, rfl, by decide, by decide⟩ (s_X4_fromOf hC.L hy (fun r2 hr2 => ?_))
        subst hr2
        exact J_iret dX6_link_78 rfl ⟨rfl, Nat.le_refl _⟩ (hQ h _ (by unfold f_link; rw [ci_f (fun q => q (nn_of hr1 c8)), tN_n (by omega), hy]; dsimp only; exact sel_e (j := 2) (by rfl) (by rfl)) Fr.rf hC)
      · refine J_tsIn (off := 65) (tgt := 79) dX6_link_14 (by decide) (by decide) (by decide) (by decide) ?_
        refine J_aload_n dX6_link_79 rfl ?_
        refine J_get (k := 0) dX6_link_80 gc_6 fl_RX6_10 (by decide) hC.o hC.bo rfl ?_
        refine J_iload_n dX6_link_83 rfl ?_
        refine J_callV (As := [_]) (rest := []) (M' := m_X4_toOf) dX6_link_84 ml_RX6_95 gm_X4_toOf gv_X4_toOf hC.L.o hC.L.b rfl rfl rfl (Nat.le_of_ble_eq_true rfl) (by decide) ⟨rfl, rfl, by decide, by decide⟩ (s_X4_toOf hC.L hy (fun r2 hr2 => ?_))
        subst hr2
        exact J_iret dX6_link_87 rfl ⟨rfl, Nat.le_refl _⟩ (hQ h _ (by unfold f_link; rw [ci_f (fun q => q (nn_of hr1 c8)), tN_n (by omega), hy]; dsimp only; exact sel_e (j := 3) (by rfl) (by rfl)) Fr.rf hC)
      · refine J_tsIn (off := 74) (tgt := 88) dX6_link_14 (by decide) (by decide) (by decide) (by decide) ?_
        refine J_aload_n dX6_link_88 rfl ?_
        refine J_get (k := 0) dX6_link_89 gc_6 fl_RX6_10 (by decide) hC.o hC.bo rfl ?_
        refine J_iload_n dX6_link_92 rfl ?_
        refine J_callV (As := [_]) (rest := []) (M' := m_X4_spansOf) dX6_link_93 ml_RX6_144 gm_X4_spansOf gv_X4_spansOf hC.L.o hC.L.b rfl rfl rfl (Nat.le_of_ble_eq_true rfl) (by decide) ⟨rfl, rfl, by decide, by decide⟩ (s_X4_spansOf hC.L hy (fun r2 hr2 => ?_))
        subst hr2
        exact J_iret dX6_link_96 rfl ⟨rfl, Nat.le_refl _⟩ (hQ h _ (by unfold f_link; rw [ci_f (fun q => q (nn_of hr1 c8)), tN_n (by omega), hy]; dsimp only; exact sel_e (j := 4) (by rfl) (by rfl)) Fr.rf hC)
      · refine J_tsIn (off := 83) (tgt := 97) dX6_link_14 (by decide) (by decide) (by decide) (by decide) ?_
        refine J_aload_n dX6_link_97 rfl ?_
        refine J_get (k := 6) dX6_link_98 gc_6 fl_RX6_43 (by decide) hC.o hC.bo rfl ?_
        refine J_aload_n dX6_link_101 rfl ?_
        refine J_get (k := 0) dX6_link_102 gc_6 fl_RX6_10 (by decide) hC.o hC.bo rfl ?_
        refine J_iload_n dX6_link_105 rfl ?_
        refine J_callV (As := [_, _]) (rest := []) (M' := m_X5_neededMomentsOf) dX6_link_106 ml_RX6_147 gm_X5_neededMomentsOf gv_X5_neededMomentsOf hC.M.o hC.M.bo rfl rfl rfl (Nat.le_of_ble_eq_true rfl) (by decide) ⟨rfl, rfl, by decide, by decide⟩ (s_X5_neededMomentsOf hy hC.M hC.L (by omega) (fun r5 h1 hr5 hF1 hM1 => ?_))
        replace hC := hC.mom hF1 hM1
        exact J_iret dX6_link_109 rfl ⟨rfl, Nat.le_refl _⟩ (hQ h1 _ (by unfold f_link; rw [ci_f (fun q => q (nn_of hr1 c8)), tN_n (by omega), hy]; dsimp only; rw [hr5]; exact sel_e (j := 5) (by rfl) (by rfl)) (hF1.mono (by omega) (by omega)) hC)
  · refine J_iconst (x := -1) dX6_link_11 (by decide) ?_
    exact J_iret dX6_link_12 rfl ⟨rfl, Nat.le_refl _⟩ (hQ h _ (by unfold f_link; rw [ci_t ((bI_0 hr1).mp c8)]) Fr.rf hC)
theorem s_X6_joined {m x y : Int32} (hC : CI h a s) (hQ : ∀ h' r, r = f_joined m x y s → Fr a (a + 56) h h' → CI h' a s → Q (some (.int r)) h') : MJ m_X6_joined 5 0 0 [.ref a, .int m, .int x, .int y] h Q := by
  have hn := hC.L.len
  refine MJ_of_J (L := [some (.ref a), some (.int m), some (.int x), some (.int y)]) (by decide +kernel) rfl (Nat.le_of_ble_eq_true rfl) rfl ?_
  refine J_iload_n dX6_joined_0 rfl ?_
  refine J_callS (As := [_]) (rest := []) (M' := m_X6_isMoment) dX6_joined_1 ml_RX6_102 gm_X6_isMoment sm_yX6_isMoment rfl rfl (Nat.le_of_ble_eq_true rfl) (by decide) ⟨rfl, rfl, by decide, by decide⟩ (s_X6_isMoment (fun r1 hr1 => ?_))
  refine J_if_eq (tgt := 21) dX6_joined_4 (by decide) (fun c4 => ?_) (fun c4 => ?_)
  · refine J_iconst (x := -1) dX6_joined_21 (by decide) ?_
    exact J_iret dX6_joined_22 rfl ⟨rfl, Nat.le_refl _⟩ (hQ h _ (by unfold f_joined; rw [ci_t (fun q => (bI_0 hr1).mp c4 q.1)]) Fr.rf hC)
  · refine J_iload_n dX6_joined_7 rfl ?_
    refine J_callS (As := [_]) (rest := []) (M' := m_X6_isPoint) dX6_joined_8 ml_RX6_61 gm_X6_isPoint sm_yX6_isPoint rfl rfl (Nat.le_of_ble_eq_true rfl) (by decide) ⟨rfl, rfl, by decide, by decide⟩ (s_X6_isPoint (fun r2 hr2 => ?_))
    refine J_if_eq (tgt := 21) dX6_joined_11 (by decide) (fun c11 => ?_) (fun c11 => ?_)
    · refine J_iconst (x := -1) dX6_joined_21 (by decide) ?_
      exact J_iret dX6_joined_22 rfl ⟨rfl, Nat.le_refl _⟩ (hQ h _ (by unfold f_joined; rw [ci_t (fun q => (bI_0 hr2).mp c11 q.2.1)]) Fr.rf hC)
    · refine J_iload_n dX6_joined_14 rfl ?_
      refine J_callS (As := [_]) (rest := []) (M' := m_X6_isPoint) dX6_joined_15 ml_RX6_61 gm_X6_isPoint sm_yX6_isPoint rfl rfl (Nat.le_of_ble_eq_true rfl) (by decide) ⟨rfl, rfl, by decide, by decide⟩ (s_X6_isPoint (fun r3 hr3 => ?_))
      refine J_if_ne (tgt := 23) dX6_joined_18 (by decide) (fun c18 => ?_) (fun c18 => ?_)
      · obtain ⟨k, hk, rfl⟩ := nn_of hr1 c4
        obtain ⟨i, hi, rfl⟩ := nn_of hr2 c11
        obtain ⟨j, hj, rfl⟩ := nn_of hr3 c18
        refine J_aload_n dX6_joined_23 rfl ?_
        refine J_get (k := 6) dX6_joined_24 gc_6 fl_RX6_43 (by decide) hC.o hC.bo rfl ?_
        refine J_aload_n dX6_joined_27 rfl ?_
        refine J_get (k := 0) dX6_joined_28 gc_6 fl_RX6_10 (by decide) hC.o hC.bo rfl ?_
        refine J_iload_n dX6_joined_31 rfl ?_
        refine J_iload_n dX6_joined_32 rfl ?_
        refine J_iload_n dX6_joined_33 rfl ?_
        refine J_callV (As := [_, _, _, _]) (rest := []) (M' := m_X5_areJoinedAt) dX6_joined_34 ml_RX6_151 gm_X5_areJoinedAt gv_X5_areJoinedAt hC.M.o hC.M.bo rfl rfl rfl (Nat.le_of_ble_eq_true rfl) (by decide) ⟨rfl, rfl, by decide, by decide⟩ (s_X5_areJoinedAt hk hC.M hC.L (by omega) hi hj (fun r5 h1 hr5 hF1 hM1 => ?_))
        replace hC := hC.mom hF1 hM1
        refine J_callS (As := [_]) (rest := []) (M' := m_X6_asNumber) dX6_joined_37 ml_RX6_155 gm_X6_asNumber sm_yX6_asNumber rfl rfl (Nat.le_of_ble_eq_true rfl) (by decide) ⟨rfl, rfl, by decide, by decide⟩ (s_X6_asNumber hr5 (fun r6 hr6 => ?_))
        subst hr6
        exact J_iret dX6_joined_40 rfl ⟨rfl, Nat.le_refl _⟩ (hQ h1 _ (by unfold f_joined; rw [ci_f (fun q => q ⟨nn_of hr1 c4, nn_of hr2 c11, nn_of hr3 c18⟩), tN_n (by omega), tN_n (by omega), tN_n (by omega)]) (hF1.mono (by omega) (by omega)) hC)
      · refine J_iconst (x := -1) dX6_joined_21 (by decide) ?_
        exact J_iret dX6_joined_22 rfl ⟨rfl, Nat.le_refl _⟩ (hQ h _ (by unfold f_joined; rw [ci_t (fun q => (bI_0 hr3).mp c18 q.2.2)]) Fr.rf hC)
theorem s_X6_moment {m v : Int32} (hC : CI h a s) (hQ : ∀ h' r, r = f_moment m v s → Fr a (a + 56) h h' → CI h' a s → Q (some (.int r)) h') : MJ m_X6_moment 6 0 0 [.ref a, .int m, .int v] h Q := by
  have hn := hC.L.len
  refine MJ_of_J (L := [some (.ref a), some (.int m), some (.int v)]) (by decide +kernel) rfl (Nat.le_of_ble_eq_true rfl) rfl ?_
  refine J_iload_n dX6_moment_0 rfl ?_
  refine J_callS (As := [_]) (rest := []) (M' := m_X6_isMoment) dX6_moment_1 ml_RX6_102 gm_X6_isMoment sm_yX6_isMoment rfl rfl (Nat.le_of_ble_eq_true rfl) (by decide) ⟨rfl, rfl, by decide, by decide⟩ (s_X6_isMoment (fun r1 hr1 => ?_))
  refine J_if_ne (tgt := 9) dX6_moment_4 (by decide) (fun c4 => ?_) (fun c4 => ?_)
  · obtain ⟨k, hk, rfl⟩ := nn_of hr1 c4
    refine J_iload_n dX6_moment_9 rfl ?_
    rcases sw_of v 6 (by decide) with hsw | ⟨jsw, hjsw, rfl⟩
    · refine J_tsOut (tgt := 125) dX6_moment_10 (by rcases hsw with q | q; exact Or.inl q; exact Or.inr (by omega)) (by decide) ?_
      refine J_bipush (x := -2) dX6_moment_125 (by decide) ?_
      exact J_iret dX6_moment_127 rfl ⟨rfl, Nat.le_refl _⟩ (hQ h _ (by unfold f_moment; rw [ci_f (fun q => q (nn_of hr1 c4)), tN_n (by omega)]; rw [sel_o (Nat.le_of_ble_eq_true rfl) hsw]) Fr.rf hC)
    · rcases (show jsw = 0 ∨ jsw = 1 ∨ jsw = 2 ∨ jsw = 3 ∨ jsw = 4 ∨ jsw = 5 by omega) with rfl | rfl | rfl | rfl | rfl | rfl
      · refine J_tsIn (off := 38) (tgt := 48) dX6_moment_10 (by decide) (by decide) (by decide) (by decide) ?_
        refine J_aload_n dX6_moment_48 rfl ?_
        refine J_get (k := 0) dX6_moment_49 gc_6 fl_RX6_10 (by decide) hC.o hC.bo rfl ?_
        refine J_iload_n dX6_moment_52 rfl ?_
        refine J_callV (As := [_]) (rest := []) (M' := m_X4_livingAt) dX6_moment_53 ml_RX6_121 gm_X4_livingAt gv_X4_livingAt hC.L.o hC.L.b rfl rfl rfl (Nat.le_of_ble_eq_true rfl) (by decide) ⟨rfl, rfl, by decide, by decide⟩ (s_X4_livingAt hC.L (fun r5 hr5 => ?_))
        rw [nI_toInt (show k < 2 ^ 31 by omega)] at hr5
        exact J_iret dX6_moment_56 rfl ⟨rfl, Nat.le_refl _⟩ (hQ h _ (by unfold f_moment; rw [ci_f (fun q => q (nn_of hr1 c4)), tN_n (by omega)]; rw [hr5]; exact sel_e (j := 0) (by rfl) (by rfl)) Fr.rf hC)
      · refine J_tsIn (off := 47) (tgt := 57) dX6_moment_10 (by decide) (by decide) (by decide) (by decide) ?_
        refine J_aload_n dX6_moment_57 rfl ?_
        refine J_get (k := 6) dX6_moment_58 gc_6 fl_RX6_43 (by decide) hC.o hC.bo rfl ?_
        refine J_aload_n dX6_moment_61 rfl ?_
        refine J_get (k := 0) dX6_moment_62 gc_6 fl_RX6_10 (by decide) hC.o hC.bo rfl ?_
        refine J_iload_n dX6_moment_65 rfl ?_
        refine J_callV (As := [_, _]) (rest := []) (M' := m_X5_partsAt) dX6_moment_66 ml_RX6_159 gm_X5_partsAt gv_X5_partsAt hC.M.o hC.M.bo rfl rfl rfl (Nat.le_of_ble_eq_true rfl) (by decide) ⟨rfl, rfl, by decide, by decide⟩ (s_X5_partsAt hk hC.M hC.L (by omega) (fun r5 h1 hr5 hF1 hM1 => ?_))
        replace hC := hC.mom hF1 hM1
        exact J_iret dX6_moment_69 rfl ⟨rfl, Nat.le_refl _⟩ (hQ h1 _ (by unfold f_moment; rw [ci_f (fun q => q (nn_of hr1 c4)), tN_n (by omega)]; rw [hr5]; exact sel_e (j := 1) (by rfl) (by rfl)) (hF1.mono (by omega) (by omega)) hC)
      · refine J_tsIn (off := 60) (tgt := 70) dX6_moment_10 (by decide) (by decide) (by decide) (by decide) ?_
        refine J_aload_n dX6_moment_70 rfl ?_
        refine J_get (k := 6) dX6_moment_71 gc_6 fl_RX6_43 (by decide) hC.o hC.bo rfl ?_
        refine J_aload_n dX6_moment_74 rfl ?_
        refine J_get (k := 0) dX6_moment_75 gc_6 fl_RX6_10 (by decide) hC.o hC.bo rfl ?_
        refine J_iload_n dX6_moment_78 rfl ?_
        refine J_callV (As := [_, _]) (rest := []) (M' := m_X5_isOddAt) dX6_moment_79 ml_RX6_162 gm_X5_isOddAt gv_X5_isOddAt hC.M.o hC.M.bo rfl rfl rfl (Nat.le_of_ble_eq_true rfl) (by decide) ⟨rfl, rfl, by decide, by decide⟩ (s_X5_isOddAt hk hC.M hC.L (by omega) (fun r5 h1 hr5 hF1 hM1 => ?_))
        replace hC := hC.mom hF1 hM1
        refine J_callS (As := [_]) (rest := []) (M' := m_X6_asNumber) dX6_moment_82 ml_RX6_155 gm_X6_asNumber sm_yX6_asNumber rfl rfl (Nat.le_of_ble_eq_true rfl) (by decide) ⟨rfl, rfl, by decide, by decide⟩ (s_X6_asNumber hr5 (fun r6 hr6 => ?_))
        exact J_iret dX6_moment_85 rfl ⟨rfl, Nat.le_refl _⟩ (hQ h1 _ (by unfold f_moment; rw [ci_f (fun q => q (nn_of hr1 c4)), tN_n (by omega)]; rw [hr6]; exact sel_e (j := 2) (by rfl) (by rfl)) (hF1.mono (by omega) (by omega)) hC)
      · refine J_tsIn (off := 76) (tgt := 86) dX6_moment_10 (by decide) (by decide) (by decide) (by decide) ?_
        refine J_aload_n dX6_moment_86 rfl ?_
        refine J_get (k := 6) dX6_moment_87 gc_6 fl_RX6_43 (by decide) hC.o hC.bo rfl ?_
        refine J_aload_n dX6_moment_90 rfl ?_
        refine J_get (k := 0) dX6_moment_91 gc_6 fl_RX6_10 (by decide) hC.o hC.bo rfl ?_
        refine J_iload_n dX6_moment_94 rfl ?_
        refine J_callV (As := [_, _]) (rest := []) (M' := m_X5_greatestPartAt) dX6_moment_95 ml_RX6_166 gm_X5_greatestPartAt gv_X5_greatestPartAt hC.M.o hC.M.bo rfl rfl rfl (Nat.le_of_ble_eq_true rfl) (by decide) ⟨rfl, rfl, by decide, by decide⟩ (s_X5_greatestPartAt hk hC.M hC.L (by omega) (fun r5 h1 hr5 hF1 hM1 => ?_))
        replace hC := hC.mom hF1 hM1
        exact J_iret dX6_moment_98 rfl ⟨rfl, Nat.le_refl _⟩ (hQ h1 _ (by unfold f_moment; rw [ci_f (fun q => q (nn_of hr1 c4)), tN_n (by omega)]; rw [hr5]; exact sel_e (j := 3) (by rfl) (by rfl)) (hF1.mono (by omega) (by omega)) hC)
      · refine J_tsIn (off := 89) (tgt := 99) dX6_moment_10 (by decide) (by decide) (by decide) (by decide) ?_
        refine J_aload_n dX6_moment_99 rfl ?_
        refine J_get (k := 6) dX6_moment_100 gc_6 fl_RX6_43 (by decide) hC.o hC.bo rfl ?_
        refine J_aload_n dX6_moment_103 rfl ?_
        refine J_get (k := 0) dX6_moment_104 gc_6 fl_RX6_10 (by decide) hC.o hC.bo rfl ?_
        refine J_iload_n dX6_moment_107 rfl ?_
        refine J_callV (As := [_, _]) (rest := []) (M' := m_X5_neededLinksAt) dX6_moment_108 ml_RX6_169 gm_X5_neededLinksAt gv_X5_neededLinksAt hC.M.o hC.M.bo rfl rfl rfl (Nat.le_of_ble_eq_true rfl) (by decide) ⟨rfl, rfl, by decide, by decide⟩ (s_X5_neededLinksAt hk hC.M hC.L (by omega) (fun r5 h1 hr5 hF1 hM1 => ?_))
        replace hC := hC.mom hF1 hM1
        exact J_iret dX6_moment_111 rfl ⟨rfl, Nat.le_refl _⟩ (hQ h1 _ (by unfold f_moment; rw [ci_f (fun q => q (nn_of hr1 c4)), tN_n (by omega)]; rw [hr5]; exact sel_e (j := 4) (by rfl) (by rfl)) (hF1.mono (by omega) (by omega)) hC)
      · refine J_tsIn (off := 102) (tgt := 112) dX6_moment_10 (by decide) (by decide) (by decide) (by decide) ?_
        refine J_aload_n dX6_moment_112 rfl ?_
        refine J_get (k := 6) dX6_moment_113 gc_6 fl_RX6_43 (by decide) hC.o hC.bo rfl ?_
        refine J_aload_n dX6_moment_116 rfl ?_
        refine J_get (k := 0) dX6_moment_117 gc_6 fl_RX6_10 (by decide) hC.o hC.bo rfl ?_
        refine J_iload_n dX6_moment_120 rfl ?_
        refine J_callV (As := [_, _]) (rest := []) (M' := m_X5_linklessPointsAt) dX6_moment_121 ml_RX6_172 gm_X5_linklessPointsAt gv_X5_linklessPointsAt hC.M.o hC.M.bo rfl rfl rfl (Nat.le_of_ble_eq_true rfl) (by decide) ⟨rfl, rfl, by decide, by decide⟩ (s_X5_linklessPointsAt hk hC.M hC.L (by omega) (fun r5 h1 hr5 hF1 hM1 => ?_))
        replace hC := hC.mom hF1 hM1
        exact J_iret dX6_moment_124 rfl ⟨rfl, Nat.le_refl _⟩ (hQ h1 _ (by unfold f_moment; rw [ci_f (fun q => q (nn_of hr1 c4)), tN_n (by omega)]; rw [hr5]; exact sel_e (j := 5) (by rfl) (by rfl)) (hF1.mono (by omega) (by omega)) hC)
  · refine J_iconst (x := -1) dX6_moment_7 (by decide) ?_
    exact J_iret dX6_moment_8 rfl ⟨rfl, Nat.le_refl _⟩ (hQ h _ (by unfold f_moment; rw [ci_t ((bI_0 hr1).mp c4)]) Fr.rf hC)
theorem s_X6_part {m p v : Int32} (hC : CI h a s) (hQ : ∀ h' r, r = f_part m p v s → Fr a (a + 56) h h' → CI h' a s → Q (some (.int r)) h') : MJ m_X6_part 5 0 0 [.ref a, .int m, .int p, .int v] h Q := by
  have hn := hC.L.len
  refine MJ_of_J (L := [some (.ref a), some (.int m), some (.int p), some (.int v)]) (by decide +kernel) rfl (Nat.le_of_ble_eq_true rfl) rfl ?_
  refine J_iload_n dX6_part_0 rfl ?_
  refine J_callS (As := [_]) (rest := []) (M' := m_X6_isMoment) dX6_part_1 ml_RX6_102 gm_X6_isMoment sm_yX6_isMoment rfl rfl (Nat.le_of_ble_eq_true rfl) (by decide) ⟨rfl, rfl, by decide, by decide⟩ (s_X6_isMoment (fun r1 hr1 => ?_))
  refine J_if_eq (tgt := 14) dX6_part_4 (by decide) (fun c4 => ?_) (fun c4 => ?_)
  · refine J_iconst (x := -1) dX6_part_14 (by decide) ?_
    exact J_iret dX6_part_15 rfl ⟨rfl, Nat.le_refl _⟩ (hQ h _ (by unfold f_part; rw [ci_t (fun q => (bI_0 hr1).mp c4 q.1)]) Fr.rf hC)
  · refine J_iload_n dX6_part_7 rfl ?_
    refine J_callS (As := [_]) (rest := []) (M' := m_X6_isPoint) dX6_part_8 ml_RX6_61 gm_X6_isPoint sm_yX6_isPoint rfl rfl (Nat.le_of_ble_eq_true rfl) (by decide) ⟨rfl, rfl, by decide, by decide⟩ (s_X6_isPoint (fun r2 hr2 => ?_))
    refine J_if_ne (tgt := 16) dX6_part_11 (by decide) (fun c11 => ?_) (fun c11 => ?_)
    · obtain ⟨k, hk, rfl⟩ := nn_of hr1 c4
      obtain ⟨i, hi, rfl⟩ := nn_of hr2 c11
      refine J_iload_n dX6_part_16 rfl ?_
      rcases sw_of v 3 (by decide) with hsw | ⟨jsw, hjsw, rfl⟩
      · refine J_tsOut (tgt := 86) dX6_part_17 (by rcases hsw with q | q; exact Or.inl q; exact Or.inr (by omega)) (by decide) ?_
        refine J_bipush (x := -2) dX6_part_86 (by decide) ?_
        exact J_iret dX6_part_88 rfl ⟨rfl, Nat.le_refl _⟩ (hQ h _ (by unfold f_part; rw [ci_f (fun q => q ⟨nn_of hr1 c4, nn_of hr2 c11⟩), tN_n (by omega), tN_n (by omega)]; rw [sel_o (Nat.le_of_ble_eq_true rfl) hsw]) Fr.rf hC)
      · rcases (show jsw = 0 ∨ jsw = 1 ∨ jsw = 2 by omega) with rfl | rfl | rfl
        · refine J_tsIn (off := 27) (tgt := 44) dX6_part_17 (by decide) (by decide) (by decide) (by decide) ?_
          refine J_aload_n dX6_part_44 rfl ?_
          refine J_get (k := 6) dX6_part_45 gc_6 fl_RX6_43 (by decide) hC.o hC.bo rfl ?_
          refine J_aload_n dX6_part_48 rfl ?_
          refine J_get (k := 0) dX6_part_49 gc_6 fl_RX6_10 (by decide) hC.o hC.bo rfl ?_
          refine J_iload_n dX6_part_52 rfl ?_
          refine J_iload_n dX6_part_53 rfl ?_
          refine J_callV (As := [_, _, _]) (rest := []) (M' := m_X5_lowestOfPartAt) dX6_part_54 ml_RX6_175 gm_X5_lowestOfPartAt gv_X5_lowestOfPartAt hC.M.o hC.M.bo rfl rfl rfl (Nat.le_of_ble_eq_true rfl) (by decide) ⟨rfl, rfl, by decide, by decide⟩ (s_X5_lowestOfPartAt hk hC.M hC.L (by omega) hi (fun r5 l h1 hr5 g1 g2 g3 hF1 hM1 => ?_))
          replace hC := hC.mom hF1 hM1
          rw [lwN_of g1 g2 g3] at hr5
          exact J_iret dX6_part_57 rfl ⟨rfl, Nat.le_refl _⟩ (hQ h1 _ (by unfold f_part; rw [ci_f (fun q => q ⟨nn_of hr1 c4, nn_of hr2 c11⟩), tN_n (by omega), tN_n (by omega)]; rw [hr5]; exact sel_e (j := 0) (by rfl) (by rfl)) (hF1.mono (by omega) (by omega)) hC)
        · refine J_tsIn (off := 41) (tgt := 58) dX6_part_17 (by decide) (by decide) (by decide) (by decide) ?_
          refine J_aload_n dX6_part_58 rfl ?_
          refine J_get (k := 6) dX6_part_59 gc_6 fl_RX6_43 (by decide) hC.o hC.bo rfl ?_
          refine J_aload_n dX6_part_62 rfl ?_
          refine J_get (k := 0) dX6_part_63 gc_6 fl_RX6_10 (by decide) hC.o hC.bo rfl ?_
          refine J_iload_n dX6_part_66 rfl ?_
          refine J_iload_n dX6_part_67 rfl ?_
          refine J_callV (As := [_, _, _]) (rest := []) (M' := m_X5_partSizeAt) dX6_part_68 ml_RX6_179 gm_X5_partSizeAt gv_X5_partSizeAt hC.M.o hC.M.bo rfl rfl rfl (Nat.le_of_ble_eq_true rfl) (by decide) ⟨rfl, rfl, by decide, by decide⟩ (s_X5_partSizeAt hk hC.M hC.L (by omega) hi (fun r5 h1 hr5 hF1 hM1 => ?_))
          replace hC := hC.mom hF1 hM1
          exact J_iret dX6_part_71 rfl ⟨rfl, Nat.le_refl _⟩ (hQ h1 _ (by unfold f_part; rw [ci_f (fun q => q ⟨nn_of hr1 c4, nn_of hr2 c11⟩), tN_n (by omega), tN_n (by omega)]; rw [hr5]; exact sel_e (j := 1) (by rfl) (by rfl)) (hF1.mono (by omega) (by omega)) hC)
        · refine J_tsIn (off := 55) (tgt := 72) dX6_part_17 (by decide) (by decide) (by decide) (by decide) ?_
          refine J_aload_n dX6_part_72 rfl ?_
          refine J_get (k := 6) dX6_part_73 gc_6 fl_RX6_43 (by decide) hC.o hC.bo rfl ?_
          refine J_aload_n dX6_part_76 rfl ?_
          refine J_get (k := 0) dX6_part_77 gc_6 fl_RX6_10 (by decide) hC.o hC.bo rfl ?_
          refine J_iload_n dX6_part_80 rfl ?_
          refine J_iload_n dX6_part_81 rfl ?_
          refine J_callV (As := [_, _, _]) (rest := []) (M' := m_X5_partBitsAt) dX6_part_82 ml_RX6_182 gm_X5_partBitsAt gv_X5_partBitsAt hC.M.o hC.M.bo rfl rfl rfl (Nat.le_of_ble_eq_true rfl) (by decide) ⟨rfl, rfl, by decide, by decide⟩ (s_X5_partBitsAt hk hC.M hC.L (by omega) hi (fun r5 h1 hr5 hF1 hM1 => ?_))
          replace hC := hC.mom hF1 hM1
          replace hr5 := btN_of hr5
          exact J_iret dX6_part_85 rfl ⟨rfl, Nat.le_refl _⟩ (hQ h1 _ (by unfold f_part; rw [ci_f (fun q => q ⟨nn_of hr1 c4, nn_of hr2 c11⟩), tN_n (by omega), tN_n (by omega)]; rw [hr5]; exact sel_e (j := 2) (by rfl) (by rfl)) (hF1.mono (by omega) (by omega)) hC)
    · refine J_iconst (x := -1) dX6_part_14 (by decide) ?_
      exact J_iret dX6_part_15 rfl ⟨rfl, Nat.le_refl _⟩ (hQ h _ (by unfold f_part; rw [ci_t (fun q => (bI_0 hr2).mp c11 q.2)]) Fr.rf hC)
theorem s_X6_needed {x m : Int32} (hC : CI h a s) (hQ : ∀ h' r, r = f_needed x m s → Fr a (a + 56) h h' → CI h' a s → Q (some (.int r)) h') : MJ m_X6_needed 5 0 0 [.ref a, .int x, .int m] h Q := by
  have hn := hC.L.len
  refine MJ_of_J (L := [some (.ref a), some (.int x), some (.int m)]) (by decide +kernel) rfl (Nat.le_of_ble_eq_true rfl) rfl ?_
  refine J_aload_n dX6_needed_0 rfl ?_
  refine J_get (k := 0) dX6_needed_1 gc_6 fl_RX6_10 (by decide) hC.o hC.bo rfl ?_
  refine J_iload_n dX6_needed_4 rfl ?_
  refine J_callV (As := [_]) (rest := []) (M' := m_X4_has) dX6_needed_5 ml_RX6_84 gm_X4_has gv_X4_has hC.L.o hC.L.b rfl rfl rfl (Nat.le_of_ble_eq_true rfl) (by decide) ⟨rfl, rfl, by decide, by decide⟩ (s_X4_has hC.L (fun r1 hr1 => ?_))
  refine J_if_eq (tgt := 18) dX6_needed_8 (by decide) (fun c8 => ?_) (fun c8 => ?_)
  · refine J_iconst (x := -1) dX6_needed_18 (by decide) ?_
    exact J_iret dX6_needed_19 rfl ⟨rfl, Nat.le_refl _⟩ (hQ h _ (by unfold f_needed; rw [ci_t (fun q => (bI_0 hr1).mp c8 q.1)]) Fr.rf hC)
  · refine J_iload_n dX6_needed_11 rfl ?_
    refine J_callS (As := [_]) (rest := []) (M' := m_X6_isMoment) dX6_needed_12 ml_RX6_102 gm_X6_isMoment sm_yX6_isMoment rfl rfl (Nat.le_of_ble_eq_true rfl) (by decide) ⟨rfl, rfl, by decide, by decide⟩ (s_X6_isMoment (fun r2 hr2 => ?_))
    refine J_if_ne (tgt := 20) dX6_needed_15 (by decide) (fun c15 => ?_) (fun c15 => ?_)
    · obtain ⟨j, hj, rfl⟩ := nn_of hr1 c8
      obtain ⟨y, hy⟩ := get_of hj
      obtain ⟨k, hk, rfl⟩ := nn_of hr2 c15
      refine J_aload_n dX6_needed_20 rfl ?_
      refine J_get (k := 0) dX6_needed_21 gc_6 fl_RX6_10 (by decide) hC.o hC.bo rfl ?_
      refine J_iload_n dX6_needed_24 rfl ?_
      refine J_iload_n dX6_needed_25 rfl ?_
      refine J_callV (As := [_, _]) (rest := []) (M' := m_X4_livesAt) dX6_needed_26 ml_RX6_105 gm_X4_livesAt gv_X4_livesAt hC.L.o hC.L.b rfl rfl rfl (Nat.le_of_ble_eq_true rfl) (by decide) ⟨rfl, rfl, by decide, by decide⟩ (s_X4_livesAt hC.L hy (fun r3 hr3 => ?_))
      rw [nI_toInt (show k < 2 ^ 31 by omega)] at hr3
      refine J_if_ne (tgt := 35) dX6_needed_29 (by decide) (fun c29 => ?_) (fun c29 => ?_)
      · refine J_aload_n dX6_needed_35 rfl ?_
        refine J_get (k := 6) dX6_needed_36 gc_6 fl_RX6_43 (by decide) hC.o hC.bo rfl ?_
        refine J_aload_n dX6_needed_39 rfl ?_
        refine J_get (k := 0) dX6_needed_40 gc_6 fl_RX6_10 (by decide) hC.o hC.bo rfl ?_
        refine J_iload_n dX6_needed_43 rfl ?_
        refine J_iload_n dX6_needed_44 rfl ?_
        refine J_callV (As := [_, _, _]) (rest := []) (M' := m_X5_isNeededAt) dX6_needed_45 ml_RX6_185 gm_X5_isNeededAt gv_X5_isNeededAt hC.M.o hC.M.bo rfl rfl rfl (Nat.le_of_ble_eq_true rfl) (by decide) ⟨rfl, rfl, by decide, by decide⟩ (s_X5_isNeededAt hk hC.M hC.L (by omega) hy (fun r5 h1 hr5 hF1 hM1 => ?_))
        replace hC := hC.mom hF1 hM1
        refine J_callS (As := [_]) (rest := []) (M' := m_X6_asNumber) dX6_needed_48 ml_RX6_155 gm_X6_asNumber sm_yX6_asNumber rfl rfl (Nat.le_of_ble_eq_true rfl) (by decide) ⟨rfl, rfl, by decide, by decide⟩ (s_X6_asNumber hr5 (fun r6 hr6 => ?_))
        exact J_iret dX6_needed_51 rfl ⟨rfl, Nat.le_refl _⟩ (hQ h1 _ (by unfold f_needed; rw [ci_f (fun q => q ⟨nn_of hr1 c8, nn_of hr2 c15⟩), tN_n (by omega), tN_n (by omega), hy]; dsimp only; rw [ci_f (fun q => q (nn_of hr3 c29)), hr6]) (hF1.mono (by omega) (by omega)) hC)
      · refine J_bipush (x := -5) dX6_needed_32 (by decide) ?_
        exact J_iret dX6_needed_34 rfl ⟨rfl, Nat.le_refl _⟩ (hQ h _ (by unfold f_needed; rw [ci_f (fun q => q ⟨nn_of hr1 c8, nn_of hr2 c15⟩), tN_n (by omega), tN_n (by omega), hy]; dsimp only; rw [ci_t ((bI_0 hr3).mp c29)]) Fr.rf hC)
    · refine J_iconst (x := -1) dX6_needed_18 (by decide) ?_
      exact J_iret dX6_needed_19 rfl ⟨rfl, Nat.le_refl _⟩ (hQ h _ (by unfold f_needed; rw [ci_t (fun q => (bI_0 hr2).mp c15 q.2)]) Fr.rf hC)
theorem l_X6_odd {m0 : Nat} (hQ : ∀ h' r, r = fsO (OM s.1) (64 - m0) m0 → Fr a (a + 56) h h' → CI h' a s → Q (some (.int r)) h') : ∀ (t m : Nat) (h1 : g_H), t + m = 64 → fsO (OM s.1) (64 - m0) m0 = fsO (OM s.1) t m → Fr a (a + 56) h h1 → CI h1 a s → J m_X6_odd 4 0 0 0 0 11 [some (.ref a), some (.int (nI m0)), some (.int (nI m))] [] h1 Q := by
  intro t
  induction t with
  | zero =>
    intro m h1 ht he hF hC
    refine J_iload_n dX6_odd_11 rfl ?_
    refine J_bipush (x := 64) dX6_odd_12 (by decide) ?_
    refine J_icmp_ge (tgt := 40) dX6_odd_14 (by decide) (fun c14 => ?_) (fun c14 => absurd ((nI_leI (a := 64) (b := m) (by omega) (by omega)).mpr (by omega)) c14)
    refine J_bipush (x := -5) dX6_odd_40 (by decide) ?_
    exact J_iret dX6_odd_42 rfl ⟨rfl, Nat.le_refl _⟩ (hQ h1 _ (by rw [he]; rfl) hF hC)
  | succ t ih =>
    intro m h1 ht he hF hC
    have hm : m < 64 := by omega
    have e1 : fsO (OM s.1) (t + 1) m = ci (OM s.1 m) (nI m) (fsO (OM s.1) t (m + 1)) := rfl
    rw [e1] at he
    refine J_iload_n dX6_odd_11 rfl ?_
    refine J_bipush (x := 64) dX6_odd_12 (by decide) ?_
    refine J_icmp_ge (tgt := 40) dX6_odd_14 (by decide) (fun c14 => absurd ((nI_leI (a := 64) (b := m) (by omega) (by omega)).mp c14) (by omega)) (fun c14 => ?_)
    refine J_aload_n dX6_odd_17 rfl ?_
    refine J_get (k := 6) dX6_odd_18 gc_6 fl_RX6_43 (by decide) hC.o hC.bo rfl ?_
    refine J_aload_n dX6_odd_21 rfl ?_
    refine J_get (k := 0) dX6_odd_22 gc_6 fl_RX6_10 (by decide) hC.o hC.bo rfl ?_
    refine J_iload_n dX6_odd_25 rfl ?_
    refine J_callV (As := [_, _]) (rest := []) (M' := m_X5_isOddAt) dX6_odd_26 ml_RX6_162 gm_X5_isOddAt gv_X5_isOddAt hC.M.o hC.M.bo rfl rfl rfl (Nat.le_of_ble_eq_true rfl) (by decide) ⟨rfl, rfl, by decide, by decide⟩ (s_X5_isOddAt hm hC.M hC.L (by omega) (fun r5 h2 hr5 hF1 hM1 => ?_))
    replace hC := hC.mom hF1 hM1
    refine J_if_eq (tgt := 34) dX6_odd_29 (by decide) (fun c29 => ?_) (fun c29 => ?_)
    · refine J_iinc (L' := [_, _, _]) dX6_odd_34 rfl (nI_i1 m) (by decide) rfl ?_
      refine J_goto (tgt := 11) dX6_odd_37 (by decide) ?_
      exact ih (m + 1) h2 (by omega) (by rw [he, ci_f ((bI_0 hr5).mp c29)]) (hF.tr (hF1.mono (by omega) (by omega))) hC
    · refine J_iload_n dX6_odd_32 rfl ?_
      exact J_iret dX6_odd_33 rfl ⟨rfl, Nat.le_refl _⟩ (hQ h2 _ (by rw [he, ci_t (nn_of hr5 c29)]) (hF.tr (hF1.mono (by omega) (by omega))) hC)
theorem s_X6_odd {m : Int32} (hC : CI h a s) (hQ : ∀ h' r, r = f_odd m s → Fr a (a + 56) h h' → CI h' a s → Q (some (.int r)) h') : MJ m_X6_odd 4 0 0 [.ref a, .int m] h Q := by
  have hn := hC.L.len
  refine MJ_of_J (L := [some (.ref a), some (.int m), none]) (by decide +kernel) rfl (Nat.le_of_ble_eq_true rfl) rfl ?_
  refine J_iload_n dX6_odd_0 rfl ?_
  refine J_callS (As := [_]) (rest := []) (M' := m_X6_isMoment) dX6_odd_1 ml_RX6_102 gm_X6_isMoment sm_yX6_isMoment rfl rfl (Nat.le_of_ble_eq_true rfl) (by decide) ⟨rfl, rfl, by decide, by decide⟩ (s_X6_isMoment (fun r1 hr1 => ?_))
  refine J_if_ne (tgt := 9) dX6_odd_4 (by decide) (fun c4 => ?_) (fun c4 => ?_)
  · obtain ⟨k, hk, rfl⟩ := nn_of hr1 c4
    refine J_iload_n dX6_odd_9 rfl ?_
    refine J_istore_n (L' := [_, _, _]) dX6_odd_10 (by decide) rfl ?_
    exact l_X6_odd (m0 := k) (fun h2 r hr hF2 hC2 => hQ h2 r (by unfold f_odd; rw [ci_f (fun q => q (nn_of hr1 c4)), tN_n (by omega)]; exact hr) hF2 hC2) (64 - k) k h (by omega) rfl Fr.rf hC
  · refine J_iconst (x := -1) dX6_odd_7 (by decide) ?_
    exact J_iret dX6_odd_8 rfl ⟨rfl, Nat.le_refl _⟩ (hQ h _ (by unfold f_odd; rw [ci_t ((bI_0 hr1).mp c4)]) Fr.rf hC)
theorem s_X6_span {m d v : Int32} (hC : CI h a s) (hQ : ∀ h' r, r = f_span m d v s → Fr a (a + 56) h h' → CI h' a s → Q (some (.int r)) h') : MJ m_X6_span 5 0 0 [.ref a, .int m, .int d, .int v] h Q := by
  have hn := hC.L.len
  obtain ⟨x1, x2, x3, x4, x5, g, js, hW, hJ⟩ := hC.2.2.2.2.2.2.2.2.2
  refine MJ_of_J (L := [some (.ref a), some (.int m), some (.int d), some (.int v)]) (by decide +kernel) rfl (Nat.le_of_ble_eq_true rfl) rfl ?_
  refine J_iload_n dX6_span_0 rfl ?_
  refine J_callS (As := [_]) (rest := []) (M' := m_X6_isMoment) dX6_span_1 ml_RX6_102 gm_X6_isMoment sm_yX6_isMoment rfl rfl (Nat.le_of_ble_eq_true rfl) (by decide) ⟨rfl, rfl, by decide, by decide⟩ (s_X6_isMoment (fun r1 hr1 => ?_))
  refine J_if_ne (tgt := 9) dX6_span_4 (by decide) (fun c4 => ?_) (fun c4 => ?_)
  · obtain ⟨k, hk, rfl⟩ := nn_of hr1 c4
    refine J_iload_n dX6_span_9 rfl ?_
    refine J_if_lt (tgt := 19) dX6_span_10 (by decide) (fun c10 => ?_) (fun c10 => ?_)
    · refine J_bipush (x := -2) dX6_span_19 (by decide) ?_
      exact J_iret dX6_span_21 rfl ⟨rfl, Nat.le_refl _⟩ (hQ h _ (by unfold f_span; rw [ci_f (fun q => q (nn_of hr1 c4)), ci_t (IX_n0 (by decide) c10)]) Fr.rf hC)
    · refine J_iload_n dX6_span_13 rfl ?_
      refine J_bipush (x := 6) dX6_span_14 (by decide) ?_
      refine J_icmp_le (tgt := 22) dX6_span_16 (by decide) (fun c16 => ?_) (fun c16 => ?_)
      · have c16 : IX d 7 := IX_of (n := 7) (by decide) c10 (fun q => by
          have c16 : d ≤ nI 6 := c16
          rw [nI_leT (by omega)] at q
          rw [nI_leT' (by omega)] at c16
          omega)
        obtain ⟨e, he, rfl⟩ := c16
        refine J_aload_n dX6_span_22 rfl ?_
        refine J_get (k := 8) dX6_span_23 gc_6 fl_RX6_57 (by decide) hC.o hC.bo rfl ?_
        refine J_aload_n dX6_span_26 rfl ?_
        refine J_get (k := 0) dX6_span_27 gc_6 fl_RX6_10 (by decide) hC.o hC.bo rfl ?_
        refine J_iload_n dX6_span_30 rfl ?_
        refine J_iload_n dX6_span_31 rfl ?_
        refine J_callV (As := [_, _, _]) (rest := []) (M' := m_X0_goTo) dX6_span_32 ml_RX6_207 gm_X0_goTo gv_X0_goTo hW.o hW.bo rfl rfl rfl (Nat.le_of_ble_eq_true rfl) (by decide) ⟨rfl, rfl, by decide, by decide⟩ (s_X0_goTo hk he hC.L (by omega) hW hJ (fun h1 js1 y1 y2 y3 y4 y5 g1 hF1 hW1 hJ1 hy1 hy2 => ?_))
        replace hC := hC.way hF1 hW1 hJ1
        replace hW := hW1
        subst hy1
        subst hy2
        refine J_iload_n dX6_span_35 rfl ?_
        rcases sw_of v 5 (by decide) with hsw | ⟨jsw, hjsw, rfl⟩
        · refine J_tsOut (tgt := 115) dX6_span_36 (by rcases hsw with q | q; exact Or.inl q; exact Or.inr (by omega)) (by decide) ?_
          refine J_bipush (x := -2) dX6_span_115 (by decide) ?_
          exact J_iret dX6_span_117 rfl ⟨rfl, Nat.le_refl _⟩ (hQ h1 _ (by unfold f_span; rw [ci_f (fun q => q (nn_of hr1 c4)), ci_f (fun q => q ⟨e, he, rfl⟩), tN_n (by omega), tN_n (by omega)]; rw [sel_o (Nat.le_of_ble_eq_true rfl) hsw]) (hF1.mono (by omega) (by omega)) hC)
        · rcases (show jsw = 0 ∨ jsw = 1 ∨ jsw = 2 ∨ jsw = 3 ∨ jsw = 4 by omega) with rfl | rfl | rfl | rfl | rfl
          · refine J_tsIn (off := 36) (tgt := 72) dX6_span_36 (by decide) (by decide) (by decide) (by decide) ?_
            refine J_iload_n dX6_span_72 rfl ?_
            refine J_iload_n dX6_span_73 rfl ?_
            refine J_callS (As := [_, _]) (rest := []) (M' := m_X6_spanBegin) dX6_span_74 ml_RX6_211 gm_X6_spanBegin sm_yX6_spanBegin rfl rfl (Nat.le_of_ble_eq_true rfl) (by decide) ⟨rfl, rfl, by decide, by decide⟩ (s_X6_spanBegin hk he (fun r6 hr6 => ?_))
            exact J_iret dX6_span_77 rfl ⟨rfl, Nat.le_refl _⟩ (hQ h1 _ (by unfold f_span; rw [ci_f (fun q => q (nn_of hr1 c4)), ci_f (fun q => q ⟨e, he, rfl⟩), tN_n (by omega), tN_n (by omega)]; rw [hr6]; exact sel_e (j := 0) (by rfl) (by rfl)) (hF1.mono (by omega) (by omega)) hC)
          · refine J_tsIn (off := 42) (tgt := 78) dX6_span_36 (by decide) (by decide) (by decide) (by decide) ?_
            refine J_iload_n dX6_span_78 rfl ?_
            refine J_callS (As := [_]) (rest := []) (M' := m_X6_spanLength) dX6_span_79 ml_RX6_215 gm_X6_spanLength sm_yX6_spanLength rfl rfl (Nat.le_of_ble_eq_true rfl) (by decide) ⟨rfl, rfl, by decide, by decide⟩ (s_X6_spanLength he (fun r6 hr6 => ?_))
            exact J_iret dX6_span_82 rfl ⟨rfl, Nat.le_refl _⟩ (hQ h1 _ (by unfold f_span; rw [ci_f (fun q => q (nn_of hr1 c4)), ci_f (fun q => q ⟨e, he, rfl⟩), tN_n (by omega), tN_n (by omega)]; rw [hr6]; exact sel_e (j := 1) (by rfl) (by rfl)) (hF1.mono (by omega) (by omega)) hC)
          · refine J_tsIn (off := 47) (tgt := 83) dX6_span_36 (by decide) (by decide) (by decide) (by decide) ?_
            refine J_aload_n dX6_span_83 rfl ?_
            refine J_get (k := 8) dX6_span_84 gc_6 fl_RX6_57 (by decide) hC.o hC.bo rfl ?_
            refine J_callV (As := []) (rest := []) (M' := m_X0_laidHere) dX6_span_87 ml_RX6_218 gm_X0_laidHere gv_X0_laidHere hW.o hW.bo rfl rfl rfl (Nat.le_of_ble_eq_true rfl) (by decide) ⟨rfl, rfl, by decide, by decide⟩ (s_X0_laidHere hW ?_)
            exact J_iret dX6_span_90 rfl ⟨rfl, Nat.le_refl _⟩ (hQ h1 _ (by unfold f_span; rw [ci_f (fun q => q (nn_of hr1 c4)), ci_f (fun q => q ⟨e, he, rfl⟩), tN_n (by omega), tN_n (by omega)]; exact sel_e (j := 2) (by rfl) (by rfl)) (hF1.mono (by omega) (by omega)) hC)
          · refine J_tsIn (off := 55) (tgt := 91) dX6_span_36 (by decide) (by decide) (by decide) (by decide) ?_
            refine J_aload_n dX6_span_91 rfl ?_
            refine J_get (k := 8) dX6_span_92 gc_6 fl_RX6_57 (by decide) hC.o hC.bo rfl ?_
            refine J_callV (As := []) (rest := []) (M' := m_X0_madeHere) dX6_span_95 ml_RX6_221 gm_X0_madeHere gv_X0_madeHere hW.o hW.bo rfl rfl rfl (Nat.le_of_ble_eq_true rfl) (by decide) ⟨rfl, rfl, by decide, by decide⟩ (s_X0_madeHere hW ?_)
            exact J_iret dX6_span_98 rfl ⟨rfl, Nat.le_refl _⟩ (hQ h1 _ (by unfold f_span; rw [ci_f (fun q => q (nn_of hr1 c4)), ci_f (fun q => q ⟨e, he, rfl⟩), tN_n (by omega), tN_n (by omega)]; exact sel_e (j := 3) (by rfl) (by rfl)) (hF1.mono (by omega) (by omega)) hC)
          · refine J_tsIn (off := 63) (tgt := 99) dX6_span_36 (by decide) (by decide) (by decide) (by decide) ?_
            refine J_aload_n dX6_span_99 rfl ?_
            refine J_get (k := 8) dX6_span_100 gc_6 fl_RX6_57 (by decide) hC.o hC.bo rfl ?_
            refine J_callV (As := []) (rest := []) (M' := m_X0_laidHere) dX6_span_103 ml_RX6_218 gm_X0_laidHere gv_X0_laidHere hW.o hW.bo rfl rfl rfl (Nat.le_of_ble_eq_true rfl) (by decide) ⟨rfl, rfl, by decide, by decide⟩ (s_X0_laidHere hW ?_)
            refine J_aload_n dX6_span_106 rfl ?_
            refine J_get (k := 8) dX6_span_107 gc_6 fl_RX6_57 (by decide) hC.o hC.bo rfl ?_
            refine J_callV (As := []) (rest := [_]) (M' := m_X0_madeHere) dX6_span_110 ml_RX6_221 gm_X0_madeHere gv_X0_madeHere hW.o hW.bo rfl rfl rfl (Nat.le_of_ble_eq_true rfl) (by decide) ⟨rfl, rfl, by decide, by decide⟩ (s_X0_madeHere hW ?_)
            refine J_isub dX6_span_113 ?_
            exact J_iret dX6_span_114 rfl ⟨rfl, Nat.le_refl _⟩ (hQ h1 _ (by unfold f_span; rw [ci_f (fun q => q (nn_of hr1 c4)), ci_f (fun q => q ⟨e, he, rfl⟩), tN_n (by omega), tN_n (by omega)]; exact sel_e (j := 4) (by rfl) (by rfl)) (hF1.mono (by omega) (by omega)) hC)
      · refine J_bipush (x := -2) dX6_span_19 (by decide) ?_
        exact J_iret dX6_span_21 rfl ⟨rfl, Nat.le_refl _⟩ (hQ h _ (by unfold f_span; rw [ci_f (fun q => q (nn_of hr1 c4)), ci_t (fun ⟨e, he, q⟩ => c16 (by rw [q]; show nI e ≤ nI 6; rw [nI_leI (by omega) (by omega)]; omega))]) Fr.rf hC)
  · refine J_iconst (x := -1) dX6_span_7 (by decide) ?_
    exact J_iret dX6_span_8 rfl ⟨rfl, Nat.le_refl _⟩ (hQ h _ (by unfold f_span; rw [ci_t ((bI_0 hr1).mp c4)]) Fr.rf hC)
theorem s_X6_countOnWay {j : Nat} (hj : j = 1 ∨ j = 2 ∨ j = 3) (hC : CI h a s) (hQ : ∀ h' r, r = f_count (nI j) s → Fr a (a + 56) h h' → CI h' a s → Q (some (.int r)) h') : MJ m_X6_countOnWay 5 0 0 [.ref a, .int (nI j)] h Q := by
  obtain ⟨x1, x2, x3, x4, x5, g, js, hW, hJ⟩ := hC.2.2.2.2.2.2.2.2.2
  refine MJ_of_J (L := [some (.ref a), some (.int (nI j))]) (by decide +kernel) rfl (Nat.le_of_ble_eq_true rfl) rfl ?_
  refine J_aload_n dX6_countOnWay_0 rfl ?_
  refine J_get (k := 8) dX6_countOnWay_1 gc_6 fl_RX6_57 (by decide) hC.o hC.bo rfl ?_
  refine J_aload_n dX6_countOnWay_4 rfl ?_
  refine J_get (k := 0) dX6_countOnWay_5 gc_6 fl_RX6_10 (by decide) hC.o hC.bo rfl ?_
  refine J_callV (As := [_]) (rest := []) (M' := m_X0_goAll) dX6_countOnWay_8 ml_RX6_236 gm_X0_goAll gv_X0_goAll hW.o hW.bo rfl rfl rfl (Nat.le_of_ble_eq_true rfl) (by decide) ⟨rfl, rfl, by decide, by decide⟩ (s_X0_goAll hC.L (by omega) hW hJ (fun h1 js1 y1 y2 g1 hF1 hW1 hJ1 => ?_))
  replace hC := hC.way hF1 hW1 hJ1
  replace hW := hW1
  refine J_iload_n dX6_countOnWay_11 rfl ?_
  refine J_iconst (x := 1) dX6_countOnWay_12 (by decide) ?_
  refine J_icmp_ne (tgt := 24) dX6_countOnWay_13 (by decide) (fun c13 => ?_) (fun c13 => ?_)
  · refine J_iload_n dX6_countOnWay_24 rfl ?_
    refine J_iconst (x := 2) dX6_countOnWay_25 (by decide) ?_
    refine J_icmp_ne (tgt := 39) dX6_countOnWay_26 (by decide) (fun c26 => ?_) (fun c26 => ?_)
    · refine J_aload_n dX6_countOnWay_39 rfl ?_
      refine J_get (k := 8) dX6_countOnWay_40 gc_6 fl_RX6_57 (by decide) hC.o hC.bo rfl ?_
      refine J_callV (As := []) (rest := []) (M' := m_X0_mostStanding) dX6_countOnWay_43 ml_RX6_245 gm_X0_mostStanding gv_X0_mostStanding hW.o hW.bo rfl rfl rfl (Nat.le_of_ble_eq_true rfl) (by decide) ⟨rfl, rfl, by decide, by decide⟩ (s_X0_mostStanding hW ?_)
      exact J_iret dX6_countOnWay_46 rfl ⟨rfl, Nat.le_refl _⟩ (hQ h1 _ (by have h3 : j = 3 := by { rcases hj with rfl | rfl | rfl; exact absurd rfl c13; exact absurd rfl c26; rfl }; subst h3; unfold f_count; exact sel_e (j := 3) (by rfl) (by rfl)) (hF1.mono (by omega) (by omega)) hC)
    · refine J_aload_n dX6_countOnWay_29 rfl ?_
      refine J_get (k := 8) dX6_countOnWay_30 gc_6 fl_RX6_57 (by decide) hC.o hC.bo rfl ?_
      refine J_callV (As := []) (rest := []) (M' := m_X0_idleInAll) dX6_countOnWay_33 ml_RX6_242 gm_X0_idleInAll gv_X0_idleInAll hW.o hW.bo rfl rfl rfl (Nat.le_of_ble_eq_true rfl) (by decide) ⟨rfl, rfl, by decide, by decide⟩ (s_X0_idleInAll hW ?_)
      refine J_goto (tgt := 46) dX6_countOnWay_36 (by decide) ?_
      exact J_iret dX6_countOnWay_46 rfl ⟨rfl, Nat.le_refl _⟩ (hQ h1 _ (by have h2 : j = 2 := (nI_eq (b := 2) (by omega) (by omega)).mp c26; subst h2; unfold f_count; exact sel_e (j := 2) (by rfl) (by rfl)) (hF1.mono (by omega) (by omega)) hC)
  · refine J_aload_n dX6_countOnWay_16 rfl ?_
    refine J_get (k := 8) dX6_countOnWay_17 gc_6 fl_RX6_57 (by decide) hC.o hC.bo rfl ?_
    refine J_callV (As := []) (rest := []) (M' := m_X0_madeInAll) dX6_countOnWay_20 ml_RX6_239 gm_X0_madeInAll gv_X0_madeInAll hW.o hW.bo rfl rfl rfl (Nat.le_of_ble_eq_true rfl) (by decide) ⟨rfl, rfl, by decide, by decide⟩ (s_X0_madeInAll hW ?_)
    exact J_iret dX6_countOnWay_23 rfl ⟨rfl, Nat.le_refl _⟩ (hQ h1 _ (by have h2 : j = 1 := (nI_eq (b := 1) (by omega) (by omega)).mp c13; subst h2; unfold f_count; exact sel_e (j := 1) (by rfl) (by rfl)) (hF1.mono (by omega) (by omega)) hC)
theorem s_X6_count {v : Int32} (hC : CI h a s) (hQ : ∀ h' r, r = f_count v s → Fr a (a + 56) h h' → CI h' a s → Q (some (.int r)) h') : MJ m_X6_count 6 0 0 [.ref a, .int v] h Q := by
  have hn := hC.L.len
  obtain ⟨pl, hT⟩ := hC.2.2.2.2.2.1
  have ht := hT.len
  have hh := hC.H.1
  refine MJ_of_J (L := [some (.ref a), some (.int v)]) (by decide +kernel) rfl (Nat.le_of_ble_eq_true rfl) rfl ?_
  refine J_iload_n dX6_count_0 rfl ?_
  rcases sw_of v 9 (by decide) with hsw | ⟨jsw, hjsw, rfl⟩
  · refine J_tsOut (tgt := 118) dX6_count_1 (by rcases hsw with q | q; exact Or.inl q; exact Or.inr (by omega)) (by decide) ?_
    refine J_bipush (x := -2) dX6_count_118 (by decide) ?_
    exact J_iret dX6_count_120 rfl ⟨rfl, Nat.le_refl _⟩ (hQ h _ (by unfold f_count; rw [sel_o (Nat.le_of_ble_eq_true rfl) hsw]) Fr.rf hC)
  · rcases (show jsw = 0 ∨ jsw = 1 ∨ jsw = 2 ∨ jsw = 3 ∨ jsw = 4 ∨ jsw = 5 ∨ jsw = 6 ∨ jsw = 7 ∨ jsw = 8 by omega) with rfl | rfl | rfl | rfl | rfl | rfl | rfl | rfl | rfl
    · refine J_tsIn (off := 51) (tgt := 52) dX6_count_1 (by decide) (by decide) (by decide) (by decide) ?_
      refine J_aload_n dX6_count_52 rfl ?_
      refine J_get (k := 0) dX6_count_53 gc_6 fl_RX6_10 (by decide) hC.o hC.bo rfl ?_
      refine J_callV (As := []) (rest := []) (M' := m_X4_size) dX6_count_56 ml_RX6_81 gm_X4_size gv_X4_size hC.L.o hC.L.b rfl rfl rfl (Nat.le_of_ble_eq_true rfl) (by decide) ⟨rfl, rfl, by decide, by decide⟩ (s_X4_size hC.L (fun r5 hr5 => ?_))
      subst hr5
      exact J_iret dX6_count_59 rfl ⟨rfl, Nat.le_refl _⟩ (hQ h _ (by unfold f_count; exact sel_e (j := 0) (by rfl) (by rfl)) Fr.rf hC)
    · refine J_tsIn (off := 59) (tgt := 60) dX6_count_1 (by decide) (by decide) (by decide) (by decide) ?_
      refine J_aload_n dX6_count_60 rfl ?_
      refine J_iload_n dX6_count_61 rfl ?_
      refine J_callV (As := [_]) (rest := []) (M' := m_X6_countOnWay) dX6_count_62 ml_RX6_224 gm_X6_countOnWay gv_X6_countOnWay hC.o hC.bo rfl rfl rfl (Nat.le_of_ble_eq_true rfl) (by decide) ⟨rfl, rfl, by decide, by decide⟩ (s_X6_countOnWay (j := 1) (by decide) hC (fun h1 r5 hr5 hF1 hC1 => ?_))
      exact J_iret dX6_count_65 rfl ⟨rfl, Nat.le_refl _⟩ (hQ h1 _ hr5 hF1 hC1)
    · refine J_tsIn (off := 59) (tgt := 60) dX6_count_1 (by decide) (by decide) (by decide) (by decide) ?_
      refine J_aload_n dX6_count_60 rfl ?_
      refine J_iload_n dX6_count_61 rfl ?_
      refine J_callV (As := [_]) (rest := []) (M' := m_X6_countOnWay) dX6_count_62 ml_RX6_224 gm_X6_countOnWay gv_X6_countOnWay hC.o hC.bo rfl rfl rfl (Nat.le_of_ble_eq_true rfl) (by decide) ⟨rfl, rfl, by decide, by decide⟩ (s_X6_countOnWay (j := 2) (by decide) hC (fun h1 r5 hr5 hF1 hC1 => ?_))
      exact J_iret dX6_count_65 rfl ⟨rfl, Nat.le_refl _⟩ (hQ h1 _ hr5 hF1 hC1)
    · refine J_tsIn (off := 59) (tgt := 60) dX6_count_1 (by decide) (by decide) (by decide) (by decide) ?_
      refine J_aload_n dX6_count_60 rfl ?_
      refine J_iload_n dX6_count_61 rfl ?_
      refine J_callV (As := [_]) (rest := []) (M' := m_X6_countOnWay) dX6_count_62 ml_RX6_224 gm_X6_countOnWay gv_X6_countOnWay hC.o hC.bo rfl rfl rfl (Nat.le_of_ble_eq_true rfl) (by decide) ⟨rfl, rfl, by decide, by decide⟩ (s_X6_countOnWay (j := 3) (by decide) hC (fun h1 r5 hr5 hF1 hC1 => ?_))
      exact J_iret dX6_count_65 rfl ⟨rfl, Nat.le_refl _⟩ (hQ h1 _ hr5 hF1 hC1)
    · refine J_tsIn (off := 65) (tgt := 66) dX6_count_1 (by decide) (by decide) (by decide) (by decide) ?_
      refine J_aload_n dX6_count_66 rfl ?_
      refine J_get (k := 6) dX6_count_67 gc_6 fl_RX6_43 (by decide) hC.o hC.bo rfl ?_
      refine J_aload_n dX6_count_70 rfl ?_
      refine J_get (k := 0) dX6_count_71 gc_6 fl_RX6_10 (by decide) hC.o hC.bo rfl ?_
      refine J_callV (As := [_]) (rest := []) (M' := m_X5_oddMoments) dX6_count_74 ml_RX6_227 gm_X5_oddMoments gv_X5_oddMoments hC.M.o hC.M.bo rfl rfl rfl (Nat.le_of_ble_eq_true rfl) (by decide) ⟨rfl, rfl, by decide, by decide⟩ (s_X5_oddMoments hC.M hC.L (by omega) (fun r5 h1 hr5 hF1 hM1 => ?_))
      replace hC := hC.mom hF1 hM1
      exact J_iret dX6_count_77 rfl ⟨rfl, Nat.le_refl _⟩ (hQ h1 _ (by rw [hr5]; unfold f_count; exact sel_e (j := 4) (by rfl) (by rfl)) (hF1.mono (by omega) (by omega)) hC)
    · refine J_tsIn (off := 77) (tgt := 78) dX6_count_1 (by decide) (by decide) (by decide) (by decide) ?_
      refine J_aload_n dX6_count_78 rfl ?_
      refine J_get (k := 6) dX6_count_79 gc_6 fl_RX6_43 (by decide) hC.o hC.bo rfl ?_
      refine J_aload_n dX6_count_82 rfl ?_
      refine J_get (k := 0) dX6_count_83 gc_6 fl_RX6_10 (by decide) hC.o hC.bo rfl ?_
      refine J_callV (As := [_]) (rest := []) (M' := m_X5_mostParts) dX6_count_86 ml_RX6_230 gm_X5_mostParts gv_X5_mostParts hC.M.o hC.M.bo rfl rfl rfl (Nat.le_of_ble_eq_true rfl) (by decide) ⟨rfl, rfl, by decide, by decide⟩ (s_X5_mostParts hC.M hC.L (by omega) (fun r5 h1 hr5 hF1 hM1 => ?_))
      replace hC := hC.mom hF1 hM1
      exact J_iret dX6_count_89 rfl ⟨rfl, Nat.le_refl _⟩ (hQ h1 _ (by rw [hr5]; unfold f_count; exact sel_e (j := 5) (by rfl) (by rfl)) (hF1.mono (by omega) (by omega)) hC)
    · refine J_tsIn (off := 89) (tgt := 90) dX6_count_1 (by decide) (by decide) (by decide) (by decide) ?_
      refine J_aload_n dX6_count_90 rfl ?_
      refine J_get (k := 6) dX6_count_91 gc_6 fl_RX6_43 (by decide) hC.o hC.bo rfl ?_
      refine J_aload_n dX6_count_94 rfl ?_
      refine J_get (k := 0) dX6_count_95 gc_6 fl_RX6_10 (by decide) hC.o hC.bo rfl ?_
      refine J_callV (As := [_]) (rest := []) (M' := m_X5_fewestParts) dX6_count_98 ml_RX6_233 gm_X5_fewestParts gv_X5_fewestParts hC.M.o hC.M.bo rfl rfl rfl (Nat.le_of_ble_eq_true rfl) (by decide) ⟨rfl, rfl, by decide, by decide⟩ (s_X5_fewestParts hC.M hC.L (by omega) (fun r5 h1 hr5 hF1 hM1 => ?_))
      replace hC := hC.mom hF1 hM1
      exact J_iret dX6_count_101 rfl ⟨rfl, Nat.le_refl _⟩ (hQ h1 _ (by rw [hr5]; unfold f_count; exact sel_e (j := 6) (by rfl) (by rfl)) (hF1.mono (by omega) (by omega)) hC)
    · refine J_tsIn (off := 101) (tgt := 102) dX6_count_1 (by decide) (by decide) (by decide) (by decide) ?_
      refine J_aload_n dX6_count_102 rfl ?_
      refine J_get (k := 3) dX6_count_103 gc_6 fl_RX6_26 (by decide) hC.o hC.bo rfl ?_
      refine J_callV (As := []) (rest := []) (M' := m_X1_size) dX6_count_106 ml_RX6_137 gm_X1_size gv_X1_size hC.H.o hC.H.bo rfl rfl rfl (Nat.le_of_ble_eq_true rfl) (by decide) ⟨rfl, rfl, by decide, by decide⟩ (s_X1_size hC.H (fun r5 hr5 => ?_))
      subst hr5
      exact J_iret dX6_count_109 rfl ⟨rfl, Nat.le_refl _⟩ (hQ h _ (by unfold f_count; exact sel_e (j := 7) (by rfl) (by rfl)) Fr.rf hC)
    · refine J_tsIn (off := 109) (tgt := 110) dX6_count_1 (by decide) (by decide) (by decide) (by decide) ?_
      refine J_aload_n dX6_count_110 rfl ?_
      refine J_get (k := 4) dX6_count_111 gc_6 fl_RX6_33 (by decide) hC.o hC.bo rfl ?_
      refine J_callV (As := []) (rest := []) (M' := m_X3_length) dX6_count_114 ml_RX6_127 gm_X3_length gv_X3_length hT.o hT.bo rfl rfl rfl (Nat.le_of_ble_eq_true rfl) (by decide) ⟨rfl, rfl, by decide, by decide⟩ (s_X3_length hT (fun r5 hr5 => ?_))
      subst hr5
      exact J_iret dX6_count_117 rfl ⟨rfl, Nat.le_refl _⟩ (hQ h _ (by unfold f_count; exact sel_e (j := 8) (by rfl) (by rfl)) Fr.rf hC)
end SFace3
