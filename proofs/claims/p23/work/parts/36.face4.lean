section SRows4
variable {h h' : g_H} {a : Nat} {x1 x2 x3 x4 x5 x6 : Int32} {Q : Option Value → g_H → Prop}
theorem s_X8_many (hP : RR h a x1 x2 x3 x4 x5 x6) (hQ : Q (some (.int x1)) h) : MJ m_X8_many 0 0 0 [.ref a] h Q := by
  refine MJ_of_J (L := [some (.ref a)]) (by decide +kernel) rfl (Nat.le_of_ble_eq_true rfl) rfl ?_
  refine J_aload_n dX8_many_0 rfl ?_
  refine J_get (k := 0) dX8_many_1 gc_8 fl_RX8_9 (by decide) hP.o hP.bo rfl ?_
  exact J_iret dX8_many_4 rfl ⟨rfl, Nat.le_refl _⟩ (hQ)
theorem s_X8_first (hP : RR h a x1 x2 x3 x4 x5 x6) (hQ : Q (some (.int x2)) h) : MJ m_X8_first 0 0 0 [.ref a] h Q := by
  refine MJ_of_J (L := [some (.ref a)]) (by decide +kernel) rfl (Nat.le_of_ble_eq_true rfl) rfl ?_
  refine J_aload_n dX8_first_0 rfl ?_
  refine J_get (k := 1) dX8_first_1 gc_8 fl_RX8_15 (by decide) hP.o hP.bo rfl ?_
  exact J_iret dX8_first_4 rfl ⟨rfl, Nat.le_refl _⟩ (hQ)
theorem s_X8_last (hP : RR h a x1 x2 x3 x4 x5 x6) (hQ : Q (some (.int x3)) h) : MJ m_X8_last 0 0 0 [.ref a] h Q := by
  refine MJ_of_J (L := [some (.ref a)]) (by decide +kernel) rfl (Nat.le_of_ble_eq_true rfl) rfl ?_
  refine J_aload_n dX8_last_0 rfl ?_
  refine J_get (k := 2) dX8_last_1 gc_8 fl_RX8_18 (by decide) hP.o hP.bo rfl ?_
  exact J_iret dX8_last_4 rfl ⟨rfl, Nat.le_refl _⟩ (hQ)
theorem s_X8_longest (hP : RR h a x1 x2 x3 x4 x5 x6) (hQ : Q (some (.int x5)) h) : MJ m_X8_longest 0 0 0 [.ref a] h Q := by
  refine MJ_of_J (L := [some (.ref a)]) (by decide +kernel) rfl (Nat.le_of_ble_eq_true rfl) rfl ?_
  refine J_aload_n dX8_longest_0 rfl ?_
  refine J_get (k := 4) dX8_longest_1 gc_8 fl_RX8_21 (by decide) hP.o hP.bo rfl ?_
  exact J_iret dX8_longest_4 rfl ⟨rfl, Nat.le_refl _⟩ (hQ)
theorem s_X8_longestBegin (hP : RR h a x1 x2 x3 x4 x5 x6) (hQ : Q (some (.int x6)) h) : MJ m_X8_longestBegin 0 0 0 [.ref a] h Q := by
  refine MJ_of_J (L := [some (.ref a)]) (by decide +kernel) rfl (Nat.le_of_ble_eq_true rfl) rfl ?_
  refine J_aload_n dX8_longestBegin_0 rfl ?_
  refine J_get (k := 5) dX8_longestBegin_1 gc_8 fl_RX8_24 (by decide) hP.o hP.bo rfl ?_
  exact J_iret dX8_longestBegin_4 rfl ⟨rfl, Nat.le_refl _⟩ (hQ)
theorem s_X8_empty (hP : RR h a x1 x2 x3 x4 x5 x6) (hQ : ∀ h', Fr a (a + 1) h h' → RR h' a 0 (-5) (-5) 0 0 (-5) → Q none h') : MJ m_X8_empty 0 0 0 [.ref a] h Q := by
  refine MJ_of_J (L := [some (.ref a)]) (by decide +kernel) rfl (Nat.le_of_ble_eq_true rfl) rfl ?_
  refine J_aload_n dX8_empty_0 rfl ?_
  refine J_iconst (x := 0) dX8_empty_1 (by decide) ?_
  refine J_put (k := 0) dX8_empty_2 gc_8 fl_RX8_9 (by decide) rfl hP.o hP.bo (Nat.le_of_ble_eq_true rfl) (fun _ => ⟨rfl, rfl⟩) rfl ?_
  replace hP := hP.so 0 x2 x3 x4 x5 x6
  refine J_aload_n dX8_empty_5 rfl ?_
  refine J_bipush (x := -5) dX8_empty_6 (by decide) ?_
  refine J_put (k := 1) dX8_empty_8 gc_8 fl_RX8_15 (by decide) rfl hP.o hP.bo (Nat.le_of_ble_eq_true rfl) (fun _ => ⟨rfl, rfl⟩) rfl ?_
  replace hP := hP.so 0 (-5) x3 x4 x5 x6
  refine J_aload_n dX8_empty_11 rfl ?_
  refine J_bipush (x := -5) dX8_empty_12 (by decide) ?_
  refine J_put (k := 2) dX8_empty_14 gc_8 fl_RX8_18 (by decide) rfl hP.o hP.bo (Nat.le_of_ble_eq_true rfl) (fun _ => ⟨rfl, rfl⟩) rfl ?_
  replace hP := hP.so 0 (-5) (-5) x4 x5 x6
  refine J_aload_n dX8_empty_17 rfl ?_
  refine J_iconst (x := 0) dX8_empty_18 (by decide) ?_
  refine J_put (k := 3) dX8_empty_19 gc_8 fl_RX8_27 (by decide) rfl hP.o hP.bo (Nat.le_of_ble_eq_true rfl) (fun _ => ⟨rfl, rfl⟩) rfl ?_
  replace hP := hP.so 0 (-5) (-5) 0 x5 x6
  refine J_aload_n dX8_empty_22 rfl ?_
  refine J_iconst (x := 0) dX8_empty_23 (by decide) ?_
  refine J_put (k := 4) dX8_empty_24 gc_8 fl_RX8_21 (by decide) rfl hP.o hP.bo (Nat.le_of_ble_eq_true rfl) (fun _ => ⟨rfl, rfl⟩) rfl ?_
  replace hP := hP.so 0 (-5) (-5) 0 0 x6
  refine J_aload_n dX8_empty_27 rfl ?_
  refine J_bipush (x := -5) dX8_empty_28 (by decide) ?_
  refine J_put (k := 5) dX8_empty_30 gc_8 fl_RX8_24 (by decide) rfl hP.o hP.bo (Nat.le_of_ble_eq_true rfl) (fun _ => ⟨rfl, rfl⟩) rfl ?_
  replace hP := hP.so 0 (-5) (-5) 0 0 (-5)
  exact J_vret dX8_empty_33 rfl ⟨rfl, Nat.le_refl _⟩ (hQ _ ((((((Fr.rf.up (by omega) (by omega)).up (by omega) (by omega)).up (by omega) (by omega)).up (by omega) (by omega)).up (by omega) (by omega)).up (by omega) (by omega)) hP)
theorem nI_p1q (k : Nat) : nI k + 1 = nI (k + 1) := nI_i1 k
theorem ci_and {α : Type} {p q : Prop} {x y : α} (hp : p) : ci (p ∧ q) x y = ci q x y := by
  rcases Classical.em q with z | z
  · rw [ci_t z, ci_t ⟨hp, z⟩]
  · rw [ci_f z, ci_f (fun k => z k.2)]
theorem b2_X8_add {h1 : g_H} {m mn r0 lo : Nat} {fi la bg g : Int32} (hm : m < 64) (hmn : mn ≤ 64) (hr0 : r0 ≤ 64) (hlo : lo ≤ 64) (hP : RR h1 a (nI mn) fi la (nI (r0 + 1)) (nI lo) bg) (hF : Fr a (a + 1) h h1) (hQ : ∀ h', Fr a (a + 1) h h' → RR h' a (nI (mn + 1)) fi (nI m) (nI (r0 + 1)) (nI (ci (lo < r0 + 1) (r0 + 1) lo)) (ci (lo < r0 + 1) (nI m - nI (r0 + 1) + 1) bg) → Q none h') : J m_X8_add 0 0 0 0 0 53 [some (.ref a), some (.int (nI m)), some (.int g)] [] h1 Q := by
  refine J_aload_n dX8_add_53 rfl ?_
  refine J_dup dX8_add_54 rfl ?_
  refine J_get (k := 0) dX8_add_55 gc_8 fl_RX8_9 (by decide) hP.o hP.bo rfl ?_
  refine J_iconst (x := 1) dX8_add_58 (by decide) ?_
  refine J_iadd dX8_add_59 ?_
  rw [nI_p1q mn]
  refine J_put (k := 0) dX8_add_60 gc_8 fl_RX8_9 (by decide) rfl hP.o hP.bo (Nat.le_of_ble_eq_true rfl) (fun _ => ⟨rfl, rfl⟩) rfl ?_
  replace hP := hP.so (nI (mn + 1)) fi la (nI (r0 + 1)) (nI lo) bg
  refine J_aload_n dX8_add_63 rfl ?_
  refine J_iload_n dX8_add_64 rfl ?_
  refine J_put (k := 2) dX8_add_65 gc_8 fl_RX8_18 (by decide) rfl hP.o hP.bo (Nat.le_of_ble_eq_true rfl) (fun _ => ⟨rfl, rfl⟩) rfl ?_
  replace hP := hP.so (nI (mn + 1)) fi (nI m) (nI (r0 + 1)) (nI lo) bg
  refine J_aload_n dX8_add_68 rfl ?_
  refine J_get (k := 3) dX8_add_69 gc_8 fl_RX8_27 (by decide) hP.o hP.bo rfl ?_
  refine J_aload_n dX8_add_72 rfl ?_
  refine J_get (k := 4) dX8_add_73 gc_8 fl_RX8_21 (by decide) hP.o hP.bo rfl ?_
  refine J_icmp_le (tgt := 99) dX8_add_76 (by decide) (fun c76 => ?_) (fun c76 => ?_)
  · exact J_vret dX8_add_99 rfl ⟨rfl, Nat.le_refl _⟩ (hQ _ ((hF.up (by omega) (by omega)).up (by omega) (by omega)) (by have hs : ¬ lo < r0 + 1 := Nat.not_lt.mpr ((nI_leI (by omega) (by omega)).mp c76); rw [ci_f hs, ci_f hs]; exact hP))
  · refine J_aload_n dX8_add_79 rfl ?_
    refine J_aload_n dX8_add_80 rfl ?_
    refine J_get (k := 3) dX8_add_81 gc_8 fl_RX8_27 (by decide) hP.o hP.bo rfl ?_
    refine J_put (k := 4) dX8_add_84 gc_8 fl_RX8_21 (by decide) rfl hP.o hP.bo (Nat.le_of_ble_eq_true rfl) (fun _ => ⟨rfl, rfl⟩) rfl ?_
    replace hP := hP.so (nI (mn + 1)) fi (nI m) (nI (r0 + 1)) (nI (r0 + 1)) bg
    refine J_aload_n dX8_add_87 rfl ?_
    refine J_iload_n dX8_add_88 rfl ?_
    refine J_aload_n dX8_add_89 rfl ?_
    refine J_get (k := 3) dX8_add_90 gc_8 fl_RX8_27 (by decide) hP.o hP.bo rfl ?_
    refine J_isub dX8_add_93 ?_
    refine J_iconst (x := 1) dX8_add_94 (by decide) ?_
    refine J_iadd dX8_add_95 ?_
    refine J_put (k := 5) dX8_add_96 gc_8 fl_RX8_24 (by decide) rfl hP.o hP.bo (Nat.le_of_ble_eq_true rfl) (fun _ => ⟨rfl, rfl⟩) rfl ?_
    replace hP := hP.so (nI (mn + 1)) fi (nI m) (nI (r0 + 1)) (nI (r0 + 1)) (nI m - nI (r0 + 1) + 1)
    exact J_vret dX8_add_99 rfl ⟨rfl, Nat.le_refl _⟩ (hQ _ ((((hF.up (by omega) (by omega)).up (by omega) (by omega)).up (by omega) (by omega)).up (by omega) (by omega)) (by have hs : lo < r0 + 1 := Nat.not_le.mp (fun q => c76 ((nI_leI (by omega) (by omega)).mpr q)); rw [ci_t hs, ci_t hs]; exact hP))
theorem b_X8_add {h1 : g_H} {m mn r0 lo : Nat} {fi la ro bg g : Int32} (hm : m < 64) (hmn : mn ≤ 64) (hr0 : r0 ≤ 64) (hlo : lo ≤ 64) (hP : RR h1 a (nI mn) fi la ro (nI lo) bg) (hro : ro = nI (r0 + 1)) (hF : Fr a (a + 1) h h1) (hQ : ∀ h', Fr a (a + 1) h h' → RR h' a (nI (mn + 1)) (ci (mn = 0) (nI m) fi) (nI m) (nI (r0 + 1)) (nI (ci (lo < r0 + 1) (r0 + 1) lo)) (ci (lo < r0 + 1) (nI m - nI (r0 + 1) + 1) bg) → Q none h') : J m_X8_add 0 0 0 0 0 41 [some (.ref a), some (.int (nI m)), some (.int g)] [] h1 Q := by
  subst hro
  refine J_aload_n dX8_add_41 rfl ?_
  refine J_get (k := 0) dX8_add_42 gc_8 fl_RX8_9 (by decide) hP.o hP.bo rfl ?_
  refine J_if_ne (tgt := 53) dX8_add_45 (by decide) (fun c45 => ?_) (fun c45 => ?_)
  · exact b2_X8_add hm hmn hr0 hlo hP hF (fun h2 F2 R2 => hQ h2 F2 (by rw [ci_f (fun q => c45 (by rw [q]; rfl))]; exact R2))
  · refine J_aload_n dX8_add_48 rfl ?_
    refine J_iload_n dX8_add_49 rfl ?_
    refine J_put (k := 1) dX8_add_50 gc_8 fl_RX8_15 (by decide) rfl hP.o hP.bo (Nat.le_of_ble_eq_true rfl) (fun _ => ⟨rfl, rfl⟩) rfl ?_
    replace hP := hP.so (nI mn) (nI m) la (nI (r0 + 1)) (nI lo) bg
    exact b2_X8_add hm hmn hr0 hlo hP (hF.up (by omega) (by omega)) (fun h2 F2 R2 => hQ h2 F2 (by rw [ci_t ((nI_eq (b := 0) (by omega) (by omega)).mp c45)]; exact R2))
theorem s_X8_add {m mn r0 lo : Nat} {fi la ro bg : Int32} (hm : m < 64) (hmn : mn ≤ 64) (hr0 : r0 ≤ 64) (hlo : lo ≤ 64) (hP : RR h a (nI mn) fi la ro (nI lo) bg) (h1 : 0 < mn → nI m = la + 1 → ro = nI r0) (h2 : ¬ (0 < mn ∧ nI m = la + 1) → r0 = 0) (hQ : ∀ h', Fr a (a + 1) h h' → RR h' a (nI (mn + 1)) (ci (mn = 0) (nI m) fi) (nI m) (nI (r0 + 1)) (nI (ci (lo < r0 + 1) (r0 + 1) lo)) (ci (lo < r0 + 1) (nI m - nI (r0 + 1) + 1) bg) → Q none h') : MJ m_X8_add 0 0 0 [.ref a, .int (nI m)] h Q := by
  refine MJ_of_J (L := [some (.ref a), some (.int (nI m)), none]) (by decide +kernel) rfl (Nat.le_of_ble_eq_true rfl) rfl ?_
  refine J_aload_n dX8_add_0 rfl ?_
  refine J_get (k := 0) dX8_add_1 gc_8 fl_RX8_9 (by decide) hP.o hP.bo rfl ?_
  refine J_if_le (tgt := 21) dX8_add_4 (by decide) (fun c4 => ?_) (fun c4 => ?_)
  · refine J_iconst (x := 0) dX8_add_21 (by decide) ?_
    refine J_istore_n (L' := [_, _, _]) dX8_add_22 (by decide) rfl ?_
    refine J_aload_n dX8_add_23 rfl ?_
    refine J_iload_n dX8_add_24 rfl ?_
    refine J_if_eq (tgt := 37) dX8_add_25 (by decide) (fun c25 => ?_) (fun c25 => absurd rfl c25)
    refine J_iconst (x := 1) dX8_add_37 (by decide) ?_
    refine J_put (k := 3) dX8_add_38 gc_8 fl_RX8_27 (by decide) rfl hP.o hP.bo (Nat.le_of_ble_eq_true rfl) (fun _ => ⟨rfl, rfl⟩) rfl ?_
    replace hP := hP.so (nI mn) fi la 1 (nI lo) bg
    exact b_X8_add hm hmn hr0 hlo hP (by rw [h2 (fun q => absurd ((nI_leI (b := 0) (by omega) (by omega)).mp c4) (by omega))]; rfl) (Fr.rf.up (by omega) (by omega)) hQ
  · refine J_iload_n dX8_add_7 rfl ?_
    refine J_aload_n dX8_add_8 rfl ?_
    refine J_get (k := 2) dX8_add_9 gc_8 fl_RX8_18 (by decide) hP.o hP.bo rfl ?_
    refine J_iconst (x := 1) dX8_add_12 (by decide) ?_
    refine J_iadd dX8_add_13 ?_
    refine J_icmp_ne (tgt := 21) dX8_add_14 (by decide) (fun c14 => ?_) (fun c14 => ?_)
    · refine J_iconst (x := 0) dX8_add_21 (by decide) ?_
      refine J_istore_n (L' := [_, _, _]) dX8_add_22 (by decide) rfl ?_
      refine J_aload_n dX8_add_23 rfl ?_
      refine J_iload_n dX8_add_24 rfl ?_
      refine J_if_eq (tgt := 37) dX8_add_25 (by decide) (fun c25 => ?_) (fun c25 => absurd rfl c25)
      refine J_iconst (x := 1) dX8_add_37 (by decide) ?_
      refine J_put (k := 3) dX8_add_38 gc_8 fl_RX8_27 (by decide) rfl hP.o hP.bo (Nat.le_of_ble_eq_true rfl) (fun _ => ⟨rfl, rfl⟩) rfl ?_
      replace hP := hP.so (nI mn) fi la 1 (nI lo) bg
      exact b_X8_add hm hmn hr0 hlo hP (by rw [h2 (fun q => c14 q.2)]; rfl) (Fr.rf.up (by omega) (by omega)) hQ
    · refine J_iconst (x := 1) dX8_add_17 (by decide) ?_
      refine J_goto (tgt := 22) dX8_add_18 (by decide) ?_
      refine J_istore_n (L' := [_, _, _]) dX8_add_22 (by decide) rfl ?_
      refine J_aload_n dX8_add_23 rfl ?_
      refine J_iload_n dX8_add_24 rfl ?_
      refine J_if_eq (tgt := 37) dX8_add_25 (by decide) (fun c25 => absurd c25 (by decide)) (fun c25 => ?_)
      refine J_aload_n dX8_add_28 rfl ?_
      refine J_get (k := 3) dX8_add_29 gc_8 fl_RX8_27 (by decide) hP.o hP.bo rfl ?_
      refine J_iconst (x := 1) dX8_add_32 (by decide) ?_
      refine J_iadd dX8_add_33 ?_
      refine J_goto (tgt := 38) dX8_add_34 (by decide) ?_
      refine J_put (k := 3) dX8_add_38 gc_8 fl_RX8_27 (by decide) rfl hP.o hP.bo (Nat.le_of_ble_eq_true rfl) (fun _ => ⟨rfl, rfl⟩) rfl ?_
      replace hP := hP.so (nI mn) fi la (ro + 1) (nI lo) bg
      exact b_X8_add hm hmn hr0 hlo hP (by rw [h1 (Nat.not_le.mp (fun q => c4 ((nI_leI (b := 0) (by omega) (by omega)).mpr q))) c14]; exact nI_i1 r0) (Fr.rf.up (by omega) (by omega)) hQ
end SRows4
section SFace4
variable {h h' : g_H} {a : Nat} {s : St} {Q : Option Value → g_H → Prop}
theorem CI.R (c : CI h a s) : RA h (a + 49) := c.2.2.2.2.2.2.2.2.1
theorem l_X6_together {x y : Nat} {v : Int32} (hx : x < 16) (hy : y < 16) (K : ∀ h1 mn fi la ro r0 lo bg, Fr a (a + 56) h h1 → CI h1 a s → RR h1 (a + 49) (nI mn) fi la ro (nI lo) bg → tgN (fun m => CM s.1 m x y) 64 = (mn, fi, la, r0, lo, bg) → J m_X6_together 5 0 0 0 0 66 [some (.ref a), some (.int (nI x)), some (.int (nI y)), some (.int v), some (.int (nI 64))] [] h1 Q) : ∀ (t m : Nat) (h1 : g_H) (mn : Nat) (fi la ro : Int32) (r0 lo : Nat) (bg : Int32), 64 - m < t → m ≤ 64 → Fr a (a + 56) h h1 → CI h1 a s → RR h1 (a + 49) (nI mn) fi la ro (nI lo) bg → tgN (fun m => CM s.1 m x y) m = (mn, fi, la, r0, lo, bg) → mn ≤ m ∧ r0 ≤ m ∧ lo ≤ m → ((mn = 0 → r0 = 0) ∧ (0 < mn → ∃ k, k < m ∧ la = nI k ∧ (k + 1 = m → ro = nI r0) ∧ (k + 1 ≠ m → r0 = 0))) → J m_X6_together 5 0 0 0 0 26 [some (.ref a), some (.int (nI x)), some (.int (nI y)), some (.int v), some (.int (nI m))] [] h1 Q := by
  intro t
  induction t with
  | zero => intro m h1 mn fi la ro r0 lo bg ht; omega
  | succ t ih =>
    intro m h1 mn fi la ro r0 lo bg ht hm hF hC hR hT hb hA
    obtain ⟨hb1, hb2, hb3⟩ := hb
    obtain ⟨hA1, hA2⟩ := hA
    have hn := hC.L.len
    have hst : tgN (fun m => CM s.1 m x y) (m + 1) = tgS (fun m => CM s.1 m x y) m (tgN (fun m => CM s.1 m x y) m) := rfl
    rw [hT] at hst
    refine J_iload dX6_together_26 rfl ?_
    refine J_bipush (x := 64) dX6_together_28 (by decide) ?_
    refine J_icmp_ge (tgt := 66) dX6_together_30 (by decide) (fun c30 => ?_) (fun c30 => ?_)
    · have c30 : 64 ≤ m := (nI_leI (a := 64) (b := m) (by omega) (by omega)).mp c30
      obtain rfl : m = 64 := by omega
      exact K h1 _ _ _ _ _ _ _ hF hC hR hT
    · have c30 : m < 64 := Nat.not_le.mp (fun q => c30 ((nI_leI (a := 64) (b := m) (by omega) (by omega)).mpr q))
      refine J_aload_n dX6_together_33 rfl ?_
      refine J_get (k := 6) dX6_together_34 gc_6 fl_RX6_43 (by decide) hC.o hC.bo rfl ?_
      refine J_aload_n dX6_together_37 rfl ?_
      refine J_get (k := 0) dX6_together_38 gc_6 fl_RX6_10 (by decide) hC.o hC.bo rfl ?_
      refine J_iload dX6_together_41 rfl ?_
      refine J_iload_n dX6_together_43 rfl ?_
      refine J_iload_n dX6_together_44 rfl ?_
      refine J_callV (As := [_, _, _, _]) (rest := []) (M' := m_X5_areJoinedAt) dX6_together_45 ml_RX6_151 gm_X5_areJoinedAt gv_X5_areJoinedAt hC.M.o hC.M.bo rfl rfl rfl (Nat.le_of_ble_eq_true rfl) (by decide) ⟨rfl, rfl, by decide, by decide⟩ (s_X5_areJoinedAt c30 hC.M hC.L (by omega) hx hy (fun r5 h2 hr5 hF1 hM1 => ?_))
      replace hC := hC.mom hF1 hM1
      replace hF := hF.tr (hF1.mono (by omega) (by omega))
      replace hR := hR.fr hF1 (by omega)
      refine J_if_eq (tgt := 60) dX6_together_48 (by decide) (fun c48 => ?_) (fun c48 => ?_)
      · refine J_iinc (L' := [_, _, _, _, _]) dX6_together_60 rfl (nI_i1 m) (by decide) rfl ?_
        refine J_goto (tgt := 26) dX6_together_63 (by decide) ?_
        have hp := (bI_0 hr5).mp c48
        have hq : ¬ (CM s.1 m x y ∧ mn = 0) := fun q => hp q.1
        have hs : ¬ lo < 0 := Nat.not_lt_zero _
        have hst2 := hst
        unfold tgS at hst2
        simp only [ci_f hp, ci_f hq, ci_f hs] at hst2
        exact ih (m + 1) h2 mn fi la ro 0 lo bg (by omega) (by omega) hF hC hR hst2 ⟨by omega, by omega, by omega⟩ ⟨fun _ => rfl, fun z => by
          obtain ⟨k, k1, k2, k3, k4⟩ := hA2 z
          exact ⟨k, by omega, k2, fun e => by omega, fun _ => rfl⟩⟩
      · have hp := nn_of hr5 c48
        refine J_aload_n dX6_together_51 rfl ?_
        refine J_get (k := 7) dX6_together_52 gc_6 fl_RX6_50 (by decide) hC.o hC.bo rfl ?_
        refine J_iload dX6_together_55 rfl ?_
        refine J_callV (As := [_]) (rest := []) (M' := m_X8_add) dX6_together_57 ml_RX6_190 gm_X8_add gv_X8_add hR.o hR.bo rfl rfl rfl (Nat.le_of_ble_eq_true rfl) (by decide) ⟨rfl, rfl, by decide, by decide⟩ (s_X8_add (r0 := r0) c30 (by omega) (by omega) (by omega) hR (fun q1 q2 => by
      obtain ⟨k, k1, k2, k3, k4⟩ := hA2 q1
      exact k3 (by rw [k2, nI_p1q k, nI_eq (by omega) (by omega)] at q2; omega)) (fun q => by
      rcases Nat.eq_zero_or_pos mn with z | z
      · exact hA1 z
      · obtain ⟨k, k1, k2, k3, k4⟩ := hA2 z
        exact k4 (fun e => q ⟨z, by rw [k2, nI_p1q k, e]⟩)) (fun h3 hF3 hR3 => ?_))
        replace hC := hC.rows hF3 ⟨_, _, _, _, _, _, hR3⟩
        replace hF := hF.tr (hF3.mono (by omega) (by omega))
        refine J_iinc (L' := [_, _, _, _, _]) dX6_together_60 rfl (nI_i1 m) (by decide) rfl ?_
        refine J_goto (tgt := 26) dX6_together_63 (by decide) ?_
        have hst2 := hst
        unfold tgS at hst2
        simp only [ci_t hp, ci_and hp] at hst2
        exact ih (m + 1) h3 (mn + 1) _ (nI m) (nI (r0 + 1)) (r0 + 1) _ _ (by omega) (by omega) hF hC hR3 hst2 ⟨by omega, by omega, by
          rcases Classical.em (lo < r0 + 1) with z | z
          · rw [ci_t z]; omega
          · rw [ci_f z]; omega⟩ ⟨fun z => absurd z (by omega), fun _ => ⟨m, by omega, rfl, fun _ => rfl, fun z => absurd rfl z⟩⟩
theorem s_X6_together {x y v : Int32} (hC : CI h a s) (hQ : ∀ h' r, r = f_tog x y v s → Fr a (a + 56) h h' → CI h' a s → Q (some (.int r)) h') : MJ m_X6_together 5 0 0 [.ref a, .int x, .int y, .int v] h Q := by
  have hn := hC.L.len
  refine MJ_of_J (L := [some (.ref a), some (.int x), some (.int y), some (.int v), none]) (by decide +kernel) rfl (Nat.le_of_ble_eq_true rfl) rfl ?_
  refine J_iload_n dX6_together_0 rfl ?_
  refine J_callS (As := [_]) (rest := []) (M' := m_X6_isPoint) dX6_together_1 ml_RX6_61 gm_X6_isPoint sm_yX6_isPoint rfl rfl (Nat.le_of_ble_eq_true rfl) (by decide) ⟨rfl, rfl, by decide, by decide⟩ (s_X6_isPoint (fun r1 hr1 => ?_))
  refine J_if_eq (tgt := 14) dX6_together_4 (by decide) (fun c4 => ?_) (fun c4 => ?_)
  · refine J_iconst (x := -1) dX6_together_14 (by decide) ?_
    exact J_iret dX6_together_15 rfl ⟨rfl, Nat.le_refl _⟩ (hQ h _ (by unfold f_tog; rw [ci_t (fun q => (bI_0 hr1).mp c4 q.1)]) Fr.rf hC)
  · refine J_iload_n dX6_together_7 rfl ?_
    refine J_callS (As := [_]) (rest := []) (M' := m_X6_isPoint) dX6_together_8 ml_RX6_61 gm_X6_isPoint sm_yX6_isPoint rfl rfl (Nat.le_of_ble_eq_true rfl) (by decide) ⟨rfl, rfl, by decide, by decide⟩ (s_X6_isPoint (fun r2 hr2 => ?_))
    refine J_if_ne (tgt := 16) dX6_together_11 (by decide) (fun c11 => ?_) (fun c11 => ?_)
    · obtain ⟨i, hi, rfl⟩ := nn_of hr1 c4
      obtain ⟨j, hj, rfl⟩ := nn_of hr2 c11
      obtain ⟨x1, x2, x3, x4, x5, x6, hR⟩ := hC.R
      refine J_aload_n dX6_together_16 rfl ?_
      refine J_get (k := 7) dX6_together_17 gc_6 fl_RX6_50 (by decide) hC.o hC.bo rfl ?_
      refine J_callV (As := []) (rest := []) (M' := m_X8_empty) dX6_together_20 ml_RX6_189 gm_X8_empty gv_X8_empty hR.o hR.bo rfl rfl rfl (Nat.le_of_ble_eq_true rfl) (by decide) ⟨rfl, rfl, by decide, by decide⟩ (s_X8_empty hR (fun h0 hF0 hR0 => ?_))
      replace hC := hC.rows hF0 ⟨_, _, _, _, _, _, hR0⟩
      refine J_iconst (x := 0) dX6_together_23 (by decide) ?_
      refine J_istore (L' := [_, _, _, _, _]) dX6_together_24 (by decide) rfl ?_
      refine l_X6_together hi hj (fun h1 mn fi la ro r0 lo bg hF1 hC hR hT => ?_) 65 0 h0 0 (-5) (-5) 0 0 0 (-5) (by omega) (by omega) (hF0.mono (by omega) (by omega)) hC hR0 rfl (by omega) ⟨fun _ => rfl, fun q => absurd q (by decide)⟩
      refine J_iload_n dX6_together_66 rfl ?_
      rcases sw_of v 5 (by decide) with hsw | ⟨jsw, hjsw, rfl⟩
      · refine J_tsOut (tgt := 140) dX6_together_67 (by rcases hsw with q | q; exact Or.inl q; exact Or.inr (by omega)) (by decide) ?_
        refine J_bipush (x := -2) dX6_together_140 (by decide) ?_
        exact J_iret dX6_together_142 rfl ⟨rfl, Nat.le_refl _⟩ (hQ h1 _ (by unfold f_tog; rw [ci_f (fun q => q ⟨nn_of hr1 c4, nn_of hr2 c11⟩), tN_n (by omega), tN_n (by omega)]; unfold tgL; rw [hT]; rw [sel_o (Nat.le_of_ble_eq_true rfl) hsw]) hF1 hC)
      · rcases (show jsw = 0 ∨ jsw = 1 ∨ jsw = 2 ∨ jsw = 3 ∨ jsw = 4 by omega) with rfl | rfl | rfl | rfl | rfl
        · refine J_tsIn (off := 33) (tgt := 100) dX6_together_67 (by decide) (by decide) (by decide) (by decide) ?_
          refine J_aload_n dX6_together_100 rfl ?_
          refine J_get (k := 7) dX6_together_101 gc_6 fl_RX6_50 (by decide) hC.o hC.bo rfl ?_
          refine J_callV (As := []) (rest := []) (M' := m_X8_many) dX6_together_104 ml_RX6_192 gm_X8_many gv_X8_many hR.o hR.bo rfl rfl rfl (Nat.le_of_ble_eq_true rfl) (by decide) ⟨rfl, rfl, by decide, by decide⟩ (s_X8_many hR ?_)
          exact J_iret dX6_together_107 rfl ⟨rfl, Nat.le_refl _⟩ (hQ h1 _ (by unfold f_tog; rw [ci_f (fun q => q ⟨nn_of hr1 c4, nn_of hr2 c11⟩), tN_n (by omega), tN_n (by omega)]; unfold tgL; rw [hT]; exact sel_e (j := 0) (by rfl) (by rfl)) hF1 hC)
        · refine J_tsIn (off := 41) (tgt := 108) dX6_together_67 (by decide) (by decide) (by decide) (by decide) ?_
          refine J_aload_n dX6_together_108 rfl ?_
          refine J_get (k := 7) dX6_together_109 gc_6 fl_RX6_50 (by decide) hC.o hC.bo rfl ?_
          refine J_callV (As := []) (rest := []) (M' := m_X8_first) dX6_together_112 ml_RX6_195 gm_X8_first gv_X8_first hR.o hR.bo rfl rfl rfl (Nat.le_of_ble_eq_true rfl) (by decide) ⟨rfl, rfl, by decide, by decide⟩ (s_X8_first hR ?_)
          exact J_iret dX6_together_115 rfl ⟨rfl, Nat.le_refl _⟩ (hQ h1 _ (by unfold f_tog; rw [ci_f (fun q => q ⟨nn_of hr1 c4, nn_of hr2 c11⟩), tN_n (by omega), tN_n (by omega)]; unfold tgL; rw [hT]; exact sel_e (j := 1) (by rfl) (by rfl)) hF1 hC)
        · refine J_tsIn (off := 49) (tgt := 116) dX6_together_67 (by decide) (by decide) (by decide) (by decide) ?_
          refine J_aload_n dX6_together_116 rfl ?_
          refine J_get (k := 7) dX6_together_117 gc_6 fl_RX6_50 (by decide) hC.o hC.bo rfl ?_
          refine J_callV (As := []) (rest := []) (M' := m_X8_last) dX6_together_120 ml_RX6_198 gm_X8_last gv_X8_last hR.o hR.bo rfl rfl rfl (Nat.le_of_ble_eq_true rfl) (by decide) ⟨rfl, rfl, by decide, by decide⟩ (s_X8_last hR ?_)
          exact J_iret dX6_together_123 rfl ⟨rfl, Nat.le_refl _⟩ (hQ h1 _ (by unfold f_tog; rw [ci_f (fun q => q ⟨nn_of hr1 c4, nn_of hr2 c11⟩), tN_n (by omega), tN_n (by omega)]; unfold tgL; rw [hT]; exact sel_e (j := 2) (by rfl) (by rfl)) hF1 hC)
        · refine J_tsIn (off := 57) (tgt := 124) dX6_together_67 (by decide) (by decide) (by decide) (by decide) ?_
          refine J_aload_n dX6_together_124 rfl ?_
          refine J_get (k := 7) dX6_together_125 gc_6 fl_RX6_50 (by decide) hC.o hC.bo rfl ?_
          refine J_callV (As := []) (rest := []) (M' := m_X8_longest) dX6_together_128 ml_RX6_201 gm_X8_longest gv_X8_longest hR.o hR.bo rfl rfl rfl (Nat.le_of_ble_eq_true rfl) (by decide) ⟨rfl, rfl, by decide, by decide⟩ (s_X8_longest hR ?_)
          exact J_iret dX6_together_131 rfl ⟨rfl, Nat.le_refl _⟩ (hQ h1 _ (by unfold f_tog; rw [ci_f (fun q => q ⟨nn_of hr1 c4, nn_of hr2 c11⟩), tN_n (by omega), tN_n (by omega)]; unfold tgL; rw [hT]; exact sel_e (j := 3) (by rfl) (by rfl)) hF1 hC)
        · refine J_tsIn (off := 65) (tgt := 132) dX6_together_67 (by decide) (by decide) (by decide) (by decide) ?_
          refine J_aload_n dX6_together_132 rfl ?_
          refine J_get (k := 7) dX6_together_133 gc_6 fl_RX6_50 (by decide) hC.o hC.bo rfl ?_
          refine J_callV (As := []) (rest := []) (M' := m_X8_longestBegin) dX6_together_136 ml_RX6_204 gm_X8_longestBegin gv_X8_longestBegin hR.o hR.bo rfl rfl rfl (Nat.le_of_ble_eq_true rfl) (by decide) ⟨rfl, rfl, by decide, by decide⟩ (s_X8_longestBegin hR ?_)
          exact J_iret dX6_together_139 rfl ⟨rfl, Nat.le_refl _⟩ (hQ h1 _ (by unfold f_tog; rw [ci_f (fun q => q ⟨nn_of hr1 c4, nn_of hr2 c11⟩), tN_n (by omega), tN_n (by omega)]; unfold tgL; rw [hT]; exact sel_e (j := 4) (by rfl) (by rfl)) hF1 hC)
    · refine J_iconst (x := -1) dX6_together_14 (by decide) ?_
      exact J_iret dX6_together_15 rfl ⟨rfl, Nat.le_refl _⟩ (hQ h _ (by unfold f_tog; rw [ci_t (fun q => (bI_0 hr2).mp c11 q.2)]) Fr.rf hC)
end SFace4
