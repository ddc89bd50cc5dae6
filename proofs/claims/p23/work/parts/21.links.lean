/-- the length of a span, and where it begins -/
def sl (d : Nat) : Nat := 64 / 2 ^ d
def sb (m d : Nat) : Nat := m - m % sl d
theorem sl_i : ∀ d, d < 7 → (64 : Int32) >>> (nI d &&& 31) = nI (sl d) := by decide +kernel
theorem sb_i : ∀ m, m < 64 → ∀ d, d < 7 → nI m &&& -(nI (sl d)) = nI (sb m d) := by decide +kernel
theorem sb_le (m d : Nat) : sb m d ≤ m := Nat.sub_le _ _
theorem sl_64 : ∀ d, d < 7 → sl d ≤ 64 ∧ 0 < sl d := by decide +kernel
section SStat
variable {h : g_H} {Q : Option Value → g_H → Prop}
theorem s_X6_spanLength {d : Nat} (hd : d < 7) (hQ : ∀ r, r = nI (sl d) → Q (some (.int r)) h) : MJ m_X6_spanLength 0 0 0 [.int (nI d)] h Q := by
  refine MJ_of_J (L := [some (.int (nI d))]) (by decide +kernel) rfl (Nat.le_of_ble_eq_true rfl) rfl ?_
  refine J_bipush (x := 64) dX6_spanLength_0 (by decide) ?_
  refine J_iload_n dX6_spanLength_2 rfl ?_
  refine J_ishr dX6_spanLength_3 ?_
  exact J_iret dX6_spanLength_4 rfl ⟨rfl, Nat.le_refl _⟩ (hQ _ (sl_i d hd))
theorem s_X6_spanBegin {m d : Nat} (hm : m < 64) (hd : d < 7) (hQ : ∀ r, r = nI (sb m d) → Q (some (.int r)) h) : MJ m_X6_spanBegin 1 0 0 [.int (nI m), .int (nI d)] h Q := by
  refine MJ_of_J (L := [some (.int (nI m)), some (.int (nI d))]) (by decide +kernel) rfl (Nat.le_of_ble_eq_true rfl) rfl ?_
  refine J_iload_n dX6_spanBegin_0 rfl ?_
  refine J_iload_n dX6_spanBegin_1 rfl ?_
  refine J_callS (As := [_]) (rest := [_]) (M' := m_X6_spanLength) dX6_spanBegin_2 ml_RX6_215 gm_X6_spanLength sm_yX6_spanLength rfl rfl (Nat.le_of_ble_eq_true rfl) (by decide) ⟨rfl, rfl, by decide, by decide⟩ (s_X6_spanLength hd (fun r hr => ?_))
  refine J_ineg dX6_spanBegin_5 ?_
  refine J_iand dX6_spanBegin_6 ?_
  exact J_iret dX6_spanBegin_7 rfl ⟨rfl, Nat.le_refl _⟩ (hQ _ (by rw [hr]; exact sb_i m hm d hd))
theorem s_X6_asNumber {P : Prop} {x : Int32} (hx : x = bI P) (hQ : ∀ r, r = bI P → Q (some (.int r)) h) : MJ m_X6_asNumber 0 0 0 [.int x] h Q := by
  refine MJ_of_J (L := [some (.int x)]) (by decide +kernel) rfl (Nat.le_of_ble_eq_true rfl) rfl ?_
  refine J_iload_n dX6_asNumber_0 rfl ?_
  refine J_if_eq (tgt := 8) dX6_asNumber_1 (by decide) (fun c1 => ?_) (fun c1 => ?_)
  · refine J_iconst (x := 0) dX6_asNumber_8 (by decide) ?_
    exact J_iret dX6_asNumber_9 rfl ⟨rfl, Nat.le_refl _⟩ (hQ _ (bI_f ((bI_0 hx).mp c1)).symm)
  · refine J_iconst (x := 1) dX6_asNumber_4 (by decide) ?_
    refine J_goto (tgt := 9) dX6_asNumber_5 (by decide) ?_
    exact J_iret dX6_asNumber_9 rfl ⟨rfl, Nat.le_refl _⟩ (hQ _ (bI_t (Classical.not_not.mp (fun q => c1 ((bI_0 hx).mpr q)))).symm)
theorem s_X6_isPoint {x : Int32} (hQ : ∀ r, r = bI (IX x 16) → Q (some (.int r)) h) : MJ m_X6_isPoint 0 0 0 [.int x] h Q := by
  refine MJ_of_J (L := [some (.int x)]) (by decide +kernel) rfl (Nat.le_of_ble_eq_true rfl) rfl ?_
  refine J_iload_n dX6_isPoint_0 rfl ?_
  refine J_if_lt (tgt := 14) dX6_isPoint_1 (by decide) (fun c1 => ?_) (fun c1 => ?_)
  · refine J_iconst (x := 0) dX6_isPoint_14 (by decide) ?_
    exact J_zret dX6_isPoint_15 rfl (by first | exact Or.inl rfl | exact Or.inr rfl) ⟨rfl, Nat.le_refl _⟩ (hQ _ (bI_f (IX_n0 (by omega) c1)).symm)
  · refine J_iload_n dX6_isPoint_4 rfl ?_
    refine J_bipush (x := 16) dX6_isPoint_5 (by decide) ?_
    refine J_icmp_ge (tgt := 14) dX6_isPoint_7 (by decide) (fun c7 => ?_) (fun c7 => ?_)
    · refine J_iconst (x := 0) dX6_isPoint_14 (by decide) ?_
      exact J_zret dX6_isPoint_15 rfl (by first | exact Or.inl rfl | exact Or.inr rfl) ⟨rfl, Nat.le_refl _⟩ (hQ _ (bI_f (IX_nn (n := 16) (by omega) c7)).symm)
    · refine J_iconst (x := 1) dX6_isPoint_10 (by decide) ?_
      refine J_goto (tgt := 15) dX6_isPoint_11 (by decide) ?_
      exact J_zret dX6_isPoint_15 rfl (by first | exact Or.inl rfl | exact Or.inr rfl) ⟨rfl, Nat.le_refl _⟩ (hQ _ (bI_t (IX_of (n := 16) (by omega) c1 c7)).symm)
theorem s_X6_isMoment {x : Int32} (hQ : ∀ r, r = bI (IX x 64) → Q (some (.int r)) h) : MJ m_X6_isMoment 0 0 0 [.int x] h Q := by
  refine MJ_of_J (L := [some (.int x)]) (by decide +kernel) rfl (Nat.le_of_ble_eq_true rfl) rfl ?_
  refine J_iload_n dX6_isMoment_0 rfl ?_
  refine J_if_lt (tgt := 14) dX6_isMoment_1 (by decide) (fun c1 => ?_) (fun c1 => ?_)
  · refine J_iconst (x := 0) dX6_isMoment_14 (by decide) ?_
    exact J_zret dX6_isMoment_15 rfl (by first | exact Or.inl rfl | exact Or.inr rfl) ⟨rfl, Nat.le_refl _⟩ (hQ _ (bI_f (IX_n0 (by omega) c1)).symm)
  · refine J_iload_n dX6_isMoment_4 rfl ?_
    refine J_bipush (x := 64) dX6_isMoment_5 (by decide) ?_
    refine J_icmp_ge (tgt := 14) dX6_isMoment_7 (by decide) (fun c7 => ?_) (fun c7 => ?_)
    · refine J_iconst (x := 0) dX6_isMoment_14 (by decide) ?_
      exact J_zret dX6_isMoment_15 rfl (by first | exact Or.inl rfl | exact Or.inr rfl) ⟨rfl, Nat.le_refl _⟩ (hQ _ (bI_f (IX_nn (n := 64) (by omega) c7)).symm)
    · refine J_iconst (x := 1) dX6_isMoment_10 (by decide) ?_
      refine J_goto (tgt := 15) dX6_isMoment_11 (by decide) ?_
      exact J_zret dX6_isMoment_15 rfl (by first | exact Or.inl rfl | exact Or.inr rfl) ⟨rfl, Nat.le_refl _⟩ (hQ _ (bI_t (IX_of (n := 64) (by omega) c1 c7)).symm)
/-- a begin and an end of a life, as they were told -/
def LF (x y : Int32) : Prop := ∃ b e : Nat, b < e ∧ e ≤ 64 ∧ x = nI b ∧ y = nI e
theorem LF_of {x y : Int32} (h1 : IX x 64) (h2 : ¬ y ≤ x) (h3 : ¬ 64 < y) : LF x y := by
  obtain ⟨b, hb, rfl⟩ := h1
  have h3' : ¬ nI 64 < y := h3
  rw [nI_leT' (by omega)] at h2
  rw [nI_ltT (by omega)] at h3'
  have h0 : ¬ y < 0 := by rw [Int32.lt_iff_toInt_lt]; show ¬ y.toInt < 0; omega
  obtain ⟨e, he, rfl⟩ := nI_of h0
  rw [nI_toInt he] at h2 h3'
  exact ⟨b, e, by omega, by omega, rfl, rfl⟩
theorem LF_n1 {x y : Int32} (h1 : ¬ IX x 64) : ¬ LF x y := by
  rintro ⟨b, e, h2, h3, rfl, rfl⟩
  exact h1 ⟨b, by omega, rfl⟩
theorem LF_n2 {x y : Int32} (h1 : y ≤ x) : ¬ LF x y := by
  rintro ⟨b, e, h2, h3, rfl, rfl⟩
  exact nI_ge h2 (by omega) h1
theorem LF_n3 {x y : Int32} (h1 : 64 < y) : ¬ LF x y := by
  rintro ⟨b, e, h2, h3, rfl, rfl⟩
  exact nI_nlt h3 (by omega) h1
theorem s_X6_isLife {x y : Int32} (hQ : ∀ r, r = bI (LF x y) → Q (some (.int r)) h) : MJ m_X6_isLife 1 0 0 [.int x, .int y] h Q := by
  refine MJ_of_J (L := [some (.int x), some (.int y)]) (by decide +kernel) rfl (Nat.le_of_ble_eq_true rfl) rfl ?_
  refine J_iload_n dX6_isLife_0 rfl ?_
  refine J_callS (As := [_]) (rest := []) (M' := m_X6_isMoment) dX6_isLife_1 ml_RX6_102 gm_X6_isMoment sm_yX6_isMoment rfl rfl (Nat.le_of_ble_eq_true rfl) (by decide) ⟨rfl, rfl, by decide, by decide⟩ (s_X6_isMoment (fun r hr => ?_))
  refine J_if_eq (tgt := 22) dX6_isLife_4 (by decide) (fun c4 => ?_) (fun c4 => ?_)
  · refine J_iconst (x := 0) dX6_isLife_22 (by decide) ?_
    exact J_zret dX6_isLife_23 rfl (by first | exact Or.inl rfl | exact Or.inr rfl) ⟨rfl, Nat.le_refl _⟩ (hQ _ (bI_f (LF_n1 ((bI_0 hr).mp c4))).symm)
  · refine J_iload_n dX6_isLife_7 rfl ?_
    refine J_iload_n dX6_isLife_8 rfl ?_
    refine J_icmp_le (tgt := 22) dX6_isLife_9 (by decide) (fun c9 => ?_) (fun c9 => ?_)
    · refine J_iconst (x := 0) dX6_isLife_22 (by decide) ?_
      exact J_zret dX6_isLife_23 rfl (by first | exact Or.inl rfl | exact Or.inr rfl) ⟨rfl, Nat.le_refl _⟩ (hQ _ (bI_f (LF_n2 c9)).symm)
    · refine J_iload_n dX6_isLife_12 rfl ?_
      refine J_bipush (x := 64) dX6_isLife_13 (by decide) ?_
      refine J_icmp_gt (tgt := 22) dX6_isLife_15 (by decide) (fun c15 => ?_) (fun c15 => ?_)
      · refine J_iconst (x := 0) dX6_isLife_22 (by decide) ?_
        exact J_zret dX6_isLife_23 rfl (by first | exact Or.inl rfl | exact Or.inr rfl) ⟨rfl, Nat.le_refl _⟩ (hQ _ (bI_f (LF_n3 c15)).symm)
      · refine J_iconst (x := 1) dX6_isLife_18 (by decide) ?_
        refine J_goto (tgt := 23) dX6_isLife_19 (by decide) ?_
        exact J_zret dX6_isLife_23 rfl (by first | exact Or.inl rfl | exact Or.inr rfl) ⟨rfl, Nat.le_refl _⟩ (hQ _ (bI_t (LF_of (Classical.not_not.mp (fun q => c4 ((bI_0 hr).mpr q))) c9 c15)).symm)
end SStat
section SLinks
variable {h : g_H} {a : Nat} {ls : List Lk} {Q : Option Value → g_H → Prop}
theorem s_X4_size (hA : LA h a ls) (hQ : ∀ r, r = nI ls.length → Q (some (.int r)) h) : MJ m_X4_size 0 0 0 [.ref a] h Q := by
  obtain ⟨f1, f2, f3, f4, hP, hV, hn, hO⟩ := hA
  refine MJ_of_J (L := [some (.ref a)]) (by decide +kernel) rfl (Nat.le_of_ble_eq_true rfl) rfl ?_
  refine J_aload_n dX4_size_0 rfl ?_
  refine J_get (k := 4) dX4_size_1 gc_4 fl_RX4_24 (by decide) hP.o hP.b rfl ?_
  exact J_iret dX4_size_4 rfl ⟨rfl, Nat.le_refl _⟩ (hQ _ rfl)
theorem s_X4_room (hA : LA h a ls) (hQ : ∀ r, r = nI (40 - ls.length) → Q (some (.int r)) h) : MJ m_X4_room 0 0 0 [.ref a] h Q := by
  obtain ⟨f1, f2, f3, f4, hP, hV, hn, hO⟩ := hA
  refine MJ_of_J (L := [some (.ref a)]) (by decide +kernel) rfl (Nat.le_of_ble_eq_true rfl) rfl ?_
  refine J_bipush (x := 40) dX4_room_0 (by decide) ?_
  refine J_aload_n dX4_room_2 rfl ?_
  refine J_get (k := 4) dX4_room_3 gc_4 fl_RX4_24 (by decide) hP.o hP.b rfl ?_
  refine J_isub dX4_room_6 ?_
  exact J_iret dX4_room_7 rfl ⟨rfl, Nat.le_refl _⟩ (hQ _ (pk_sub hn))
theorem s_X4_has {x : Int32} (hA : LA h a ls) (hQ : ∀ r, r = bI (IX x ls.length) → Q (some (.int r)) h) : MJ m_X4_has 0 0 0 [.ref a, .int x] h Q := by
  obtain ⟨f1, f2, f3, f4, hP, hV, hn, hO⟩ := hA
  refine MJ_of_J (L := [some (.ref a), some (.int x)]) (by decide +kernel) rfl (Nat.le_of_ble_eq_true rfl) rfl ?_
  refine J_iload_n dX4_has_0 rfl ?_
  refine J_if_lt (tgt := 16) dX4_has_1 (by decide) (fun c1 => ?_) (fun c1 => ?_)
  · refine J_iconst (x := 0) dX4_has_16 (by decide) ?_
    exact J_zret dX4_has_17 rfl (by first | exact Or.inl rfl | exact Or.inr rfl) ⟨rfl, Nat.le_refl _⟩ (hQ _ (bI_f (IX_n0 (by omega) c1)).symm)
  · refine J_iload_n dX4_has_4 rfl ?_
    refine J_aload_n dX4_has_5 rfl ?_
    refine J_get (k := 4) dX4_has_6 gc_4 fl_RX4_24 (by decide) hP.o hP.b rfl ?_
    refine J_icmp_ge (tgt := 16) dX4_has_9 (by decide) (fun c9 => ?_) (fun c9 => ?_)
    · refine J_iconst (x := 0) dX4_has_16 (by decide) ?_
      exact J_zret dX4_has_17 rfl (by first | exact Or.inl rfl | exact Or.inr rfl) ⟨rfl, Nat.le_refl _⟩ (hQ _ (bI_f (IX_nn (by omega) c9)).symm)
    · refine J_iconst (x := 1) dX4_has_12 (by decide) ?_
      refine J_goto (tgt := 17) dX4_has_13 (by decide) ?_
      exact J_zret dX4_has_17 rfl (by first | exact Or.inl rfl | exact Or.inr rfl) ⟨rfl, Nat.le_refl _⟩ (hQ _ (bI_t (IX_of (by omega) c1 c9)).symm)
theorem s_X4_oneOf {j : Nat} {y : Lk} (hA : LA h a ls) (hj : ls[j]? = some y) (hQ : ∀ r, r = nI y.1 → Q (some (.int r)) h) : MJ m_X4_oneOf 1 0 0 [.ref a, .int (nI j)] h Q := by
  have hA0 := hA
  obtain ⟨f1, f2, f3, f4, hP, hV, hn, hO⟩ := hA
  have hjl := get_lt hj
  obtain ⟨v1, v2, v3, v4⟩ := hV j y hj
  obtain ⟨o1, o2, o3, o4, o5⟩ := hO y (List.mem_of_getElem? hj)
  refine MJ_of_J (L := [some (.ref a), some (.int (nI j))]) (by decide +kernel) rfl (Nat.le_of_ble_eq_true rfl) rfl ?_
  refine J_aload_n dX4_oneOf_0 rfl ?_
  refine J_iload_n dX4_oneOf_1 rfl ?_
  refine J_callV (As := [_]) (rest := []) (M' := m_X4_has) dX4_oneOf_2 ml_RX4_28 gm_X4_has gv_X4_has hP.o hP.b rfl rfl rfl (Nat.le_of_ble_eq_true rfl) (by decide) ⟨rfl, rfl, by decide, by decide⟩ (s_X4_has hA0 (fun r hr => ?_))
  refine J_if_eq (tgt := 17) dX4_oneOf_5 (by decide) (fun c5 => absurd ⟨j, hjl, rfl⟩ ((bI_0 hr).mp c5)) (fun c5 => ?_)
  refine J_aload_n dX4_oneOf_8 rfl ?_
  refine J_get (k := 0) dX4_oneOf_9 gc_4 fl_RX4_9 (by decide) hP.o hP.b rfl ?_
  refine J_iload_n dX4_oneOf_12 rfl ?_
  refine J_iald dX4_oneOf_13 hP.c1 hP.b1 (vp_in_nI (by omega) (by decide)) ?_
  rw [nI_clamp (n := j) (by omega), v1]
  refine J_goto (tgt := 18) dX4_oneOf_14 (by decide) ?_
  exact J_iret dX4_oneOf_18 rfl ⟨rfl, Nat.le_refl _⟩ (hQ _ rfl)
theorem s_X4_otherOf {j : Nat} {y : Lk} (hA : LA h a ls) (hj : ls[j]? = some y) (hQ : ∀ r, r = nI y.2.1 → Q (some (.int r)) h) : MJ m_X4_otherOf 1 0 0 [.ref a, .int (nI j)] h Q := by
  have hA0 := hA
  obtain ⟨f1, f2, f3, f4, hP, hV, hn, hO⟩ := hA
  have hjl := get_lt hj
  obtain ⟨v1, v2, v3, v4⟩ := hV j y hj
  obtain ⟨o1, o2, o3, o4, o5⟩ := hO y (List.mem_of_getElem? hj)
  refine MJ_of_J (L := [some (.ref a), some (.int (nI j))]) (by decide +kernel) rfl (Nat.le_of_ble_eq_true rfl) rfl ?_
  refine J_aload_n dX4_otherOf_0 rfl ?_
  refine J_iload_n dX4_otherOf_1 rfl ?_
  refine J_callV (As := [_]) (rest := []) (M' := m_X4_has) dX4_otherOf_2 ml_RX4_28 gm_X4_has gv_X4_has hP.o hP.b rfl rfl rfl (Nat.le_of_ble_eq_true rfl) (by decide) ⟨rfl, rfl, by decide, by decide⟩ (s_X4_has hA0 (fun r hr => ?_))
  refine J_if_eq (tgt := 17) dX4_otherOf_5 (by decide) (fun c5 => absurd ⟨j, hjl, rfl⟩ ((bI_0 hr).mp c5)) (fun c5 => ?_)
  refine J_aload_n dX4_otherOf_8 rfl ?_
  refine J_get (k := 1) dX4_otherOf_9 gc_4 fl_RX4_15 (by decide) hP.o hP.b rfl ?_
  refine J_iload_n dX4_otherOf_12 rfl ?_
  refine J_iald dX4_otherOf_13 hP.c2 hP.b2 (vp_in_nI (by omega) (by decide)) ?_
  rw [nI_clamp (n := j) (by omega), v2]
  refine J_goto (tgt := 18) dX4_otherOf_14 (by decide) ?_
  exact J_iret dX4_otherOf_18 rfl ⟨rfl, Nat.le_refl _⟩ (hQ _ rfl)
theorem s_X4_fromOf {j : Nat} {y : Lk} (hA : LA h a ls) (hj : ls[j]? = some y) (hQ : ∀ r, r = nI y.2.2.1 → Q (some (.int r)) h) : MJ m_X4_fromOf 1 0 0 [.ref a, .int (nI j)] h Q := by
  have hA0 := hA
  obtain ⟨f1, f2, f3, f4, hP, hV, hn, hO⟩ := hA
  have hjl := get_lt hj
  obtain ⟨v1, v2, v3, v4⟩ := hV j y hj
  obtain ⟨o1, o2, o3, o4, o5⟩ := hO y (List.mem_of_getElem? hj)
  refine MJ_of_J (L := [some (.ref a), some (.int (nI j))]) (by decide +kernel) rfl (Nat.le_of_ble_eq_true rfl) rfl ?_
  refine J_aload_n dX4_fromOf_0 rfl ?_
  refine J_iload_n dX4_fromOf_1 rfl ?_
  refine J_callV (As := [_]) (rest := []) (M' := m_X4_has) dX4_fromOf_2 ml_RX4_28 gm_X4_has gv_X4_has hP.o hP.b rfl rfl rfl (Nat.le_of_ble_eq_true rfl) (by decide) ⟨rfl, rfl, by decide, by decide⟩ (s_X4_has hA0 (fun r hr => ?_))
  refine J_if_eq (tgt := 17) dX4_fromOf_5 (by decide) (fun c5 => absurd ⟨j, hjl, rfl⟩ ((bI_0 hr).mp c5)) (fun c5 => ?_)
  refine J_aload_n dX4_fromOf_8 rfl ?_
  refine J_get (k := 2) dX4_fromOf_9 gc_4 fl_RX4_18 (by decide) hP.o hP.b rfl ?_
  refine J_iload_n dX4_fromOf_12 rfl ?_
  refine J_iald dX4_fromOf_13 hP.c3 hP.b3 (vp_in_nI (by omega) (by decide)) ?_
  rw [nI_clamp (n := j) (by omega), v3]
  refine J_goto (tgt := 18) dX4_fromOf_14 (by decide) ?_
  exact J_iret dX4_fromOf_18 rfl ⟨rfl, Nat.le_refl _⟩ (hQ _ rfl)
theorem s_X4_toOf {j : Nat} {y : Lk} (hA : LA h a ls) (hj : ls[j]? = some y) (hQ : ∀ r, r = nI y.2.2.2 → Q (some (.int r)) h) : MJ m_X4_toOf 1 0 0 [.ref a, .int (nI j)] h Q := by
  have hA0 := hA
  obtain ⟨f1, f2, f3, f4, hP, hV, hn, hO⟩ := hA
  have hjl := get_lt hj
  obtain ⟨v1, v2, v3, v4⟩ := hV j y hj
  obtain ⟨o1, o2, o3, o4, o5⟩ := hO y (List.mem_of_getElem? hj)
  refine MJ_of_J (L := [some (.ref a), some (.int (nI j))]) (by decide +kernel) rfl (Nat.le_of_ble_eq_true rfl) rfl ?_
  refine J_aload_n dX4_toOf_0 rfl ?_
  refine J_iload_n dX4_toOf_1 rfl ?_
  refine J_callV (As := [_]) (rest := []) (M' := m_X4_has) dX4_toOf_2 ml_RX4_28 gm_X4_has gv_X4_has hP.o hP.b rfl rfl rfl (Nat.le_of_ble_eq_true rfl) (by decide) ⟨rfl, rfl, by decide, by decide⟩ (s_X4_has hA0 (fun r hr => ?_))
  refine J_if_eq (tgt := 17) dX4_toOf_5 (by decide) (fun c5 => absurd ⟨j, hjl, rfl⟩ ((bI_0 hr).mp c5)) (fun c5 => ?_)
  refine J_aload_n dX4_toOf_8 rfl ?_
  refine J_get (k := 3) dX4_toOf_9 gc_4 fl_RX4_21 (by decide) hP.o hP.b rfl ?_
  refine J_iload_n dX4_toOf_12 rfl ?_
  refine J_iald dX4_toOf_13 hP.c4 hP.b4 (vp_in_nI (by omega) (by decide)) ?_
  rw [nI_clamp (n := j) (by omega), v4]
  refine J_goto (tgt := 18) dX4_toOf_14 (by decide) ?_
  exact J_iret dX4_toOf_18 rfl ⟨rfl, Nat.le_refl _⟩ (hQ _ rfl)
theorem s_X4_livesAt {j : Nat} {y : Lk} {m : Int32} (hA : LA h a ls) (hj : ls[j]? = some y) (hQ : ∀ r, r = bI (lvB m.toInt y = true) → Q (some (.int r)) h) : MJ m_X4_livesAt 1 0 0 [.ref a, .int (nI j), .int m] h Q := by
  have hA0 := hA
  obtain ⟨f1, f2, f3, f4, hP, hV, hn, hO⟩ := hA
  have hjl := get_lt hj
  obtain ⟨v1, v2, v3, v4⟩ := hV j y hj
  obtain ⟨o1, o2, o3, o4, o5⟩ := hO y (List.mem_of_getElem? hj)
  refine MJ_of_J (L := [some (.ref a), some (.int (nI j)), some (.int m)]) (by decide +kernel) rfl (Nat.le_of_ble_eq_true rfl) rfl ?_
  refine J_aload_n dX4_livesAt_0 rfl ?_
  refine J_iload_n dX4_livesAt_1 rfl ?_
  refine J_callV (As := [_]) (rest := []) (M' := m_X4_has) dX4_livesAt_2 ml_RX4_28 gm_X4_has gv_X4_has hP.o hP.b rfl rfl rfl (Nat.le_of_ble_eq_true rfl) (by decide) ⟨rfl, rfl, by decide, by decide⟩ (s_X4_has hA0 (fun r hr => ?_))
  refine J_if_eq (tgt := 32) dX4_livesAt_5 (by decide) (fun c5 => absurd ⟨j, hjl, rfl⟩ ((bI_0 hr).mp c5)) (fun c5 => ?_)
  refine J_aload_n dX4_livesAt_8 rfl ?_
  refine J_get (k := 2) dX4_livesAt_9 gc_4 fl_RX4_18 (by decide) hP.o hP.b rfl ?_
  refine J_iload_n dX4_livesAt_12 rfl ?_
  refine J_iald dX4_livesAt_13 hP.c3 hP.b3 (vp_in_nI (by omega) (by decide)) ?_
  rw [nI_clamp (n := j) (by omega), v3]
  refine J_iload_n dX4_livesAt_14 rfl ?_
  refine J_icmp_gt (tgt := 32) dX4_livesAt_15 (by decide) (fun c15 => ?_) (fun c15 => ?_)
  · refine J_iconst (x := 0) dX4_livesAt_32 (by decide) ?_
    exact J_zret dX4_livesAt_33 rfl (by first | exact Or.inl rfl | exact Or.inr rfl) ⟨rfl, Nat.le_refl _⟩ (hQ _ (bI_f (fun q => by rw [lvB_iff] at q; rw [nI_ltT' (by omega)] at c15; omega)).symm)
  · refine J_iload_n dX4_livesAt_18 rfl ?_
    refine J_aload_n dX4_livesAt_19 rfl ?_
    refine J_get (k := 3) dX4_livesAt_20 gc_4 fl_RX4_21 (by decide) hP.o hP.b rfl ?_
    refine J_iload_n dX4_livesAt_23 rfl ?_
    refine J_iald dX4_livesAt_24 hP.c4 hP.b4 (vp_in_nI (by omega) (by decide)) ?_
    rw [nI_clamp (n := j) (by omega), v4]
    refine J_icmp_ge (tgt := 32) dX4_livesAt_25 (by decide) (fun c25 => ?_) (fun c25 => ?_)
    · refine J_iconst (x := 0) dX4_livesAt_32 (by decide) ?_
      exact J_zret dX4_livesAt_33 rfl (by first | exact Or.inl rfl | exact Or.inr rfl) ⟨rfl, Nat.le_refl _⟩ (hQ _ (bI_f (fun q => by rw [lvB_iff] at q; rw [nI_leT (by omega)] at c25; omega)).symm)
    · refine J_iconst (x := 1) dX4_livesAt_28 (by decide) ?_
      refine J_goto (tgt := 33) dX4_livesAt_29 (by decide) ?_
      exact J_zret dX4_livesAt_33 rfl (by first | exact Or.inl rfl | exact Or.inr rfl) ⟨rfl, Nat.le_refl _⟩ (hQ _ (bI_t (by rw [lvB_iff]; rw [nI_ltT' (by omega)] at c15; rw [nI_leT (by omega)] at c25; omega)).symm)
theorem l_X4_livingAt {m : Int32} (hA : LA h a ls) (hQ : ∀ r, r = nI (ls.countP (lvB m.toInt)) → Q (some (.int r)) h) : ∀ (t k c : Nat), ls.length - k < t → k ≤ ls.length → c = (ls.take k).countP (lvB m.toInt) → J m_X4_livingAt 2 0 0 0 0 4 [some (.ref a), some (.int m), some (.int (nI c)), some (.int (nI k))] [] h Q := by
  intro t
  induction t with
  | zero => intro k c ht; omega
  | succ t ih =>
    intro k c ht hk hc
    have hA0 := hA
    have hn := hA.len
    have hcl : c ≤ k := by rw [hc]; exact Nat.le_trans List.countP_le_length (by rw [List.length_take]; omega)
    refine J_iload_n dX4_livingAt_4 rfl ?_
    refine J_aload_n dX4_livingAt_5 rfl ?_
    refine J_get (k := 4) dX4_livingAt_6 gc_4 fl_RX4_24 (by decide) hA0.o hA0.b rfl ?_
    refine J_icmp_ge (tgt := 30) dX4_livingAt_9 (by decide) (fun c9 => ?_) (fun c9 => ?_)
    · refine J_iload_n dX4_livingAt_30 rfl ?_
      exact J_iret dX4_livingAt_31 rfl ⟨rfl, Nat.le_refl _⟩ (hQ _ (by have c9 := (nI_leI (by omega) (by omega)).mp c9; rw [hc, List.take_of_length_le c9]))
    · have c9 : k < ls.length := Nat.not_le.mp (fun q => c9 ((nI_leI (by omega) (by omega)).mpr q))
      obtain ⟨y, hy⟩ := get_of c9
      have hs := take_succ_cnt (lvB m.toInt) hy
      refine J_aload_n dX4_livingAt_12 rfl ?_
      refine J_iload_n dX4_livingAt_13 rfl ?_
      refine J_iload_n dX4_livingAt_14 rfl ?_
      refine J_callV (As := [_, _]) (rest := []) (M' := m_X4_livesAt) dX4_livingAt_15 ml_RX4_32 gm_X4_livesAt gv_X4_livesAt hA0.o hA0.b rfl rfl rfl (Nat.le_of_ble_eq_true rfl) (by decide) ⟨rfl, rfl, by decide, by decide⟩ (s_X4_livesAt hA0 hy (fun r hr => ?_))
      refine J_if_eq (tgt := 24) dX4_livingAt_18 (by decide) (fun c18 => ?_) (fun c18 => ?_)
      · refine J_iinc (L' := [_, _, _, _]) dX4_livingAt_24 rfl (nI_i1 k) (by decide) rfl ?_
        refine J_goto (tgt := 4) dX4_livingAt_27 (by decide) ?_
        exact ih (k + 1) _ (by omega) (by omega) (by rw [hs, if_neg ((bI_0 hr).mp c18), ← hc]; rfl)
      · refine J_iinc (L' := [_, _, _, _]) dX4_livingAt_21 rfl (nI_i1 c) (by decide) rfl ?_
        refine J_iinc (L' := [_, _, _, _]) dX4_livingAt_24 rfl (nI_i1 k) (by decide) rfl ?_
        refine J_goto (tgt := 4) dX4_livingAt_27 (by decide) ?_
        exact ih (k + 1) (c + 1) (by omega) (by omega) (by rw [hs, if_pos (Classical.not_not.mp (fun q => c18 ((bI_0 hr).mpr q))), ← hc])
theorem s_X4_livingAt {m : Int32} (hA : LA h a ls) (hQ : ∀ r, r = nI (ls.countP (lvB m.toInt)) → Q (some (.int r)) h) : MJ m_X4_livingAt 2 0 0 [.ref a, .int m] h Q := by
  refine MJ_of_J (L := [some (.ref a), some (.int m), none, none]) (by decide +kernel) rfl (Nat.le_of_ble_eq_true rfl) rfl ?_
  refine J_iconst (x := 0) dX4_livingAt_0 (by decide) ?_
  refine J_istore_n (L' := [_, _, _, _]) dX4_livingAt_1 (by decide) rfl ?_
  refine J_iconst (x := 0) dX4_livingAt_2 (by decide) ?_
  refine J_istore_n (L' := [_, _, _, _]) dX4_livingAt_3 (by decide) rfl ?_
  exact l_X4_livingAt hA hQ (ls.length + 1) 0 0 (by omega) (by omega) (by simp)
/-- a link lives at all of a span -/
def cvB (b n : Nat) (x : Lk) : Bool := decide (x.2.2.1 ≤ b ∧ b + n ≤ x.2.2.2)
theorem cvB_iff {b n : Nat} {x : Lk} : cvB b n x = true ↔ x.2.2.1 ≤ b ∧ b + n ≤ x.2.2.2 := by simp [cvB]
theorem s_X4_coversAll {j b n : Nat} {y : Lk} (hA : LA h a ls) (hj : ls[j]? = some y) (hb : b < 1000) (hm : n < 1000) (hQ : ∀ r, r = bI (cvB b n y = true) → Q (some (.int r)) h) : MJ m_X4_coversAll 1 0 0 [.ref a, .int (nI j), .int (nI b), .int (nI n)] h Q := by
  have hA0 := hA
  obtain ⟨f1, f2, f3, f4, hP, hV, hn, hO⟩ := hA
  have hjl := get_lt hj
  obtain ⟨v1, v2, v3, v4⟩ := hV j y hj
  obtain ⟨o1, o2, o3, o4, o5⟩ := hO y (List.mem_of_getElem? hj)
  refine MJ_of_J (L := [some (.ref a), some (.int (nI j)), some (.int (nI b)), some (.int (nI n))]) (by decide +kernel) rfl (Nat.le_of_ble_eq_true rfl) rfl ?_
  refine J_aload_n dX4_coversAll_0 rfl ?_
  refine J_iload_n dX4_coversAll_1 rfl ?_
  refine J_callV (As := [_]) (rest := []) (M' := m_X4_has) dX4_coversAll_2 ml_RX4_28 gm_X4_has gv_X4_has hP.o hP.b rfl rfl rfl (Nat.le_of_ble_eq_true rfl) (by decide) ⟨rfl, rfl, by decide, by decide⟩ (s_X4_has hA0 (fun r hr => ?_))
  refine J_if_eq (tgt := 34) dX4_coversAll_5 (by decide) (fun c5 => absurd ⟨j, hjl, rfl⟩ ((bI_0 hr).mp c5)) (fun c5 => ?_)
  refine J_aload_n dX4_coversAll_8 rfl ?_
  refine J_get (k := 2) dX4_coversAll_9 gc_4 fl_RX4_18 (by decide) hP.o hP.b rfl ?_
  refine J_iload_n dX4_coversAll_12 rfl ?_
  refine J_iald dX4_coversAll_13 hP.c3 hP.b3 (vp_in_nI (by omega) (by decide)) ?_
  rw [nI_clamp (n := j) (by omega), v3]
  refine J_iload_n dX4_coversAll_14 rfl ?_
  refine J_icmp_gt (tgt := 34) dX4_coversAll_15 (by decide) (fun c15 => ?_) (fun c15 => ?_)
  · refine J_iconst (x := 0) dX4_coversAll_34 (by decide) ?_
    exact J_zret dX4_coversAll_35 rfl (by first | exact Or.inl rfl | exact Or.inr rfl) ⟨rfl, Nat.le_refl _⟩ (hQ _ (bI_f (fun q => by rw [cvB_iff] at q; rw [nI_ltI (by omega) (by omega)] at c15; omega)).symm)
  · refine J_iload_n dX4_coversAll_18 rfl ?_
    refine J_iload_n dX4_coversAll_19 rfl ?_
    refine J_iadd dX4_coversAll_20 ?_
    refine J_aload_n dX4_coversAll_21 rfl ?_
    refine J_get (k := 3) dX4_coversAll_22 gc_4 fl_RX4_21 (by decide) hP.o hP.b rfl ?_
    refine J_iload_n dX4_coversAll_25 rfl ?_
    refine J_iald dX4_coversAll_26 hP.c4 hP.b4 (vp_in_nI (by omega) (by decide)) ?_
    rw [nI_clamp (n := j) (by omega), v4, nI_add]
    refine J_icmp_gt (tgt := 34) dX4_coversAll_27 (by decide) (fun c27 => ?_) (fun c27 => ?_)
    · refine J_iconst (x := 0) dX4_coversAll_34 (by decide) ?_
      exact J_zret dX4_coversAll_35 rfl (by first | exact Or.inl rfl | exact Or.inr rfl) ⟨rfl, Nat.le_refl _⟩ (hQ _ (bI_f (fun q => by rw [cvB_iff] at q; rw [nI_ltI (by omega) (by omega)] at c27; omega)).symm)
    · refine J_iconst (x := 1) dX4_coversAll_30 (by decide) ?_
      refine J_goto (tgt := 35) dX4_coversAll_31 (by decide) ?_
      exact J_zret dX4_coversAll_35 rfl (by first | exact Or.inl rfl | exact Or.inr rfl) ⟨rfl, Nat.le_refl _⟩ (hQ _ (bI_t (by rw [cvB_iff]; rw [nI_ltI (by omega) (by omega)] at c15 c27; omega)).symm)
/-- a link is laid at the span that begins at b, of which the whole time has been halved d times -/
def ldB (b d : Nat) (x : Lk) : Bool := cvB b (sl d) x && (decide (d = 0) || !cvB (sb b (d - 1)) (sl (d - 1)) x)
theorem nI_p1 (d : Nat) (h : ¬ nI d = 0) (hd : d < 2 ^ 31) : nI d - 1 = nI (d - 1) ∧ 0 < d := by
  have h0 : d ≠ 0 := fun e => h (by rw [e]; exact nI_0)
  obtain ⟨k, rfl⟩ : ∃ k, d = k + 1 := ⟨d - 1, by omega⟩
  exact ⟨nI_pred k, by omega⟩
theorem s_X4_isLaidAt {j b d : Nat} {y : Lk} (hA : LA h a ls) (hj : ls[j]? = some y) (hb : b < 64) (hd : d < 7) (hQ : ∀ r, r = bI (ldB b d y = true) → Q (some (.int r)) h) : MJ m_X4_isLaidAt 2 0 0 [.ref a, .int (nI j), .int (nI b), .int (nI d)] h Q := by
  have hsl := sl_64 d hd
  refine MJ_of_J (L := [some (.ref a), some (.int (nI j)), some (.int (nI b)), some (.int (nI d))]) (by decide +kernel) rfl (Nat.le_of_ble_eq_true rfl) rfl ?_
  refine J_aload_n dX4_isLaidAt_0 rfl ?_
  refine J_iload_n dX4_isLaidAt_1 rfl ?_
  refine J_iload_n dX4_isLaidAt_2 rfl ?_
  refine J_iload_n dX4_isLaidAt_3 rfl ?_
  refine J_callSN (As := [_]) (rest := [_, _, _]) (M' := m_X6_spanLength) dX4_isLaidAt_4 ml_RX4_36 gm_X6_spanLength sm_yX6_spanLength rfl rfl (Nat.le_of_ble_eq_true rfl) (by decide) ⟨rfl, rfl, by decide, by decide⟩ (s_X6_spanLength hd (fun r1 hr1 => ?_))
  subst hr1
  refine J_callV (As := [_, _, _]) (rest := []) (M' := m_X4_coversAll) dX4_isLaidAt_7 ml_RX4_40 gm_X4_coversAll gv_X4_coversAll hA.o hA.b rfl rfl rfl (Nat.le_of_ble_eq_true rfl) (by decide) ⟨rfl, rfl, by decide, by decide⟩ (s_X4_coversAll hA hj (by omega) (by omega) (fun r hr => ?_))
  refine J_if_ne (tgt := 15) dX4_isLaidAt_10 (by decide) (fun c10 => ?_) (fun c10 => ?_)
  · refine J_iload_n dX4_isLaidAt_15 rfl ?_
    have c10 : cvB b (sl d) y = true := Classical.not_not.mp (fun q => c10 ((bI_0 hr).mpr q))
    refine J_if_eq (tgt := 40) dX4_isLaidAt_16 (by decide) (fun c16 => ?_) (fun c16 => ?_)
    · refine J_iconst (x := 1) dX4_isLaidAt_40 (by decide) ?_
      refine J_goto (tgt := 45) dX4_isLaidAt_41 (by decide) ?_
      exact J_zret dX4_isLaidAt_45 rfl (by first | exact Or.inl rfl | exact Or.inr rfl) ⟨rfl, Nat.le_refl _⟩ (hQ _ (bI_t (by unfold ldB; rw [c10]; have : d = 0 := Classical.not_not.mp (fun q => (nI_ne0 (Nat.pos_of_ne_zero q) (by omega)) c16); simp [this])).symm)
    · obtain ⟨e1, hd0⟩ := nI_p1 d c16 (by omega)
      have hsl1 := sl_64 (d - 1) (by omega)
      have hsb := sb_le b (d - 1)
      refine J_aload_n dX4_isLaidAt_19 rfl ?_
      refine J_iload_n dX4_isLaidAt_20 rfl ?_
      refine J_iload_n dX4_isLaidAt_21 rfl ?_
      refine J_iload_n dX4_isLaidAt_22 rfl ?_
      refine J_iconst (x := 1) dX4_isLaidAt_23 (by decide) ?_
      refine J_isub dX4_isLaidAt_24 ?_
      rw [e1]
      refine J_callSN (As := [_, _]) (rest := [_, _]) (M' := m_X6_spanBegin) dX4_isLaidAt_25 ml_RX4_44 gm_X6_spanBegin sm_yX6_spanBegin rfl rfl (Nat.le_of_ble_eq_true rfl) (by decide) ⟨rfl, rfl, by decide, by decide⟩ (s_X6_spanBegin hb (show d - 1 < 7 by omega) (fun r2 hr2 => ?_))
      subst hr2
      refine J_iload_n dX4_isLaidAt_28 rfl ?_
      refine J_iconst (x := 1) dX4_isLaidAt_29 (by decide) ?_
      refine J_isub dX4_isLaidAt_30 ?_
      rw [e1]
      refine J_callSN (As := [_]) (rest := [_, _, _]) (M' := m_X6_spanLength) dX4_isLaidAt_31 ml_RX4_36 gm_X6_spanLength sm_yX6_spanLength rfl rfl (Nat.le_of_ble_eq_true rfl) (by decide) ⟨rfl, rfl, by decide, by decide⟩ (s_X6_spanLength (show d - 1 < 7 by omega) (fun r3 hr3 => ?_))
      subst hr3
      refine J_callV (As := [_, _, _]) (rest := []) (M' := m_X4_coversAll) dX4_isLaidAt_34 ml_RX4_40 gm_X4_coversAll gv_X4_coversAll hA.o hA.b rfl rfl rfl (Nat.le_of_ble_eq_true rfl) (by decide) ⟨rfl, rfl, by decide, by decide⟩ (s_X4_coversAll hA hj (by omega) (by omega) (fun r4 hr4 => ?_))
      refine J_if_ne (tgt := 44) dX4_isLaidAt_37 (by decide) (fun c37 => ?_) (fun c37 => ?_)
      · refine J_iconst (x := 0) dX4_isLaidAt_44 (by decide) ?_
        exact J_zret dX4_isLaidAt_45 rfl (by first | exact Or.inl rfl | exact Or.inr rfl) ⟨rfl, Nat.le_refl _⟩ (hQ _ (bI_f (by unfold ldB; rw [Classical.not_not.mp (fun q => c37 ((bI_0 hr4).mpr q))]; simp; omega)).symm)
      · refine J_iconst (x := 1) dX4_isLaidAt_40 (by decide) ?_
        refine J_goto (tgt := 45) dX4_isLaidAt_41 (by decide) ?_
        exact J_zret dX4_isLaidAt_45 rfl (by first | exact Or.inl rfl | exact Or.inr rfl) ⟨rfl, Nat.le_refl _⟩ (hQ _ (bI_t (by unfold ldB; have := (bI_0 hr4).mp c37; simp only [Bool.not_eq_true] at this; rw [c10, this]; simp)).symm)
  · refine J_iconst (x := 0) dX4_isLaidAt_13 (by decide) ?_
    exact J_zret dX4_isLaidAt_14 rfl (by first | exact Or.inl rfl | exact Or.inr rfl) ⟨rfl, Nat.le_refl _⟩ (hQ _ (bI_f (by unfold ldB; have := (bI_0 hr).mp c10; simp only [Bool.not_eq_true] at this; rw [this]; simp)).symm)
end SLinks
