/-! the reference: its links are one row of numbers -/
def AL (f : Nat → Int32) (ls : List Lk) : Prop := f 0 = nI ls.length ∧ ∀ (k : Nat) (y : Lk), ls[k]? = some y → f (1 + k) = nI y.1 ∧ f (41 + k) = nI y.2.1 ∧ f (81 + k) = nI y.2.2.1 ∧ f (121 + k) = nI y.2.2.2
def VQ (h : g_H) (a : Nat) (ls : List Lk) : Prop := ∃ (fs : List Value) (f : Nat → Int32), (1 ≤ a ∧ a + 1 ≤ h.2) ∧ h.1 a = .inr (7, .ref (a + 1) :: fs) ∧ h.1 (a + 1) = .inl (0, 161, .inl f) ∧ AL f ls ∧ ls.length ≤ 40 ∧ ∀ x ∈ ls, okK x
theorem i2l_toInt (x : Int32) : x.toInt64.toInt = x.toInt := Int32.toInt_toInt64 x
section SMod
variable {h h' : g_H} {a : Nat} {ls : List Lk} {Q : Option Value → g_H → Prop}
theorem VQ.bo (p : VQ h a ls) : 1 ≤ a ∧ a ≤ h.2 := by
  obtain ⟨fs, f, ⟨b1, b2⟩, -⟩ := p
  exact ⟨b1, by omega⟩
theorem VQ.len (p : VQ h a ls) : ls.length ≤ 40 := by
  obtain ⟨fs, f, -, -, -, -, q, -⟩ := p
  exact q
theorem VQ.ok (p : VQ h a ls) : ∀ x ∈ ls, okK x := by
  obtain ⟨fs, f, -, -, -, -, -, q⟩ := p
  exact q
theorem VQ.o (p : VQ h a ls) : ∃ fs, h.1 a = .inr (7, .ref (a + 1) :: fs) := by
  obtain ⟨fs, f, -, q, -⟩ := p
  exact ⟨fs, q⟩
theorem s_X7_in {x y z : Int64} (hQ : ∀ r, r = bI (y ≤ x ∧ x ≤ z) → Q (some (.int r)) h) : MJ m_X7_in 0 0 0 [.long x, .long y, .long z] h Q := by
  refine MJ_of_J (L := [some (.long x), none, some (.long y), none, some (.long z), none]) (by decide +kernel) rfl (Nat.le_of_ble_eq_true rfl) rfl ?_
  refine J_lload_n dX7_in_0 rfl ?_
  refine J_lload_n dX7_in_1 rfl ?_
  refine J_lcmp dX7_in_2 ?_
  refine J_if_lt (tgt := 17) dX7_in_3 (by decide) (fun c3 => ?_) (fun c3 => ?_)
  · refine J_iconst (x := 0) dX7_in_17 (by decide) ?_
    exact J_zret dX7_in_18 rfl (by first | exact Or.inl rfl | exact Or.inr rfl) ⟨rfl, Nat.le_refl _⟩ (hQ _ (bI_f (fun q => by rw [lg_cmp_lt, Int64.lt_iff_toInt_lt] at c3; have := Int64.le_iff_toInt_le.mp q.1; omega)).symm)
  · refine J_lload_n dX7_in_6 rfl ?_
    refine J_lload dX7_in_7 rfl ?_
    refine J_lcmp dX7_in_9 ?_
    refine J_if_gt (tgt := 17) dX7_in_10 (by decide) (fun c10 => ?_) (fun c10 => ?_)
    · refine J_iconst (x := 0) dX7_in_17 (by decide) ?_
      exact J_zret dX7_in_18 rfl (by first | exact Or.inl rfl | exact Or.inr rfl) ⟨rfl, Nat.le_refl _⟩ (hQ _ (bI_f (fun q => by rw [lg_cmp_gt, Int64.lt_iff_toInt_lt] at c10; have := Int64.le_iff_toInt_le.mp q.2; omega)).symm)
    · refine J_iconst (x := 1) dX7_in_13 (by decide) ?_
      refine J_goto (tgt := 18) dX7_in_14 (by decide) ?_
      exact J_zret dX7_in_18 rfl (by first | exact Or.inl rfl | exact Or.inr rfl) ⟨rfl, Nat.le_refl _⟩ (hQ _ (bI_t (by rw [lg_cmp_lt, Int64.lt_iff_toInt_lt] at c3; rw [lg_cmp_gt, Int64.lt_iff_toInt_lt] at c10; rw [Int64.le_iff_toInt_le, Int64.le_iff_toInt_le]; omega)).symm)
theorem IX_iff {x : Int32} {n : Nat} (hn : n < 2 ^ 31) : IX x n ↔ 0 ≤ x.toInt ∧ x.toInt < n := by
  constructor
  · rintro ⟨j, hj, rfl⟩
    rw [nI_toInt (by omega)]; omega
  · rintro ⟨h1, h2⟩
    have h0 : ¬ x < 0 := by rw [Int32.lt_iff_toInt_lt]; show ¬ x.toInt < 0; omega
    obtain ⟨j, hj, rfl⟩ := nI_of h0
    rw [nI_toInt hj] at h2
    exact ⟨j, by omega, rfl⟩
theorem inI {x : Int32} {n : Nat} {z : Int64} (hn : n < 2 ^ 31) (hz : z.toInt = (n : Int) - 1) : ((0 : Int64) ≤ x.toInt64 ∧ x.toInt64 ≤ z) ↔ IX x n := by
  rw [IX_iff hn, Int64.le_iff_toInt_le, Int64.le_iff_toInt_le, i2l_toInt, hz]
  show (0 ≤ x.toInt ∧ _) ↔ _
  omega
theorem s_X7_isPoint {x : Int32} (hQ : ∀ r, r = bI (IX x 16) → Q (some (.int r)) h) : MJ m_X7_isPoint 1 0 0 [.int x] h Q := by
  refine MJ_of_J (L := [some (.int x)]) (by decide +kernel) rfl (Nat.le_of_ble_eq_true rfl) rfl ?_
  refine J_iload_n dX7_isPoint_0 rfl ?_
  refine J_i2l dX7_isPoint_1 ?_
  refine J_lconst (x := 0) dX7_isPoint_2 (by decide) ?_
  refine J_ldc2 dX7_isPoint_3 kl_RX7_32 ?_
  refine J_callS (As := [_, _, _]) (rest := []) (M' := m_X7_in) dX7_isPoint_6 ml_RX7_34 gm_X7_in sm_yX7_in rfl rfl (Nat.le_of_ble_eq_true rfl) (by decide) ⟨rfl, rfl, by decide, by decide⟩ (s_X7_in (fun r hr => ?_))
  exact J_zret dX7_isPoint_9 rfl (by rw [hr]; exact bI_01 _) ⟨rfl, Nat.le_refl _⟩ (hQ _ (by rw [hr]; exact bI_c (inI (n := 16) (by decide) (by decide))))
theorem s_X7_isMoment {x : Int32} (hQ : ∀ r, r = bI (IX x 64) → Q (some (.int r)) h) : MJ m_X7_isMoment 1 0 0 [.int x] h Q := by
  refine MJ_of_J (L := [some (.int x)]) (by decide +kernel) rfl (Nat.le_of_ble_eq_true rfl) rfl ?_
  refine J_iload_n dX7_isMoment_0 rfl ?_
  refine J_i2l dX7_isMoment_1 ?_
  refine J_lconst (x := 0) dX7_isMoment_2 (by decide) ?_
  refine J_ldc2 dX7_isMoment_3 kl_RX7_38 ?_
  refine J_callS (As := [_, _, _]) (rest := []) (M' := m_X7_in) dX7_isMoment_6 ml_RX7_34 gm_X7_in sm_yX7_in rfl rfl (Nat.le_of_ble_eq_true rfl) (by decide) ⟨rfl, rfl, by decide, by decide⟩ (s_X7_in (fun r hr => ?_))
  exact J_zret dX7_isMoment_9 rfl (by rw [hr]; exact bI_01 _) ⟨rfl, Nat.le_refl _⟩ (hQ _ (by rw [hr]; exact bI_c (inI (n := 64) (by decide) (by decide))))
theorem LF_iff {x y : Int32} : LF x y ↔ IX x 64 ∧ ((1 : Int64) ≤ y.toInt64 ∧ y.toInt64 ≤ 64) ∧ ¬ y ≤ x := by
  constructor
  · rintro ⟨b, e, h1, h2, rfl, rfl⟩
    refine ⟨⟨b, by omega, rfl⟩, ⟨?_, ?_⟩, ?_⟩
    · rw [Int64.le_iff_toInt_le, i2l_toInt, nI_toInt (by omega)]; show (1 : Int) ≤ e; omega
    · rw [Int64.le_iff_toInt_le, i2l_toInt, nI_toInt (by omega)]; show (e : Int) ≤ 64; omega
    · rw [nI_leI (by omega) (by omega)]; omega
  · rintro ⟨h1, ⟨h2, h3⟩, h4⟩
    refine LF_of h1 h4 ?_
    rw [Int64.le_iff_toInt_le, i2l_toInt] at h3
    rw [Int32.lt_iff_toInt_lt]
    have h3 : y.toInt ≤ 64 := h3
    show ¬ (64 : Int) < y.toInt
    omega
theorem s_X7_isLife {x y : Int32} (hQ : ∀ r, r = bI (LF x y) → Q (some (.int r)) h) : MJ m_X7_isLife 2 0 0 [.int x, .int y] h Q := by
  refine MJ_of_J (L := [some (.int x), some (.int y)]) (by decide +kernel) rfl (Nat.le_of_ble_eq_true rfl) rfl ?_
  refine J_iload_n dX7_isLife_0 rfl ?_
  refine J_callS (As := [_]) (rest := []) (M' := m_X7_isMoment) dX7_isLife_1 ml_RX7_40 gm_X7_isMoment sm_yX7_isMoment rfl rfl (Nat.le_of_ble_eq_true rfl) (by decide) ⟨rfl, rfl, by decide, by decide⟩ (s_X7_isMoment (fun r hr => ?_))
  refine J_if_eq (tgt := 28) dX7_isLife_4 (by decide) (fun c4 => ?_) (fun c4 => ?_)
  · refine J_iconst (x := 0) dX7_isLife_28 (by decide) ?_
    exact J_zret dX7_isLife_29 rfl (by first | exact Or.inl rfl | exact Or.inr rfl) ⟨rfl, Nat.le_refl _⟩ (hQ _ (bI_f (fun q => (bI_0 hr).mp c4 (LF_iff.mp q).1)).symm)
  · refine J_iload_n dX7_isLife_7 rfl ?_
    refine J_i2l dX7_isLife_8 ?_
    refine J_lconst (x := 1) dX7_isLife_9 (by decide) ?_
    refine J_ldc2 dX7_isLife_10 kl_RX7_44 ?_
    refine J_callS (As := [_, _, _]) (rest := []) (M' := m_X7_in) dX7_isLife_13 ml_RX7_34 gm_X7_in sm_yX7_in rfl rfl (Nat.le_of_ble_eq_true rfl) (by decide) ⟨rfl, rfl, by decide, by decide⟩ (s_X7_in (fun r2 hr2 => ?_))
    refine J_if_eq (tgt := 28) dX7_isLife_16 (by decide) (fun c16 => ?_) (fun c16 => ?_)
    · refine J_iconst (x := 0) dX7_isLife_28 (by decide) ?_
      exact J_zret dX7_isLife_29 rfl (by first | exact Or.inl rfl | exact Or.inr rfl) ⟨rfl, Nat.le_refl _⟩ (hQ _ (bI_f (fun q => (bI_0 hr2).mp c16 (LF_iff.mp q).2.1)).symm)
    · refine J_iload_n dX7_isLife_19 rfl ?_
      refine J_iload_n dX7_isLife_20 rfl ?_
      refine J_icmp_le (tgt := 28) dX7_isLife_21 (by decide) (fun c21 => ?_) (fun c21 => ?_)
      · refine J_iconst (x := 0) dX7_isLife_28 (by decide) ?_
        exact J_zret dX7_isLife_29 rfl (by first | exact Or.inl rfl | exact Or.inr rfl) ⟨rfl, Nat.le_refl _⟩ (hQ _ (bI_f (fun q => (LF_iff.mp q).2.2 c21)).symm)
      · refine J_iconst (x := 1) dX7_isLife_24 (by decide) ?_
        refine J_goto (tgt := 29) dX7_isLife_25 (by decide) ?_
        exact J_zret dX7_isLife_29 rfl (by first | exact Or.inl rfl | exact Or.inr rfl) ⟨rfl, Nat.le_refl _⟩ (hQ _ (bI_t (LF_iff.mpr ⟨nn_of hr c4, nn_of hr2 c16, c21⟩)).symm)
theorem lN_p {n : Nat} (hn : n ≤ 40) : (lN n - 1).toInt = (n : Int) - 1 := by
  have key : ∀ n, n < 41 → (lN n - 1).toInt = (n : Int) - 1 := by decide +kernel
  exact key n (by omega)
theorem s_X7_isLink {x : Int32} (hV : VQ h a ls) (hQ : ∀ r, r = bI (IX x ls.length) → Q (some (.int r)) h) : MJ m_X7_isLink 1 0 0 [.ref a, .int x] h Q := by
  obtain ⟨fs, f, ⟨bd1, bd2⟩, hO, hA, hAL, hn, hok⟩ := hV
  have hB : 1 ≤ a ∧ a ≤ h.2 := ⟨bd1, by omega⟩
  have hB1 : 1 ≤ a + 1 ∧ a + 1 ≤ h.2 := ⟨by omega, bd2⟩
  refine MJ_of_J (L := [some (.ref a), some (.int x)]) (by decide +kernel) rfl (Nat.le_of_ble_eq_true rfl) rfl ?_
  refine J_iload_n dX7_isLink_0 rfl ?_
  refine J_i2l dX7_isLink_1 ?_
  refine J_lconst (x := 0) dX7_isLink_2 (by decide) ?_
  refine J_aload_n dX7_isLink_3 rfl ?_
  refine J_get (k := 0) dX7_isLink_4 gc_7 fl_RX7_7 (by decide) hO hB rfl ?_
  refine J_iconst (x := 0) dX7_isLink_7 (by decide) ?_
  refine J_iald dX7_isLink_8 hA hB1 (vp_in_nI (n := 0) (by decide) (by decide)) ?_
  rw [show (0 : Int32).toNatClampNeg = 0 from rfl, hAL.1]
  refine J_i2l dX7_isLink_9 ?_
  refine J_lconst (x := 1) dX7_isLink_10 (by decide) ?_
  refine J_lsub dX7_isLink_11 ?_
  refine J_callS (As := [_, _, _]) (rest := []) (M' := m_X7_in) dX7_isLink_12 ml_RX7_34 gm_X7_in sm_yX7_in rfl rfl (Nat.le_of_ble_eq_true rfl) (by decide) ⟨rfl, rfl, by decide, by decide⟩ (s_X7_in (fun r hr => ?_))
  exact J_zret dX7_isLink_15 rfl (by rw [hr]; exact bI_01 _) ⟨rfl, Nat.le_refl _⟩ (hQ _ (by rw [hr]; exact bI_c (inI (by omega) (by rw [nI_l (by omega)]; exact lN_p hn))))

theorem s_X7_lives {j : Nat} {y : Lk} {u v : Int32} (hV : VQ h a ls) (hj : ls[j]? = some y) (hQ : ∀ r, r = bI ((y.2.2.1 : Int) ≤ u.toInt ∧ v.toInt ≤ (y.2.2.2 : Int)) → Q (some (.int r)) h) : MJ m_X7_lives 0 0 0 [.ref a, .int (nI j), .int u, .int v] h Q := by
  obtain ⟨fs, f, ⟨bd1, bd2⟩, hO, hA, hAL, hn, hok⟩ := hV
  have hB : 1 ≤ a ∧ a ≤ h.2 := ⟨bd1, by omega⟩
  have hB1 : 1 ≤ a + 1 ∧ a + 1 ≤ h.2 := ⟨by omega, bd2⟩
  have hjl := get_lt hj
  obtain ⟨v1, v2, v3, v4⟩ := hAL.2 j y hj
  obtain ⟨o1, o2, o3, o4, o5⟩ := hok y (List.mem_of_getElem? hj)
  refine MJ_of_J (L := [some (.ref a), some (.int (nI j)), some (.int u), some (.int v)]) (by decide +kernel) rfl (Nat.le_of_ble_eq_true rfl) rfl ?_
  refine J_aload_n dX7_lives_0 rfl ?_
  refine J_get (k := 0) dX7_lives_1 gc_7 fl_RX7_7 (by decide) hO hB rfl ?_
  refine J_bipush (x := 81) dX7_lives_4 (by decide) ?_
  refine J_iload_n dX7_lives_6 rfl ?_
  refine J_iadd dX7_lives_7 ?_
  rw [show (81 : Int32) + nI j = nI (81 + j) from nI_add 81 j]
  refine J_iald dX7_lives_8 hA hB1 (vp_in_nI (by omega) (by decide)) ?_
  rw [nI_clamp (n := 81 + j) (by omega), v3]
  refine J_iload_n dX7_lives_9 rfl ?_
  refine J_icmp_gt (tgt := 30) dX7_lives_10 (by decide) (fun c10 => ?_) (fun c10 => ?_)
  · refine J_iconst (x := 0) dX7_lives_30 (by decide) ?_
    exact J_zret dX7_lives_31 rfl (by first | exact Or.inl rfl | exact Or.inr rfl) ⟨rfl, Nat.le_refl _⟩ (hQ _ (bI_f (fun q => by rw [nI_ltT' (by omega)] at c10; omega)).symm)
  · refine J_aload_n dX7_lives_13 rfl ?_
    refine J_get (k := 0) dX7_lives_14 gc_7 fl_RX7_7 (by decide) hO hB rfl ?_
    refine J_bipush (x := 121) dX7_lives_17 (by decide) ?_
    refine J_iload_n dX7_lives_19 rfl ?_
    refine J_iadd dX7_lives_20 ?_
    rw [show (121 : Int32) + nI j = nI (121 + j) from nI_add 121 j]
    refine J_iald dX7_lives_21 hA hB1 (vp_in_nI (by omega) (by decide)) ?_
    rw [nI_clamp (n := 121 + j) (by omega), v4]
    refine J_iload_n dX7_lives_22 rfl ?_
    refine J_icmp_lt (tgt := 30) dX7_lives_23 (by decide) (fun c23 => ?_) (fun c23 => ?_)
    · refine J_iconst (x := 0) dX7_lives_30 (by decide) ?_
      exact J_zret dX7_lives_31 rfl (by first | exact Or.inl rfl | exact Or.inr rfl) ⟨rfl, Nat.le_refl _⟩ (hQ _ (bI_f (fun q => by rw [nI_ltT (by omega)] at c23; omega)).symm)
    · refine J_iconst (x := 1) dX7_lives_26 (by decide) ?_
      refine J_goto (tgt := 31) dX7_lives_27 (by decide) ?_
      exact J_zret dX7_lives_31 rfl (by first | exact Or.inl rfl | exact Or.inr rfl) ⟨rfl, Nat.le_refl _⟩ (hQ _ (bI_t (by rw [nI_ltT' (by omega)] at c10; rw [nI_ltT (by omega)] at c23; omega)).symm)
theorem m_p1 {m : Nat} (hm : m < 1000) : (nI m + 1).toInt = (m : Int) + 1 := by rw [nI_1, nI_toInt (by omega)]; omega
theorem s_X7_livesAt {j : Nat} {y : Lk} {m : Int32} (hV : VQ h a ls) (hj : ls[j]? = some y) (hm : (m + 1).toInt = m.toInt + 1) (hQ : ∀ r, r = bI (lvB m.toInt y = true) → Q (some (.int r)) h) : MJ m_X7_livesAt 1 0 0 [.ref a, .int (nI j), .int m] h Q := by
  have hV0 := hV
  obtain ⟨fs0, hO⟩ := hV.o
  have hB := hV.bo
  refine MJ_of_J (L := [some (.ref a), some (.int (nI j)), some (.int m)]) (by decide +kernel) rfl (Nat.le_of_ble_eq_true rfl) rfl ?_
  refine J_aload_n dX7_livesAt_0 rfl ?_
  refine J_iload_n dX7_livesAt_1 rfl ?_
  refine J_iload_n dX7_livesAt_2 rfl ?_
  refine J_iload_n dX7_livesAt_3 rfl ?_
  refine J_iconst (x := 1) dX7_livesAt_4 (by decide) ?_
  refine J_iadd dX7_livesAt_5 ?_
  refine J_callV (As := [_, _, _]) (rest := []) (M' := m_X7_lives) dX7_livesAt_6 ml_RX7_46 gm_X7_lives gv_X7_lives hO hB rfl rfl rfl (Nat.le_of_ble_eq_true rfl) (by decide) ⟨rfl, rfl, by decide, by decide⟩ (s_X7_lives hV hj (fun r hr => ?_))
  exact J_zret dX7_livesAt_9 rfl (by rw [hr]; exact bI_01 _) ⟨rfl, Nat.le_refl _⟩ (hQ _ (by rw [hr]; refine bI_c ?_; rw [lvB_iff, hm]; omega))
theorem l_X7_bits {x : Int64} (hQ : ∀ r, r = nI (pc6 x) → Q (some (.int r)) h) : ∀ (t : Nat) (z : Int64) (c : Nat), pc6 z = t → c + pc6 z = pc6 x → J m_X7_bits 0 0 0 0 0 4 [some (.long x), none, some (.int (nI c)), some (.long z), none] [] h Q := by
  intro t
  induction t with
  | zero =>
    intro z c ht hc
    refine J_lload_n dX7_bits_4 rfl ?_
    refine J_lconst (x := 0) dX7_bits_5 (by decide) ?_
    refine J_lcmp dX7_bits_6 ?_
    refine J_if_eq (tgt := 22) dX7_bits_7 (by decide) (fun c7 => ?_) (fun c7 => absurd (show z = 0 from Classical.not_not.mp (fun q => by have := pc6_s q; omega)) (fun q => c7 (lgc_eq.mpr q)))
    refine J_iload_n dX7_bits_22 rfl ?_
    exact J_iret dX7_bits_23 rfl ⟨rfl, Nat.le_refl _⟩ (hQ _ (by rw [← hc, ht]; rfl))
  | succ t ih =>
    intro z c ht hc
    have hz : z ≠ 0 := fun e => by rw [e, pc6_0] at ht; omega
    have hs := pc6_s hz
    refine J_lload_n dX7_bits_4 rfl ?_
    refine J_lconst (x := 0) dX7_bits_5 (by decide) ?_
    refine J_lcmp dX7_bits_6 ?_
    refine J_if_eq (tgt := 22) dX7_bits_7 (by decide) (fun c7 => absurd (lgc_eq.mp c7) hz) (fun c7 => ?_)
    refine J_iinc (L' := [_, _, _, _, _]) dX7_bits_10 rfl (nI_i1 c) (by decide) rfl ?_
    refine J_lload_n dX7_bits_13 rfl ?_
    refine J_lload_n dX7_bits_14 rfl ?_
    refine J_lconst (x := 1) dX7_bits_15 (by decide) ?_
    refine J_lsub dX7_bits_16 ?_
    refine J_land dX7_bits_17 ?_
    refine J_lstore_n (L' := [_, _, _, _, _]) dX7_bits_18 (by decide) rfl ?_
    refine J_goto (tgt := 4) dX7_bits_19 (by decide) ?_
    exact ih _ (c + 1) (by omega) (by omega)
theorem s_X7_bits {x : Int64} (hQ : ∀ r, r = nI (pc6 x) → Q (some (.int r)) h) : MJ m_X7_bits 0 0 0 [.long x] h Q := by
  refine MJ_of_J (L := [some (.long x), none, none, none, none]) (by decide +kernel) rfl (Nat.le_of_ble_eq_true rfl) rfl ?_
  refine J_iconst (x := 0) dX7_bits_0 (by decide) ?_
  refine J_istore_n (L' := [_, _, _, _, _]) dX7_bits_1 (by decide) rfl ?_
  refine J_lload_n dX7_bits_2 rfl ?_
  refine J_lstore_n (L' := [_, _, _, _, _]) dX7_bits_3 (by decide) rfl ?_
  exact l_X7_bits hQ (pc6 x) x 0 rfl (by omega)
/-- a set of links -/
def LSt (x : Int64) (ls : List Lk) (p : Lk → Bool) (n : Nat) : Prop := ∀ i, b6 x i = true ↔ ∃ y, i < n ∧ ls[i]? = some y ∧ p y = true
theorem LSt.or {x : Int64} {p : Lk → Bool} {k : Nat} {y : Lk} (hs : LSt x ls p k) (hk : k < 63) (hy : ls[k]? = some y) (hp : p y = true) : LSt (x ||| (1 : Int64) <<< ((nI k).toInt64 &&& 63)) ls p (k + 1) := by
  intro i
  rw [b6_or, b6_one hk, Bool.or_eq_true, hs i]
  constructor
  · rintro (⟨z, h1, h2⟩ | q)
    · exact ⟨z, by omega, h2⟩
    · have : i = k := by simpa using q
      subst this
      exact ⟨y, by omega, hy, hp⟩
  · rintro ⟨z, h1, h2, h3⟩
    by_cases e : i = k
    · right; simp [e]
    · exact Or.inl ⟨z, by omega, h2, h3⟩
theorem LSt.no {x : Int64} {p : Lk → Bool} {k : Nat} {y : Lk} (hs : LSt x ls p k) (hy : ls[k]? = some y) (hp : ¬ p y = true) : LSt (x ||| 0) ls p (k + 1) := by
  intro i
  rw [b6_or, b6_0, Bool.or_false, hs i]
  constructor
  · rintro ⟨z, h1, h2⟩; exact ⟨z, by omega, h2⟩
  · rintro ⟨z, h1, h2, h3⟩
    by_cases e : i = k
    · subst e
      rw [hy] at h2; cases h2
      exact absurd h3 hp
    · exact ⟨z, by omega, h2, h3⟩
theorem LSt.nil (p : Lk → Bool) : LSt 0 ls p 0 := fun i => by
  rw [b6_0]
  constructor
  · intro q; cases q
  · rintro ⟨z, h1, -⟩; omega
theorem LSt.cnt {x : Int64} {p : Lk → Bool} (hs : LSt x ls p ls.length) (hn : ls.length ≤ 40) : pc6 x = ls.countP p := by
  have key : ∀ n, n ≤ ls.length → sumN (fun i => if b6 x i = true then 1 else 0) n = (ls.take n).countP p := by
    intro n
    induction n with
    | zero => intro _; simp [sumN]
    | succ n ih =>
      intro hle
      obtain ⟨y, hy⟩ := get_of (show n < ls.length by omega)
      rw [take_succ_cnt p hy, ← ih (by omega)]
      show _ + (if b6 x n = true then 1 else 0) = _
      have : b6 x n = true ↔ p y = true := by
        rw [hs n]
        exact ⟨fun ⟨z, h1, h2, h3⟩ => by rw [hy] at h2; cases h2; exact h3, fun q => ⟨y, by omega, hy, q⟩⟩
      by_cases q : p y = true
      · rw [if_pos q, if_pos (this.mpr q)]
      · rw [if_neg q, if_neg (fun z => q (this.mp z))]
  have h1 := key ls.length (Nat.le_refl _)
  rw [List.take_length] at h1
  rw [← h1]
  unfold pc6
  have e : (64 : Nat) = ls.length + (64 - ls.length) := by omega
  rw [e]
  exact sumN_up _ (fun k hk => if_neg (fun q => by obtain ⟨z, h1, -⟩ := (hs k).mp q; omega))
theorem l_X7_livingAt {m : Nat} (hV : VQ h a ls) (hm : m < 64) (hQ : ∀ x, LSt x ls (lvB (m : Int)) ls.length → Q (some (.long x)) h) : ∀ (t k : Nat) (x : Int64), ls.length - k < t → k ≤ ls.length → LSt x ls (lvB (m : Int)) k → J m_X7_livingAt 2 0 0 0 0 5 [some (.ref a), some (.int (nI m)), some (.long x), none, some (.int (nI k))] [] h Q := by
  intro t
  induction t with
  | zero => intro k x ht; omega
  | succ t ih =>
    intro k x ht hk hx
    have hV0 := hV
    obtain ⟨fs, f, ⟨bd1, bd2⟩, hO, hA, hAL, hn, hok⟩ := hV
    have hB : 1 ≤ a ∧ a ≤ h.2 := ⟨bd1, by omega⟩
    have hB1 : 1 ≤ a + 1 ∧ a + 1 ≤ h.2 := ⟨by omega, bd2⟩
    refine J_iload dX7_livingAt_5 rfl ?_
    refine J_aload_n dX7_livingAt_7 rfl ?_
    refine J_get (k := 0) dX7_livingAt_8 gc_7 fl_RX7_7 (by decide) hO hB rfl ?_
    refine J_iconst (x := 0) dX7_livingAt_11 (by decide) ?_
    refine J_iald dX7_livingAt_12 hA hB1 (vp_in_nI (n := 0) (by decide) (by decide)) ?_
    rw [show (0 : Int32).toNatClampNeg = 0 from rfl, hAL.1]
    refine J_icmp_ge (tgt := 43) dX7_livingAt_13 (by decide) (fun c13 => ?_) (fun c13 => ?_)
    · refine J_lload_n dX7_livingAt_43 rfl ?_
      exact J_lret dX7_livingAt_44 rfl ⟨rfl, Nat.le_refl _⟩ (hQ _ (by have c13 := (nI_leI (by omega) (by omega)).mp c13; rwa [show k = ls.length by omega] at hx))
    · have c13 : k < ls.length := Nat.not_le.mp (fun q => c13 ((nI_leI (by omega) (by omega)).mpr q))
      obtain ⟨y, hy⟩ := get_of c13
      refine J_lload_n dX7_livingAt_16 rfl ?_
      refine J_aload_n dX7_livingAt_17 rfl ?_
      refine J_iload dX7_livingAt_18 rfl ?_
      refine J_iload_n dX7_livingAt_20 rfl ?_
      refine J_callV (As := [_, _]) (rest := [_]) (M' := m_X7_livesAt) dX7_livingAt_21 ml_RX7_50 gm_X7_livesAt gv_X7_livesAt hO hB rfl rfl rfl (Nat.le_of_ble_eq_true rfl) (by decide) ⟨rfl, rfl, by decide, by decide⟩ (s_X7_livesAt hV0 hy (by rw [m_p1 (by omega), nI_toInt (by omega)]) (fun r hr => ?_))
      rw [nI_toInt (show m < 2 ^ 31 by omega)] at hr
      refine J_if_eq (tgt := 34) dX7_livingAt_24 (by decide) (fun c24 => ?_) (fun c24 => ?_)
      · refine J_lconst (x := 0) dX7_livingAt_34 (by decide) ?_
        refine J_lor dX7_livingAt_35 ?_
        refine J_lstore_n (L' := [_, _, _, _, _]) dX7_livingAt_36 (by decide) rfl ?_
        refine J_iinc (L' := [_, _, _, _, _]) dX7_livingAt_37 rfl (nI_i1 k) (by decide) rfl ?_
        refine J_goto (tgt := 5) dX7_livingAt_40 (by decide) ?_
        exact ih (k + 1) _ (by omega) (by omega) (hx.no hy ((bI_0 hr).mp c24))
      · refine J_lconst (x := 1) dX7_livingAt_27 (by decide) ?_
        refine J_iload dX7_livingAt_28 rfl ?_
        refine J_lshl dX7_livingAt_30 ?_
        refine J_goto (tgt := 35) dX7_livingAt_31 (by decide) ?_
        refine J_lor dX7_livingAt_35 ?_
        refine J_lstore_n (L' := [_, _, _, _, _]) dX7_livingAt_36 (by decide) rfl ?_
        refine J_iinc (L' := [_, _, _, _, _]) dX7_livingAt_37 rfl (nI_i1 k) (by decide) rfl ?_
        refine J_goto (tgt := 5) dX7_livingAt_40 (by decide) ?_
        exact ih (k + 1) _ (by omega) (by omega) (hx.or (by omega) hy (nn_of hr c24))
theorem s_X7_livingAt {m : Nat} (hV : VQ h a ls) (hm : m < 64) (hQ : ∀ x, LSt x ls (lvB (m : Int)) ls.length → Q (some (.long x)) h) : MJ m_X7_livingAt 2 0 0 [.ref a, .int (nI m)] h Q := by
  refine MJ_of_J (L := [some (.ref a), some (.int (nI m)), none, none, none]) (by decide +kernel) rfl (Nat.le_of_ble_eq_true rfl) rfl ?_
  refine J_lconst (x := 0) dX7_livingAt_0 (by decide) ?_
  refine J_lstore_n (L' := [_, _, _, _, _]) dX7_livingAt_1 (by decide) rfl ?_
  refine J_iconst (x := 0) dX7_livingAt_2 (by decide) ?_
  refine J_istore (L' := [_, _, _, _, _]) dX7_livingAt_3 (by decide) rfl ?_
  exact l_X7_livingAt hV hm hQ (ls.length + 1) 0 0 (by omega) (by omega) (LSt.nil _)
end SMod
