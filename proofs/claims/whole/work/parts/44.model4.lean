theorem lst_CM {x : Int64} {ls : List Lk} {m : Nat} (hs : LSt x ls (lvB (m : Int)) ls.length) (u v : Nat) : Cn (EB ls x) u v ↔ CM ls m u v := Cn.set (fun e => hs.EB e) u v
theorem lst_CX {x : Int64} {ls : List Lk} {m j : Nat} (hs : LSt x ls (lvB (m : Int)) ls.length) (hn : ls.length ≤ 40) (hj : j < ls.length) (u v : Nat) : Cn (EK ls (fun k _ => b6 x k && decide (k ≠ j)) ls.length) u v ↔ CX ls j m u v := by
  refine Cn.set (fun e => ?_) u v
  rw [EK_mem, EK_mem]
  constructor
  · rintro ⟨k, y, h1, h2, h3, h4⟩
    have h3 : b6 x k = true ∧ k ≠ j := by simpa using h3
    obtain ⟨z, g1, g2, g3⟩ := (hs k).mp h3.1
    rw [h2] at g2; cases g2
    exact ⟨k, y, h1, h2, lvX_iff.mpr ⟨fun q => h3.2 ((nI_eq (by omega) (by omega)).mp q), g3⟩, h4⟩
  · rintro ⟨k, y, h1, h2, h3, h4⟩
    have h5 := lvX_iff.mp h3
    have g : b6 x k = true := (hs k).mpr ⟨y, h1, h2, h5.2⟩
    have g2 : k ≠ j := fun q => h5.1 (by rw [q])
    exact ⟨k, y, h1, h2, by simp [g, g2], h4⟩
theorem sumN_z {f : Nat → Nat} : ∀ {n : Nat}, (∀ k, k < n → f k = 0) → sumN f n = 0
  | 0, _ => rfl
  | n + 1, h => by
    show sumN f n + f n = 0
    rw [sumN_z (fun k hk => h k (Nat.lt_succ_of_lt hk)), h n (Nat.lt_succ_self n)]
theorem sumN_ext {f : Nat → Nat} {n m : Nat} (hm : n ≤ m) (h : ∀ k, n ≤ k → f k = 0) : sumN f m = sumN f n := by
  have e : m = n + (m - n) := by omega
  rw [e]; exact sumN_up _ h
theorem BS.b6 {r : Int32} {P : Nat → Prop} (a : BS r P) (i : Nat) : b6 r.toInt64 i = true ↔ i < 16 ∧ P i := by
  have m0 : r.toBitVec.getLsbD 31 = false := by
    by_cases q : r.toBitVec.getLsbD 31 = true
    · have := ((a 31).mp q).1
      omega
    · simpa using q
  rw [← a i]
  show (r.toInt64.toBitVec).getLsbD i = true ↔ _
  rw [Int32.toBitVec_toInt64, BitVec.getLsbD_signExtend]
  by_cases h : i < 32
  · rw [if_pos h]; simp [show i < 64 by omega]
  · have hg : r.toBitVec.getLsbD i = false := BitVec.getLsbD_of_ge _ _ (by omega)
    have hm : r.toBitVec.msb = false := by rw [BitVec.msb_eq_getLsbD_last]; exact m0
    rw [if_neg h, hm, hg, Bool.and_false]
theorem BS.pc {r : Int32} {P : Nat → Prop} (a : BS r P) : pc6 r.toInt64 = sumN (fun i => oneI (P i)) 16 := by
  unfold pc6
  rw [sumN_ext (n := 16) (by omega) (fun k hk => if_neg (fun q => by have := ((a.b6 k).mp q).1; omega))]
  refine sumN_c (fun k hk => ?_)
  by_cases q : P k
  · rw [if_pos ((a.b6 k).mpr ⟨hk, q⟩), oneI_t q]
  · rw [if_neg (fun z => q ((a.b6 k).mp z).2), oneI_f q]
theorem BS.sz {r : Int32} {ls : List Lk} {x : Int64} {m p : Nat} (hs : LSt x ls (lvB (m : Int)) ls.length) (a : BS r (fun i => Cn (EB ls x) p i)) : pc6 r.toInt64 = pSz ls m p := by
  rw [a.pc]
  exact sumN_c (fun k _ => oneI_c (⟨fun z => (lst_CM hs k p).mp z.sm, fun z => ((lst_CM hs k p).mpr z).sm⟩))
theorem sumN_1 {f : Nat → Nat} {n p : Nat} (hp : p < n) (h1 : f p = 1) (hs : sumN f n = 1) : ∀ k, k < n → k ≠ p → f k = 0 := by
  intro k hk hne
  by_cases q : f k = 0
  · exact q
  · have := sumN_ge2 (f := f) hne (by omega) (by omega) n hk hp
    omega
theorem BS.al {r : Int32} {ls : List Lk} {x : Int64} {m p : Nat} (hs : LSt x ls (lvB (m : Int)) ls.length) (a : BS r (fun i => Cn (EB ls x) p i)) (hp : p < 16) : r = (1 : Int32) <<< (nI p &&& 31) ↔ pSz ls m p = 1 := by
  have g0 : ∀ k, oneI (CM ls m k p) ≤ 1 := fun k => by
    by_cases q : CM ls m k p
    · rw [oneI_t q]; exact Nat.le_refl _
    · rw [oneI_f q]; exact Nat.zero_le _
  have g1 : oneI (CM ls m p p) = 1 := oneI_t (Cn.rf _)
  constructor
  · intro e
    have hz : ∀ k, k < 16 → k ≠ p → oneI (CM ls m k p) = 0 := by
      intro k hk hne
      refine oneI_f (fun q => hne ?_)
      have := (a k).mpr ⟨hk, ((lst_CM hs k p).mpr q).sm⟩
      rw [e] at this
      exact (b5_p hp k).mp this
    have h1 : pSz ls m p = sumN (fun k => if k = p then 1 else 0) 16 := sumN_c (fun k hk => by
      by_cases q : k = p
      · rw [if_pos q, q, g1]
      · rw [if_neg q, hz k hk q])
    rw [h1]
    have key : ∀ p, p < 16 → sumN (fun k => if k = p then 1 else 0) 16 = 1 := by decide +kernel
    exact key p hp
  · intro e
    refine b5_ext (fun i => ?_)
    rw [Bool.eq_iff_iff, b5_p hp]
    constructor
    · intro q
      have q := (a i).mp q
      by_cases z : i = p
      · exact z
      · have g2 := sumN_1 (f := fun k => oneI (CM ls m k p)) hp g1 e i q.1 z
        have g3 : oneI (CM ls m i p) = 1 := oneI_t ((lst_CM hs i p).mp q.2.sm)
        have g2 : oneI (CM ls m i p) = 0 := g2
        omega
    · rintro rfl
      exact (a i).mpr ⟨hp, Cn.rf _⟩
section SMod4
variable {h h' : g_H} {a : Nat} {ls : List Lk} {Q : Option Value → g_H → Prop}
theorem l_X7_momentsNeeded {j : Nat} {y : Lk} (hV : VQ h a ls) (hj : ls[j]? = some y) (hQ : ∀ r, r = nI (sumN (nmN ls j y) 64) → Q (some (.int r)) h) : ∀ (t m c : Nat), y.2.2.2 - m < t → y.2.2.1 ≤ m → m ≤ y.2.2.2 → c = sumN (nmN ls j y) m → J m_X7_momentsNeeded 3 0 0 0 0 12 [some (.ref a), some (.int (nI j)), some (.int (nI c)), some (.int (nI m))] [] h Q := by
  intro t
  induction t with
  | zero => intro m c ht; omega
  | succ t ih =>
    intro m c ht hfm hm hc
    have hV0 := hV
    have hst : sumN (nmN ls j y) (m + 1) = sumN (nmN ls j y) m + nmN ls j y m := rfl
    obtain ⟨fs, f, ⟨bd1, bd2⟩, hO, hA, hAL, hn, hok⟩ := hV
    have hB : 1 ≤ a ∧ a ≤ h.2 := ⟨bd1, by omega⟩
    have hB1 : 1 ≤ a + 1 ∧ a + 1 ≤ h.2 := ⟨by omega, bd2⟩
    have hjl := get_lt hj
    obtain ⟨v1, v2, v3, v4⟩ := hAL.2 j y hj
    obtain ⟨o1, o2, o3, o4, o5⟩ := hok y (List.mem_of_getElem? hj)
    refine J_iload_n dX7_momentsNeeded_12 rfl ?_
    refine J_aload_n dX7_momentsNeeded_13 rfl ?_
    refine J_get (k := 0) dX7_momentsNeeded_14 gc_7 fl_RX7_7 (by decide) hO hB rfl ?_
    refine J_bipush (x := 121) dX7_momentsNeeded_17 (by decide) ?_
    refine J_iload_n dX7_momentsNeeded_19 rfl ?_
    refine J_iadd dX7_momentsNeeded_20 ?_
    rw [show (121 : Int32) + nI j = nI (121 + j) from nI_add 121 j]
    refine J_iald dX7_momentsNeeded_21 hA hB1 (vp_in_nI (by omega) (by decide)) ?_
    rw [nI_clamp (n := 121 + j) (by omega), v4]
    refine J_icmp_ge (tgt := 52) dX7_momentsNeeded_22 (by decide) (fun c22 => ?_) (fun c22 => ?_)
    · refine J_iload_n dX7_momentsNeeded_52 rfl ?_
      exact J_iret dX7_momentsNeeded_53 rfl ⟨rfl, Nat.le_refl _⟩ (hQ _ (by have c22 := (nI_leI (by omega) (by omega)).mp c22; rw [hc, show m = y.2.2.2 by omega]; exact congrArg nI (sumN_ext (f := nmN ls j y) (n := y.2.2.2) (m := 64) (by omega) (fun k hk => oneI_f (fun q => by have := lvB_iff.mp q.1; omega))).symm))
    · have c22 : m < y.2.2.2 := Nat.not_le.mp (fun q => c22 ((nI_leI (by omega) (by omega)).mpr q))
      have hlv : lvB (m : Int) y = true := lvB_iff.mpr (by omega)
      refine J_iload_n dX7_momentsNeeded_25 rfl ?_
      refine J_aload_n dX7_momentsNeeded_26 rfl ?_
      refine J_aload_n dX7_momentsNeeded_27 rfl ?_
      refine J_iload_n dX7_momentsNeeded_28 rfl ?_
      refine J_callV (As := [_]) (rest := [_, _]) (M' := m_X7_livingAt) dX7_momentsNeeded_29 ml_RX7_106 gm_X7_livingAt gv_X7_livingAt hO hB rfl rfl rfl (Nat.le_of_ble_eq_true rfl) (by decide) ⟨rfl, rfl, by decide, by decide⟩ (s_X7_livingAt hV0 (show m < 64 by omega) (fun x hx => ?_))
      refine J_iload_n dX7_momentsNeeded_32 rfl ?_
      refine J_callV (As := [_, _]) (rest := [_]) (M' := m_X7_isNeeded) dX7_momentsNeeded_33 ml_RX7_149 gm_X7_isNeeded gv_X7_isNeeded hO hB rfl rfl rfl (Nat.le_of_ble_eq_true rfl) (by decide) ⟨rfl, rfl, by decide, by decide⟩ (s_X7_isNeeded hV0 hj (fun r hr => ?_))
      have hcx := lst_CX hx hn hjl y.1 y.2.1
      refine J_if_eq (tgt := 43) dX7_momentsNeeded_36 (by decide) (fun c36 => ?_) (fun c36 => ?_)
      · refine J_iconst (x := 0) dX7_momentsNeeded_43 (by decide) ?_
        refine J_iadd dX7_momentsNeeded_44 ?_
        refine J_istore_n (L' := [_, _, _, _]) dX7_momentsNeeded_45 (by decide) rfl ?_
        refine J_iinc (L' := [_, _, _, _]) dX7_momentsNeeded_46 rfl (nI_i1 m) (by decide) rfl ?_
        refine J_goto (tgt := 12) dX7_momentsNeeded_49 (by decide) ?_
        rw [show nI c + 0 = nI c from nI_add c 0]
        exact ih (m + 1) c (by omega) (by omega) (by omega) (by rw [hst, hc, show nmN ls j y m = 0 from oneI_f (fun q => (bI_0 hr).mp c36 (fun z => q.2 (hcx.mp z)))]; rfl)
      · refine J_iconst (x := 1) dX7_momentsNeeded_39 (by decide) ?_
        refine J_goto (tgt := 44) dX7_momentsNeeded_40 (by decide) ?_
        refine J_iadd dX7_momentsNeeded_44 ?_
        refine J_istore_n (L' := [_, _, _, _]) dX7_momentsNeeded_45 (by decide) rfl ?_
        refine J_iinc (L' := [_, _, _, _]) dX7_momentsNeeded_46 rfl (nI_i1 m) (by decide) rfl ?_
        refine J_goto (tgt := 12) dX7_momentsNeeded_49 (by decide) ?_
        rw [nI_1]
        exact ih (m + 1) (c + 1) (by omega) (by omega) (by omega) (by rw [hst, hc, show nmN ls j y m = 1 from oneI_t ⟨hlv, fun z => nn_of hr c36 (hcx.mpr z)⟩])
theorem s_X7_momentsNeeded {j : Nat} {y : Lk} (hV : VQ h a ls) (hj : ls[j]? = some y) (hQ : ∀ r, r = nI (sumN (nmN ls j y) 64) → Q (some (.int r)) h) : MJ m_X7_momentsNeeded 3 0 0 [.ref a, .int (nI j)] h Q := by
  have hV0 := hV
  obtain ⟨fs, f, ⟨bd1, bd2⟩, hO, hA, hAL, hn, hok⟩ := hV
  have hB : 1 ≤ a ∧ a ≤ h.2 := ⟨bd1, by omega⟩
  have hB1 : 1 ≤ a + 1 ∧ a + 1 ≤ h.2 := ⟨by omega, bd2⟩
  have hjl := get_lt hj
  obtain ⟨v1, v2, v3, v4⟩ := hAL.2 j y hj
  obtain ⟨o1, o2, o3, o4, o5⟩ := hok y (List.mem_of_getElem? hj)
  refine MJ_of_J (L := [some (.ref a), some (.int (nI j)), none, none]) (by decide +kernel) rfl (Nat.le_of_ble_eq_true rfl) rfl ?_
  refine J_iconst (x := 0) dX7_momentsNeeded_0 (by decide) ?_
  refine J_istore_n (L' := [_, _, _, _]) dX7_momentsNeeded_1 (by decide) rfl ?_
  refine J_aload_n dX7_momentsNeeded_2 rfl ?_
  refine J_get (k := 0) dX7_momentsNeeded_3 gc_7 fl_RX7_7 (by decide) hO hB rfl ?_
  refine J_bipush (x := 81) dX7_momentsNeeded_6 (by decide) ?_
  refine J_iload_n dX7_momentsNeeded_8 rfl ?_
  refine J_iadd dX7_momentsNeeded_9 ?_
  rw [show (81 : Int32) + nI j = nI (81 + j) from nI_add 81 j]
  refine J_iald dX7_momentsNeeded_10 hA hB1 (vp_in_nI (by omega) (by decide)) ?_
  rw [nI_clamp (n := 81 + j) (by omega), v3]
  refine J_istore_n (L' := [_, _, _, _]) dX7_momentsNeeded_11 (by decide) rfl ?_
  exact l_X7_momentsNeeded hV0 hj hQ 65 y.2.2.1 0 (by omega) (Nat.le_refl _) (by omega) (sumN_z (fun k hk => oneI_f (fun q => by have := lvB_iff.mp q.1; omega))).symm
theorem l_X7_neededAt {m : Nat} {x : Int64} (hV : VQ h a ls) (hx : LSt x ls (lvB (m : Int)) ls.length) (hQ : ∀ r, r = nI (sumN (nlN ls m) ls.length) → Q (some (.int r)) h) : ∀ (t k c : Nat), ls.length - k < t → k ≤ ls.length → c = sumN (nlN ls m) k → J m_X7_neededAt 3 0 0 0 0 5 [some (.ref a), some (.long x), none, some (.int (nI c)), some (.int (nI k))] [] h Q := by
  intro t
  induction t with
  | zero => intro k c ht; omega
  | succ t ih =>
    intro k c ht hk hc
    have hV0 := hV
    have hst : sumN (nlN ls m) (k + 1) = sumN (nlN ls m) k + nlN ls m k := rfl
    obtain ⟨fs, f, ⟨bd1, bd2⟩, hO, hA, hAL, hn, hok⟩ := hV
    have hB : 1 ≤ a ∧ a ≤ h.2 := ⟨bd1, by omega⟩
    have hB1 : 1 ≤ a + 1 ∧ a + 1 ≤ h.2 := ⟨by omega, bd2⟩
    refine J_iload dX7_neededAt_5 rfl ?_
    refine J_aload_n dX7_neededAt_7 rfl ?_
    refine J_get (k := 0) dX7_neededAt_8 gc_7 fl_RX7_7 (by decide) hO hB rfl ?_
    refine J_iconst (x := 0) dX7_neededAt_11 (by decide) ?_
    refine J_iald dX7_neededAt_12 hA hB1 (vp_in_nI (n := 0) (by decide) (by decide)) ?_
    rw [show (0 : Int32).toNatClampNeg = 0 from rfl, hAL.1]
    refine J_icmp_ge (tgt := 51) dX7_neededAt_13 (by decide) (fun c13 => ?_) (fun c13 => ?_)
    · refine J_iload_n dX7_neededAt_51 rfl ?_
      exact J_iret dX7_neededAt_52 rfl ⟨rfl, Nat.le_refl _⟩ (hQ _ (by have c13 := (nI_leI (by omega) (by omega)).mp c13; rw [hc, show k = ls.length by omega]))
    · have c13 : k < ls.length := Nat.not_le.mp (fun q => c13 ((nI_leI (by omega) (by omega)).mpr q))
      obtain ⟨y, hy⟩ := get_of c13
      have hcx := lst_CX hx hn c13 y.1 y.2.1
      refine J_iload_n dX7_neededAt_16 rfl ?_
      refine J_lload_n dX7_neededAt_17 rfl ?_
      refine J_iload dX7_neededAt_18 rfl ?_
      refine J_lshr dX7_neededAt_20 ?_
      refine J_lconst (x := 1) dX7_neededAt_21 (by decide) ?_
      refine J_land dX7_neededAt_22 ?_
      refine J_lconst (x := 1) dX7_neededAt_23 (by decide) ?_
      refine J_lcmp dX7_neededAt_24 ?_
      refine J_if_ne (tgt := 42) dX7_neededAt_25 (by decide) (fun c25 => ?_) (fun c25 => ?_)
      · refine J_iconst (x := 0) dX7_neededAt_42 (by decide) ?_
        refine J_iadd dX7_neededAt_43 ?_
        refine J_istore_n (L' := [_, _, _, _, _]) dX7_neededAt_44 (by decide) rfl ?_
        refine J_iinc (L' := [_, _, _, _, _]) dX7_neededAt_45 rfl (nI_i1 k) (by decide) rfl ?_
        refine J_goto (tgt := 5) dX7_neededAt_48 (by decide) ?_
        rw [show nI c + 0 = nI c from nI_add c 0]
        exact ih (k + 1) c (by omega) (by omega) (by rw [hst, hc, nlN_of hy, oneI_f (fun q => c25 (lgc_eq.mpr ((b6_t (by omega) x).mpr ((hx k).mpr ⟨y, c13, hy, q.1⟩))))]; rfl)
      · refine J_aload_n dX7_neededAt_28 rfl ?_
        refine J_lload_n dX7_neededAt_29 rfl ?_
        refine J_iload dX7_neededAt_30 rfl ?_
        refine J_callV (As := [_, _]) (rest := [_]) (M' := m_X7_isNeeded) dX7_neededAt_32 ml_RX7_149 gm_X7_isNeeded gv_X7_isNeeded hO hB rfl rfl rfl (Nat.le_of_ble_eq_true rfl) (by decide) ⟨rfl, rfl, by decide, by decide⟩ (s_X7_isNeeded hV0 hy (fun r hr => ?_))
        refine J_if_eq (tgt := 42) dX7_neededAt_35 (by decide) (fun c35 => ?_) (fun c35 => ?_)
        · refine J_iconst (x := 0) dX7_neededAt_42 (by decide) ?_
          refine J_iadd dX7_neededAt_43 ?_
          refine J_istore_n (L' := [_, _, _, _, _]) dX7_neededAt_44 (by decide) rfl ?_
          refine J_iinc (L' := [_, _, _, _, _]) dX7_neededAt_45 rfl (nI_i1 k) (by decide) rfl ?_
          refine J_goto (tgt := 5) dX7_neededAt_48 (by decide) ?_
          rw [show nI c + 0 = nI c from nI_add c 0]
          exact ih (k + 1) c (by omega) (by omega) (by rw [hst, hc, nlN_of hy, oneI_f (fun q => (bI_0 hr).mp c35 (fun z => q.2 (hcx.mp z)))]; rfl)
        · refine J_iconst (x := 1) dX7_neededAt_38 (by decide) ?_
          refine J_goto (tgt := 43) dX7_neededAt_39 (by decide) ?_
          refine J_iadd dX7_neededAt_43 ?_
          refine J_istore_n (L' := [_, _, _, _, _]) dX7_neededAt_44 (by decide) rfl ?_
          refine J_iinc (L' := [_, _, _, _, _]) dX7_neededAt_45 rfl (nI_i1 k) (by decide) rfl ?_
          refine J_goto (tgt := 5) dX7_neededAt_48 (by decide) ?_
          rw [nI_1]
          exact ih (k + 1) (c + 1) (by omega) (by omega) (by rw [hst, hc, nlN_of hy, oneI_t ⟨(by obtain ⟨z, g1, g2, g3⟩ := (hx k).mp ((b6_t (by omega) x).mp (lgc_eq.mp c25)); rw [hy] at g2; cases g2; exact g3), fun z => nn_of hr c35 (hcx.mpr z)⟩])
theorem s_X7_neededAt {m : Nat} {x : Int64} (hV : VQ h a ls) (hx : LSt x ls (lvB (m : Int)) ls.length) (hQ : ∀ r, r = nI (sumN (nlN ls m) ls.length) → Q (some (.int r)) h) : MJ m_X7_neededAt 3 0 0 [.ref a, .long x] h Q := by
  refine MJ_of_J (L := [some (.ref a), some (.long x), none, none, none]) (by decide +kernel) rfl (Nat.le_of_ble_eq_true rfl) rfl ?_
  refine J_iconst (x := 0) dX7_neededAt_0 (by decide) ?_
  refine J_istore_n (L' := [_, _, _, _, _]) dX7_neededAt_1 (by decide) rfl ?_
  refine J_iconst (x := 0) dX7_neededAt_2 (by decide) ?_
  refine J_istore (L' := [_, _, _, _, _]) dX7_neededAt_3 (by decide) rfl ?_
  exact l_X7_neededAt hV hx hQ (ls.length + 1) 0 0 (by omega) (by omega) rfl
theorem l_X7_greatestPart {m : Nat} {x : Int64} (hV : VQ h a ls) (hx : LSt x ls (lvB (m : Int)) ls.length) (hQ : ∀ r, r = nI (maxN (pSz ls m) 16) → Q (some (.int r)) h) : ∀ (t k c : Nat) (w5 : Option Value) , 16 - k < t → k ≤ 16 → c = maxN (pSz ls m) k → J m_X7_greatestPart 1 0 0 0 0 5 [some (.ref a), some (.long x), none, some (.int (nI c)), some (.int (nI k)), w5] [] h Q := by
  intro t
  induction t with
  | zero => intro k c w5 ht; omega
  | succ t ih =>
    intro k c w5 ht hk hc
    have hst : maxN (pSz ls m) (k + 1) = if maxN (pSz ls m) k < pSz ls m k then pSz ls m k else maxN (pSz ls m) k := rfl
    have hc16 : c ≤ 16 := by rw [hc]; exact maxN_le (pSz_le ls m) k
    have hp16 := pSz_le ls m k
    obtain ⟨fs0, hO⟩ := hV.o
    have hB := hV.bo
    refine J_iload dX7_greatestPart_5 rfl ?_
    refine J_bipush (x := 16) dX7_greatestPart_7 (by decide) ?_
    refine J_icmp_ge (tgt := 44) dX7_greatestPart_9 (by decide) (fun c9 => ?_) (fun c9 => ?_)
    · refine J_iload_n dX7_greatestPart_44 rfl ?_
      exact J_iret dX7_greatestPart_45 rfl ⟨rfl, Nat.le_refl _⟩ (hQ _ (by have c9 := (nI_leI (a := 16) (b := k) (by omega) (by omega)).mp c9; rw [hc, show k = 16 by omega]))
    · have c9 : k < 16 := Nat.not_le.mp (fun q => c9 ((nI_leI (a := 16) (b := k) (by omega) (by omega)).mpr q))
      refine J_aload_n dX7_greatestPart_12 rfl ?_
      refine J_lload_n dX7_greatestPart_13 rfl ?_
      refine J_iload dX7_greatestPart_14 rfl ?_
      refine J_callV (As := [_, _]) (rest := []) (M' := m_X7_reach) dX7_greatestPart_16 ml_RX7_54 gm_X7_reach gv_X7_reach hO hB rfl rfl rfl (Nat.le_of_ble_eq_true rfl) (by decide) ⟨rfl, rfl, by decide, by decide⟩ (s_X7_reach hV c9 (fun s hs => ?_))
      refine J_i2l dX7_greatestPart_19 ?_
      refine J_callS (As := [_]) (rest := []) (M' := m_X7_bits) dX7_greatestPart_20 ml_RX7_110 gm_X7_bits sm_yX7_bits rfl rfl (Nat.le_of_ble_eq_true rfl) (by decide) ⟨rfl, rfl, by decide, by decide⟩ (s_X7_bits (fun r hr => ?_))
      rw [BS.sz hx hs] at hr
      subst hr
      refine J_istore (L' := [_, _, _, _, _, _]) dX7_greatestPart_23 (by decide) rfl ?_
      refine J_iload dX7_greatestPart_25 rfl ?_
      refine J_iload_n dX7_greatestPart_27 rfl ?_
      refine J_icmp_le (tgt := 36) dX7_greatestPart_28 (by decide) (fun c28 => ?_) (fun c28 => ?_)
      · refine J_iload_n dX7_greatestPart_36 rfl ?_
        refine J_istore_n (L' := [_, _, _, _, _, _]) dX7_greatestPart_37 (by decide) rfl ?_
        refine J_iinc (L' := [_, _, _, _, _, _]) dX7_greatestPart_38 rfl (nI_i1 k) (by decide) rfl ?_
        refine J_goto (tgt := 5) dX7_greatestPart_41 (by decide) ?_
        exact ih (k + 1) c _ (by omega) (by omega) (by rw [hst, ← hc, if_neg (fun q => by have c28 := (nI_leI (by omega) (by omega)).mp c28; omega)])
      · refine J_iload dX7_greatestPart_31 rfl ?_
        refine J_goto (tgt := 37) dX7_greatestPart_33 (by decide) ?_
        refine J_istore_n (L' := [_, _, _, _, _, _]) dX7_greatestPart_37 (by decide) rfl ?_
        refine J_iinc (L' := [_, _, _, _, _, _]) dX7_greatestPart_38 rfl (nI_i1 k) (by decide) rfl ?_
        refine J_goto (tgt := 5) dX7_greatestPart_41 (by decide) ?_
        exact ih (k + 1) _ _ (by omega) (by omega) (by rw [hst, ← hc, if_pos (by rw [nI_leI (by omega) (by omega)] at c28; omega)])
theorem s_X7_greatestPart {m : Nat} {x : Int64} (hV : VQ h a ls) (hx : LSt x ls (lvB (m : Int)) ls.length) (hQ : ∀ r, r = nI (maxN (pSz ls m) 16) → Q (some (.int r)) h) : MJ m_X7_greatestPart 1 0 0 [.ref a, .long x] h Q := by
  refine MJ_of_J (L := [some (.ref a), some (.long x), none, none, none, none]) (by decide +kernel) rfl (Nat.le_of_ble_eq_true rfl) rfl ?_
  refine J_iconst (x := 0) dX7_greatestPart_0 (by decide) ?_
  refine J_istore_n (L' := [_, _, _, _, _, _]) dX7_greatestPart_1 (by decide) rfl ?_
  refine J_iconst (x := 0) dX7_greatestPart_2 (by decide) ?_
  refine J_istore (L' := [_, _, _, _, _, _]) dX7_greatestPart_3 (by decide) rfl ?_
  exact l_X7_greatestPart hV hx hQ 17 0 0 _ (by omega) (by omega) rfl
theorem l_X7_alone {m : Nat} {x : Int64} (hV : VQ h a ls) (hx : LSt x ls (lvB (m : Int)) ls.length) (hQ : ∀ r, r = nI (sumN (alN ls m) 16) → Q (some (.int r)) h) : ∀ (t k c : Nat) , 16 - k < t → k ≤ 16 → c = sumN (alN ls m) k → J m_X7_alone 1 0 0 0 0 5 [some (.ref a), some (.long x), none, some (.int (nI c)), some (.int (nI k))] [] h Q := by
  intro t
  induction t with
  | zero => intro k c ht; omega
  | succ t ih =>
    intro k c ht hk hc
    have hst : sumN (alN ls m) (k + 1) = sumN (alN ls m) k + alN ls m k := rfl
    obtain ⟨fs0, hO⟩ := hV.o
    have hB := hV.bo
    refine J_iload dX7_alone_5 rfl ?_
    refine J_bipush (x := 16) dX7_alone_7 (by decide) ?_
    refine J_icmp_ge (tgt := 40) dX7_alone_9 (by decide) (fun c9 => ?_) (fun c9 => ?_)
    · refine J_iload_n dX7_alone_40 rfl ?_
      exact J_iret dX7_alone_41 rfl ⟨rfl, Nat.le_refl _⟩ (hQ _ (by have c9 := (nI_leI (a := 16) (b := k) (by omega) (by omega)).mp c9; rw [hc, show k = 16 by omega]))
    · have c9 : k < 16 := Nat.not_le.mp (fun q => c9 ((nI_leI (a := 16) (b := k) (by omega) (by omega)).mpr q))
      refine J_iload_n dX7_alone_12 rfl ?_
      refine J_aload_n dX7_alone_13 rfl ?_
      refine J_lload_n dX7_alone_14 rfl ?_
      refine J_iload dX7_alone_15 rfl ?_
      refine J_callV (As := [_, _]) (rest := [_]) (M' := m_X7_reach) dX7_alone_17 ml_RX7_54 gm_X7_reach gv_X7_reach hO hB rfl rfl rfl (Nat.le_of_ble_eq_true rfl) (by decide) ⟨rfl, rfl, by decide, by decide⟩ (s_X7_reach hV c9 (fun s hs => ?_))
      refine J_iconst (x := 1) dX7_alone_20 (by decide) ?_
      refine J_iload dX7_alone_21 rfl ?_
      refine J_ishl dX7_alone_23 ?_
      refine J_icmp_ne (tgt := 31) dX7_alone_24 (by decide) (fun c24 => ?_) (fun c24 => ?_)
      · refine J_iconst (x := 0) dX7_alone_31 (by decide) ?_
        refine J_iadd dX7_alone_32 ?_
        refine J_istore_n (L' := [_, _, _, _, _]) dX7_alone_33 (by decide) rfl ?_
        refine J_iinc (L' := [_, _, _, _, _]) dX7_alone_34 rfl (nI_i1 k) (by decide) rfl ?_
        refine J_goto (tgt := 5) dX7_alone_37 (by decide) ?_
        rw [show nI c + 0 = nI c from nI_add c 0]
        exact ih (k + 1) c (by omega) (by omega) (by rw [hst, hc, show alN ls m k = 0 from oneI_f (fun q => c24 ((BS.al hx hs c9).mpr q))]; rfl)
      · refine J_iconst (x := 1) dX7_alone_27 (by decide) ?_
        refine J_goto (tgt := 32) dX7_alone_28 (by decide) ?_
        refine J_iadd dX7_alone_32 ?_
        refine J_istore_n (L' := [_, _, _, _, _]) dX7_alone_33 (by decide) rfl ?_
        refine J_iinc (L' := [_, _, _, _, _]) dX7_alone_34 rfl (nI_i1 k) (by decide) rfl ?_
        refine J_goto (tgt := 5) dX7_alone_37 (by decide) ?_
        rw [nI_1]
        exact ih (k + 1) (c + 1) (by omega) (by omega) (by rw [hst, hc, show alN ls m k = 1 from oneI_t ((BS.al hx hs c9).mp c24)])
theorem s_X7_alone {m : Nat} {x : Int64} (hV : VQ h a ls) (hx : LSt x ls (lvB (m : Int)) ls.length) (hQ : ∀ r, r = nI (sumN (alN ls m) 16) → Q (some (.int r)) h) : MJ m_X7_alone 1 0 0 [.ref a, .long x] h Q := by
  refine MJ_of_J (L := [some (.ref a), some (.long x), none, none, none]) (by decide +kernel) rfl (Nat.le_of_ble_eq_true rfl) rfl ?_
  refine J_iconst (x := 0) dX7_alone_0 (by decide) ?_
  refine J_istore_n (L' := [_, _, _, _, _]) dX7_alone_1 (by decide) rfl ?_
  refine J_iconst (x := 0) dX7_alone_2 (by decide) ?_
  refine J_istore (L' := [_, _, _, _, _]) dX7_alone_3 (by decide) rfl ?_
  exact l_X7_alone hV hx hQ 17 0 0 (by omega) (by omega) rfl
end SMod4
