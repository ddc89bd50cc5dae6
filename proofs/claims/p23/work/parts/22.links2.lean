/-- f 0 + .. + f (n - 1) -/
def sumN (f : Nat → Nat) : Nat → Nat
  | 0 => 0
  | n + 1 => sumN f n + f n
theorem sumN_le {f : Nat → Nat} {b : Nat} (hf : ∀ k, f k ≤ b) : ∀ n, sumN f n ≤ b * n
  | 0 => Nat.le_refl _
  | n + 1 => by
    have h1 := sumN_le hf n
    have h2 := hf n
    have h3 : b * (n + 1) = b * n + b := Nat.mul_succ b n
    show sumN f n + f n ≤ _
    omega
theorem sumN_c {f g : Nat → Nat} : ∀ {n : Nat}, (∀ k, k < n → f k = g k) → sumN f n = sumN g n
  | 0, _ => rfl
  | n + 1, h => by
    show sumN f n + f n = sumN g n + g n
    rw [sumN_c (fun k hk => h k (Nat.lt_succ_of_lt hk)), h n (Nat.lt_succ_self n)]
/-- one for a truth -/
noncomputable def oneI (P : Prop) : Nat := @ite Nat P (Classical.propDecidable P) 1 0
theorem oneI_t {P : Prop} (h : P) : oneI P = 1 := by unfold oneI; exact if_pos h
theorem oneI_f {P : Prop} (h : ¬ P) : oneI P = 0 := by unfold oneI; exact if_neg h
theorem oneI_le (P : Prop) : oneI P ≤ 1 := (Classical.em P).elim (fun h => Nat.le_of_eq (oneI_t h)) (fun h => by rw [oneI_f h]; omega)
theorem oneI_c {P Q : Prop} (h : P ↔ Q) : oneI P = oneI Q := congrArg oneI (propext h)
theorem nn_of {P : Prop} {r : Int32} (e : r = bI P) (c : ¬ r = 0) : P := Classical.not_not.mp (fun q => c ((bI_0 e).mpr q))
noncomputable def spD (y : Lk) (m : Nat) (d : Nat) : Nat := oneI (sb m d = m ∧ ldB m d y = true)
noncomputable def spM (y : Lk) (m : Nat) : Nat := sumN (spD y m) 7
/-- at how many spans a link is laid -/
noncomputable def spN (y : Lk) : Nat := sumN (spM y) 64
section SLinks2
variable {h : g_H} {a : Nat} {ls : List Lk} {Q : Option Value → g_H → Prop}
theorem l1_X4_spansOf {j m c0 : Nat} {y : Lk} (hA : LA h a ls) (hj : ls[j]? = some y) (hm : m < 64) (K : J m_X4_spansOf 3 0 0 0 0 50 [some (.ref a), some (.int (nI j)), some (.int (nI (c0 + spM y m))), some (.int (nI m)), some (.int (nI 7))] [] h Q) : ∀ (t d c : Nat), 7 - d < t → d ≤ 7 → c = c0 + sumN (spD y m) d → J m_X4_spansOf 3 0 0 0 0 13 [some (.ref a), some (.int (nI j)), some (.int (nI c)), some (.int (nI m)), some (.int (nI d))] [] h Q := by
  intro t
  induction t with
  | zero => intro d c ht; omega
  | succ t ih =>
    intro d c ht hd hc
    refine J_iload dX4_spansOf_13 rfl ?_
    refine J_bipush (x := 6) dX4_spansOf_15 (by decide) ?_
    refine J_icmp_gt (tgt := 50) dX4_spansOf_17 (by decide) (fun c17 => ?_) (fun c17 => ?_)
    · have c17 : nI 6 < nI d := c17
      rw [nI_ltI (by omega) (by omega)] at c17
      obtain rfl : d = 7 := by omega
      subst hc
      exact K
    · have c17 : d < 7 := by
        have c17 : ¬ nI 6 < nI d := c17
        rw [nI_ltI (by omega) (by omega)] at c17; omega
      refine J_iload_n dX4_spansOf_20 rfl ?_
      refine J_iload dX4_spansOf_21 rfl ?_
      refine J_callSN (As := [_, _]) (rest := []) (M' := m_X6_spanBegin) dX4_spansOf_23 ml_RX4_44 gm_X6_spanBegin sm_yX6_spanBegin rfl rfl (Nat.le_of_ble_eq_true rfl) (by decide) ⟨rfl, rfl, by decide, by decide⟩ (s_X6_spanBegin hm c17 (fun r1 hr1 => ?_))
      subst hr1
      refine J_iload_n dX4_spansOf_26 rfl ?_
      refine J_icmp_ne (tgt := 44) dX4_spansOf_27 (by decide) (fun c27 => ?_) (fun c27 => ?_)
      · refine J_iinc (L' := [_, _, _, _, _]) dX4_spansOf_44 rfl (nI_i1 d) (by decide) rfl ?_
        refine J_goto (tgt := 13) dX4_spansOf_47 (by decide) ?_
        exact ih (d + 1) _ (by omega) (by omega) (by subst hc; show _ = c0 + (sumN (spD y m) d + spD y m d); rw [show spD y m d = 0 from oneI_f (fun q => c27 ((nI_eq (by have := sb_le m d; omega) (by omega)).mpr q.1))]; omega)
      · have c27 := (nI_eq (by have := sb_le m d; omega) (by omega)).mp c27
        refine J_aload_n dX4_spansOf_30 rfl ?_
        refine J_iload_n dX4_spansOf_31 rfl ?_
        refine J_iload_n dX4_spansOf_32 rfl ?_
        refine J_iload dX4_spansOf_33 rfl ?_
        refine J_callV (As := [_, _, _]) (rest := []) (M' := m_X4_isLaidAt) dX4_spansOf_35 ml_RX4_48 gm_X4_isLaidAt gv_X4_isLaidAt hA.o hA.b rfl rfl rfl (Nat.le_of_ble_eq_true rfl) (by decide) ⟨rfl, rfl, by decide, by decide⟩ (s_X4_isLaidAt hA hj hm c17 (fun r hr => ?_))
        refine J_if_eq (tgt := 44) dX4_spansOf_38 (by decide) (fun c38 => ?_) (fun c38 => ?_)
        · refine J_iinc (L' := [_, _, _, _, _]) dX4_spansOf_44 rfl (nI_i1 d) (by decide) rfl ?_
          refine J_goto (tgt := 13) dX4_spansOf_47 (by decide) ?_
          exact ih (d + 1) _ (by omega) (by omega) (by subst hc; show _ = c0 + (sumN (spD y m) d + spD y m d); rw [show spD y m d = 0 from oneI_f (fun q => (bI_0 hr).mp c38 q.2)]; omega)
        · refine J_iinc (L' := [_, _, _, _, _]) dX4_spansOf_41 rfl (nI_i1 c) (by decide) rfl ?_
          refine J_iinc (L' := [_, _, _, _, _]) dX4_spansOf_44 rfl (nI_i1 d) (by decide) rfl ?_
          refine J_goto (tgt := 13) dX4_spansOf_47 (by decide) ?_
          exact ih (d + 1) (c + 1) (by omega) (by omega) (by subst hc; show _ = c0 + (sumN (spD y m) d + spD y m d); rw [show spD y m d = 1 from oneI_t ⟨c27, nn_of hr c38⟩]; omega)
theorem l2_X4_spansOf {j : Nat} {y : Lk} (hA : LA h a ls) (hj : ls[j]? = some y) (hQ : ∀ r, r = nI (spN y) → Q (some (.int r)) h) : ∀ (t m c : Nat), 64 - m < t → m ≤ 64 → c = sumN (spM y) m → J m_X4_spansOf 3 0 0 0 0 4 [some (.ref a), some (.int (nI j)), some (.int (nI c)), some (.int (nI m)), none] [] h Q := by
  intro t
  induction t with
  | zero => intro m c ht; omega
  | succ t ih =>
    intro m c ht hm hc
    refine J_iload_n dX4_spansOf_4 rfl ?_
    refine J_bipush (x := 64) dX4_spansOf_5 (by decide) ?_
    refine J_icmp_ge (tgt := 56) dX4_spansOf_7 (by decide) (fun c7 => ?_) (fun c7 => ?_)
    · have c7 : 64 ≤ m := (nI_leI (a := 64) (b := m) (by omega) (by omega)).mp c7
      obtain rfl : m = 64 := by omega
      refine J_iload_n dX4_spansOf_56 rfl ?_
      exact J_iret dX4_spansOf_57 rfl ⟨rfl, Nat.le_refl _⟩ (hQ _ (by rw [hc]; rfl))
    · have c7 : m < 64 := Nat.not_le.mp (fun q => c7 ((nI_leI (a := 64) (b := m) (by omega) (by omega)).mpr q))
      refine J_iconst (x := 0) dX4_spansOf_10 (by decide) ?_
      refine J_istore (L' := [_, _, _, _, _]) dX4_spansOf_11 (by decide) rfl ?_
      refine l1_X4_spansOf (c0 := c) hA hj c7 ?_ 8 0 c (by omega) (by omega) rfl
      subst hc
      refine J_iinc dX4_spansOf_50 rfl (nI_i1 m) (by decide) rfl ?_
      refine J_goto (tgt := 4) dX4_spansOf_53 (by decide) ?_
      refine J_drop [4] rfl ?_
      exact ih (m + 1) _ (by omega) (by omega) rfl
theorem s_X4_spansOf {j : Nat} {y : Lk} (hA : LA h a ls) (hj : ls[j]? = some y) (hQ : ∀ r, r = nI (spN y) → Q (some (.int r)) h) : MJ m_X4_spansOf 3 0 0 [.ref a, .int (nI j)] h Q := by
  refine MJ_of_J (L := [some (.ref a), some (.int (nI j)), none, none, none]) (by decide +kernel) rfl (Nat.le_of_ble_eq_true rfl) rfl ?_
  refine J_iconst (x := 0) dX4_spansOf_0 (by decide) ?_
  refine J_istore_n (L' := [_, _, _, _, _]) dX4_spansOf_1 (by decide) rfl ?_
  refine J_iconst (x := 0) dX4_spansOf_2 (by decide) ?_
  refine J_istore_n (L' := [_, _, _, _, _]) dX4_spansOf_3 (by decide) rfl ?_
  exact l2_X4_spansOf hA hj hQ 65 0 0 (by omega) (by omega) rfl
theorem s_X4_empty (hA : LA h a ls) (hQ : ∀ h', Fr a (a + 5) h h' → LA h' a [] → Q none h') : MJ m_X4_empty 0 0 0 [.ref a] h Q := by
  obtain ⟨f1, f2, f3, f4, hP, hV, hn, hO⟩ := hA
  refine MJ_of_J (L := [some (.ref a)]) (by decide +kernel) rfl (Nat.le_of_ble_eq_true rfl) rfl ?_
  refine J_aload_n dX4_empty_0 rfl ?_
  refine J_iconst (x := 0) dX4_empty_1 (by decide) ?_
  refine J_put (k := 4) dX4_empty_2 gc_4 fl_RX4_24 (by decide) rfl hP.o hP.b (Nat.le_of_ble_eq_true rfl) (fun _ => ⟨rfl, rfl⟩) rfl ?_
  replace hP := hP.sn (nI 0)
  exact J_vret dX4_empty_5 rfl ⟨rfl, Nat.le_refl _⟩ (hQ _ (Fr.rf.up (by omega) (by omega)) ⟨f1, f2, f3, f4, hP, fun k x q => by simp at q, by simp, fun x q => by simp at q⟩)
theorem LV.push {f1 f2 f3 f4 : Nat → Int32} (hV : LV ls f1 f2 f3 f4) (y : Lk) : LV (ls ++ [y]) (upd f1 ls.length (nI y.1)) (upd f2 ls.length (nI y.2.1)) (upd f3 ls.length (nI y.2.2.1)) (upd f4 ls.length (nI y.2.2.2)) := by
  intro k x hk
  by_cases e : k < ls.length
  · rw [List.getElem?_append_left e] at hk
    have e2 : k ≠ ls.length := by omega
    simpa [upd, e2] using hV k x hk
  · have e2 : k = ls.length := by
      have := get_lt hk
      simp at this
      omega
    subst e2
    rw [List.getElem?_append_right (Nat.le_refl _), Nat.sub_self] at hk
    simp at hk
    subst hk
    simp [upd]
theorem s_X4_add {y : Lk} (hA : LA h a ls) (hy : okK y) (hl : ls.length < 40) (hQ : ∀ h', Fr a (a + 5) h h' → LA h' a (ls ++ [y]) → Q none h') : MJ m_X4_add 1 0 0 [.ref a, .int (nI y.1), .int (nI y.2.1), .int (nI y.2.2.1), .int (nI y.2.2.2)] h Q := by
  have hA0 := hA
  obtain ⟨f1, f2, f3, f4, hP, hV, hn, hO⟩ := hA
  refine MJ_of_J (L := [some (.ref a), some (.int (nI y.1)), some (.int (nI y.2.1)), some (.int (nI y.2.2.1)), some (.int (nI y.2.2.2))]) (by decide +kernel) rfl (Nat.le_of_ble_eq_true rfl) rfl ?_
  refine J_aload_n dX4_add_0 rfl ?_
  refine J_callV (As := []) (rest := []) (M' := m_X4_room) dX4_add_1 ml_RX4_51 gm_X4_room gv_X4_room hP.o hP.b rfl rfl rfl (Nat.le_of_ble_eq_true rfl) (by decide) ⟨rfl, rfl, by decide, by decide⟩ (s_X4_room hA0 (fun r hr => ?_))
  refine J_if_le (tgt := 58) dX4_add_4 (by decide) (fun c4 => absurd (show r ≤ nI 0 from c4) (by rw [hr, nI_leI (by omega) (by omega)]; omega)) (fun c4 => ?_)
  refine J_aload_n dX4_add_7 rfl ?_
  refine J_get (k := 0) dX4_add_8 gc_4 fl_RX4_9 (by decide) hP.o hP.b rfl ?_
  refine J_aload_n dX4_add_11 rfl ?_
  refine J_get (k := 4) dX4_add_12 gc_4 fl_RX4_24 (by decide) hP.o hP.b rfl ?_
  refine J_iload_n dX4_add_15 rfl ?_
  refine J_iast dX4_add_16 hP.c1 hP.b1 (vp_in_nI (by omega) (by decide)) ?_
  rw [nI_clamp (n := ls.length) (by omega)]
  replace hP := hP.s1 (upd f1 ls.length (nI y.1))
  refine J_aload_n dX4_add_17 rfl ?_
  refine J_get (k := 1) dX4_add_18 gc_4 fl_RX4_15 (by decide) hP.o hP.b rfl ?_
  refine J_aload_n dX4_add_21 rfl ?_
  refine J_get (k := 4) dX4_add_22 gc_4 fl_RX4_24 (by decide) hP.o hP.b rfl ?_
  refine J_iload_n dX4_add_25 rfl ?_
  refine J_iast dX4_add_26 hP.c2 hP.b2 (vp_in_nI (by omega) (by decide)) ?_
  rw [nI_clamp (n := ls.length) (by omega)]
  replace hP := hP.s2 (upd f2 ls.length (nI y.2.1))
  refine J_aload_n dX4_add_27 rfl ?_
  refine J_get (k := 2) dX4_add_28 gc_4 fl_RX4_18 (by decide) hP.o hP.b rfl ?_
  refine J_aload_n dX4_add_31 rfl ?_
  refine J_get (k := 4) dX4_add_32 gc_4 fl_RX4_24 (by decide) hP.o hP.b rfl ?_
  refine J_iload_n dX4_add_35 rfl ?_
  refine J_iast dX4_add_36 hP.c3 hP.b3 (vp_in_nI (by omega) (by decide)) ?_
  rw [nI_clamp (n := ls.length) (by omega)]
  replace hP := hP.s3 (upd f3 ls.length (nI y.2.2.1))
  refine J_aload_n dX4_add_37 rfl ?_
  refine J_get (k := 3) dX4_add_38 gc_4 fl_RX4_21 (by decide) hP.o hP.b rfl ?_
  refine J_aload_n dX4_add_41 rfl ?_
  refine J_get (k := 4) dX4_add_42 gc_4 fl_RX4_24 (by decide) hP.o hP.b rfl ?_
  refine J_iload dX4_add_45 rfl ?_
  refine J_iast dX4_add_47 hP.c4 hP.b4 (vp_in_nI (by omega) (by decide)) ?_
  rw [nI_clamp (n := ls.length) (by omega)]
  replace hP := hP.s4 (upd f4 ls.length (nI y.2.2.2))
  refine J_aload_n dX4_add_48 rfl ?_
  refine J_dup dX4_add_49 rfl ?_
  refine J_get (k := 4) dX4_add_50 gc_4 fl_RX4_24 (by decide) hP.o hP.b rfl ?_
  refine J_iconst (x := 1) dX4_add_53 (by decide) ?_
  refine J_iadd dX4_add_54 ?_
  have e1 : nI ls.length + 1 = nI (ls ++ [y]).length := by rw [nI_1, List.length_append]; rfl
  rw [e1]
  refine J_put (k := 4) dX4_add_55 gc_4 fl_RX4_24 (by decide) rfl hP.o hP.b (Nat.le_of_ble_eq_true rfl) (fun _ => ⟨rfl, rfl⟩) rfl ?_
  replace hP := hP.sn (nI (ls ++ [y]).length)
  exact J_vret dX4_add_58 rfl ⟨rfl, Nat.le_refl _⟩ (hQ _ (((((Fr.rf.up (by omega) (by omega)).up (by omega) (by omega)).up (by omega) (by omega)).up (by omega) (by omega)).up (by omega) (by omega)) ⟨_, _, _, _, hP, hV.push y, by simp; omega, fun x q => by rcases List.mem_append.mp q with q | q; exact hO x q; rw [List.mem_singleton.mp q]; exact hy⟩)
theorem l_X4_addAll {b : Nat} {ms : List Lk} (hB : LA h b ms) (hd : a + 5 ≤ b ∨ b + 5 ≤ a) (hl : ls.length + ms.length ≤ 40) (hQ : ∀ h', Fr a (a + 5) h h' → LA h' a (ls ++ ms) → Q none h') : ∀ (t k : Nat) (h1 : g_H), ms.length - k < t → k ≤ ms.length → Fr a (a + 5) h h1 → LA h1 a (ls ++ ms.take k) → J m_X4_addAll 2 0 0 0 0 2 [some (.ref a), some (.ref b), some (.int (nI k))] [] h1 Q := by
  intro t
  induction t with
  | zero => intro k h1 ht; omega
  | succ t ih =>
    intro k h1 ht hk hF hA1
    obtain ⟨f1, f2, f3, f4, hP, hV, hn, hO⟩ := hB.fr hF (by omega)
    refine J_iload_n dX4_addAll_2 rfl ?_
    refine J_aload_n dX4_addAll_3 rfl ?_
    refine J_get (k := 4) dX4_addAll_4 gc_4 fl_RX4_24 (by decide) hP.o hP.b rfl ?_
    refine J_icmp_ge (tgt := 44) dX4_addAll_7 (by decide) (fun c7 => ?_) (fun c7 => ?_)
    · exact J_vret dX4_addAll_44 rfl ⟨rfl, Nat.le_refl _⟩ (hQ h1 hF (by have c7 := (nI_leI (by omega) (by omega)).mp c7; rwa [List.take_of_length_le c7] at hA1))
    · have c7 : k < ms.length := Nat.not_le.mp (fun q => c7 ((nI_leI (by omega) (by omega)).mpr q))
      obtain ⟨y, hy⟩ := get_of c7
      obtain ⟨v1, v2, v3, v4⟩ := hV k y hy
      refine J_aload_n dX4_addAll_10 rfl ?_
      refine J_aload_n dX4_addAll_11 rfl ?_
      refine J_get (k := 0) dX4_addAll_12 gc_4 fl_RX4_9 (by decide) hP.o hP.b rfl ?_
      refine J_iload_n dX4_addAll_15 rfl ?_
      refine J_iald dX4_addAll_16 hP.c1 hP.b1 (vp_in_nI (by omega) (by decide)) ?_
      refine J_aload_n dX4_addAll_17 rfl ?_
      refine J_get (k := 1) dX4_addAll_18 gc_4 fl_RX4_15 (by decide) hP.o hP.b rfl ?_
      refine J_iload_n dX4_addAll_21 rfl ?_
      refine J_iald dX4_addAll_22 hP.c2 hP.b2 (vp_in_nI (by omega) (by decide)) ?_
      refine J_aload_n dX4_addAll_23 rfl ?_
      refine J_get (k := 2) dX4_addAll_24 gc_4 fl_RX4_18 (by decide) hP.o hP.b rfl ?_
      refine J_iload_n dX4_addAll_27 rfl ?_
      refine J_iald dX4_addAll_28 hP.c3 hP.b3 (vp_in_nI (by omega) (by decide)) ?_
      refine J_aload_n dX4_addAll_29 rfl ?_
      refine J_get (k := 3) dX4_addAll_30 gc_4 fl_RX4_21 (by decide) hP.o hP.b rfl ?_
      refine J_iload_n dX4_addAll_33 rfl ?_
      refine J_iald dX4_addAll_34 hP.c4 hP.b4 (vp_in_nI (by omega) (by decide)) ?_
      rw [nI_clamp (n := k) (by omega), v1, v2, v3, v4]
      refine J_callV (As := [_, _, _, _]) (rest := []) (M' := m_X4_add) dX4_addAll_35 ml_RX4_55 gm_X4_add gv_X4_add hA1.o hA1.b rfl rfl rfl (Nat.le_of_ble_eq_true rfl) (by decide) ⟨rfl, rfl, by decide, by decide⟩ (s_X4_add hA1 (hO y (List.mem_of_getElem? hy)) (by rw [List.length_append, List.length_take]; omega) (fun h2 hF2 hA2 => ?_))
      refine J_iinc (L' := [_, _, _]) dX4_addAll_38 rfl (nI_i1 k) (by decide) rfl ?_
      refine J_goto (tgt := 2) dX4_addAll_41 (by decide) ?_
      exact ih (k + 1) h2 (by omega) (by omega) (hF.tr hF2) (by rw [List.take_succ, hy]; simpa using hA2)
theorem s_X4_addAll {b : Nat} {ms : List Lk} (hA : LA h a ls) (hB : LA h b ms) (hd : a + 5 ≤ b ∨ b + 5 ≤ a) (hl : ls.length + ms.length ≤ 40) (hQ : ∀ h', Fr a (a + 5) h h' → LA h' a (ls ++ ms) → Q none h') : MJ m_X4_addAll 2 0 0 [.ref a, .ref b] h Q := by
  refine MJ_of_J (L := [some (.ref a), some (.ref b), none]) (by decide +kernel) rfl (Nat.le_of_ble_eq_true rfl) rfl ?_
  refine J_iconst (x := 0) dX4_addAll_0 (by decide) ?_
  refine J_istore_n (L' := [_, _, _]) dX4_addAll_1 (by decide) rfl ?_
  exact l_X4_addAll hB hd hl hQ (ms.length + 1) 0 h (by omega) (by omega) Fr.rf (by simpa using hA)
theorem s_X4_take {b : Nat} {ms : List Lk} (hA : LA h a ls) (hB : LA h b ms) (hd : a + 5 ≤ b ∨ b + 5 ≤ a) (hQ : ∀ h', Fr a (a + 5) h h' → LA h' a ms → Q none h') : MJ m_X4_take 3 0 0 [.ref a, .ref b] h Q := by
  have hl := hB.len
  refine MJ_of_J (L := [some (.ref a), some (.ref b)]) (by decide +kernel) rfl (Nat.le_of_ble_eq_true rfl) rfl ?_
  refine J_aload_n dX4_take_0 rfl ?_
  refine J_callV (As := []) (rest := []) (M' := m_X4_empty) dX4_take_1 ml_RX4_59 gm_X4_empty gv_X4_empty hA.o hA.b rfl rfl rfl (Nat.le_of_ble_eq_true rfl) (by decide) ⟨rfl, rfl, by decide, by decide⟩ (s_X4_empty hA (fun h1 hF1 hA1 => ?_))
  replace hA := hA1
  refine J_aload_n dX4_take_4 rfl ?_
  refine J_aload_n dX4_take_5 rfl ?_
  refine J_callV (As := [_]) (rest := []) (M' := m_X4_addAll) dX4_take_6 ml_RX4_62 gm_X4_addAll gv_X4_addAll hA.o hA.b rfl rfl rfl (Nat.le_of_ble_eq_true rfl) (by decide) ⟨rfl, rfl, by decide, by decide⟩ (s_X4_addAll hA1 (hB.fr hF1 (by omega)) hd (by simpa using hl) (fun h2 hF2 hA2 => ?_))
  exact J_vret dX4_take_9 rfl ⟨rfl, Nat.le_refl _⟩ (hQ _ (hF1.tr hF2) (by simpa using hA2))
theorem LV.live {f1 f2 f3 f4 : Nat → Int32} {j : Nat} {y : Lk} (hV : LV ls f1 f2 f3 f4) (hj : ls[j]? = some y) (b e : Nat) : LV (ls.set j (y.1, y.2.1, b, e)) f1 f2 (upd f3 j (nI b)) (upd f4 j (nI e)) := by
  intro k x hk
  by_cases q : j = k
  · subst q
    rw [List.getElem?_set_self (get_lt hj)] at hk
    simp at hk
    subst hk
    have := hV j y hj
    simp [upd, this.1, this.2.1]
  · rw [List.getElem?_set_ne q] at hk
    have q2 : k ≠ j := fun z => q z.symm
    simpa [upd, q2] using hV k x hk
theorem s_X4_live {j b e : Nat} {y : Lk} (hA : LA h a ls) (hj : ls[j]? = some y) (hb : b < e) (he : e ≤ 64) (hQ : ∀ h', Fr a (a + 5) h h' → LA h' a (ls.set j (y.1, y.2.1, b, e)) → Q none h') : MJ m_X4_live 1 0 0 [.ref a, .int (nI j), .int (nI b), .int (nI e)] h Q := by
  have hA0 := hA
  have hjl := get_lt hj
  obtain ⟨f1, f2, f3, f4, hP, hV, hn, hO⟩ := hA
  refine MJ_of_J (L := [some (.ref a), some (.int (nI j)), some (.int (nI b)), some (.int (nI e))]) (by decide +kernel) rfl (Nat.le_of_ble_eq_true rfl) rfl ?_
  refine J_aload_n dX4_live_0 rfl ?_
  refine J_iload_n dX4_live_1 rfl ?_
  refine J_callV (As := [_]) (rest := []) (M' := m_X4_has) dX4_live_2 ml_RX4_28 gm_X4_has gv_X4_has hP.o hP.b rfl rfl rfl (Nat.le_of_ble_eq_true rfl) (by decide) ⟨rfl, rfl, by decide, by decide⟩ (s_X4_has hA0 (fun r hr => ?_))
  refine J_if_eq (tgt := 22) dX4_live_5 (by decide) (fun c5 => absurd ⟨j, hjl, rfl⟩ ((bI_0 hr).mp c5)) (fun c5 => ?_)
  refine J_aload_n dX4_live_8 rfl ?_
  refine J_get (k := 2) dX4_live_9 gc_4 fl_RX4_18 (by decide) hP.o hP.b rfl ?_
  refine J_iload_n dX4_live_12 rfl ?_
  refine J_iload_n dX4_live_13 rfl ?_
  refine J_iast dX4_live_14 hP.c3 hP.b3 (vp_in_nI (by omega) (by decide)) ?_
  rw [nI_clamp (n := j) (by omega)]
  replace hP := hP.s3 (upd f3 j (nI b))
  refine J_aload_n dX4_live_15 rfl ?_
  refine J_get (k := 3) dX4_live_16 gc_4 fl_RX4_21 (by decide) hP.o hP.b rfl ?_
  refine J_iload_n dX4_live_19 rfl ?_
  refine J_iload_n dX4_live_20 rfl ?_
  refine J_iast dX4_live_21 hP.c4 hP.b4 (vp_in_nI (by omega) (by decide)) ?_
  rw [nI_clamp (n := j) (by omega)]
  replace hP := hP.s4 (upd f4 j (nI e))
  exact J_vret dX4_live_22 rfl ⟨rfl, Nat.le_refl _⟩ (hQ _ ((Fr.rf.up (by omega) (by omega)).up (by omega) (by omega)) ⟨f1, f2, _, _, by rw [List.length_set]; exact hP, hV.live hj b e, by rw [List.length_set]; exact hn, fun x q => by rcases List.mem_or_eq_of_mem_set q with q | q; exact hO x q; rw [q]; obtain ⟨o1, o2, o3, -⟩ := hO y (List.mem_of_getElem? hj); exact ⟨o1, o2, o3, hb, he⟩⟩)
def shf (j k : Nat) (f : Nat → Int32) : Nat → Int32 := fun i => if j ≤ i ∧ i + 1 < k then f (i + 1) else f i
theorem shf_0 (j : Nat) (f : Nat → Int32) : shf j (j + 1) f = f := by
  funext i
  unfold shf
  rw [if_neg (by omega)]
theorem shf_k (j k : Nat) (f : Nat → Int32) : shf j k f k = f k := by
  unfold shf
  rw [if_neg (by omega)]
theorem shf_s {j k : Nat} (f : Nat → Int32) (h : j + 1 ≤ k) : upd (shf j k f) (k - 1) (f k) = shf j (k + 1) f := by
  funext i
  unfold upd shf
  by_cases e : i = k - 1
  · subst e
    rw [if_pos rfl, if_pos (by omega), show k - 1 + 1 = k by omega]
  · rw [if_neg e]
    by_cases q : j ≤ i ∧ i + 1 < k
    · rw [if_pos q, if_pos (by omega)]
    · rw [if_neg q, if_neg (by omega)]
theorem l_X4_removeAt {f1 f2 f3 f4 : Nat → Int32} {j n : Nat} (hn : n ≤ 40) (hj : j < n) (hQ : ∀ h', Fr a (a + 5) h h' → LR h' a (nI (n - 1)) (shf j n f1) (shf j n f2) (shf j n f3) (shf j n f4) → Q none h') : ∀ (t k : Nat) (h1 : g_H), n - k < t → j + 1 ≤ k → k ≤ n → Fr a (a + 5) h h1 → LR h1 a (nI n) (shf j k f1) (shf j k f2) (shf j k f3) (shf j k f4) → J m_X4_removeAt 1 0 0 0 0 13 [some (.ref a), some (.int (nI j)), some (.int (nI k))] [] h1 Q := by
  intro t
  induction t with
  | zero => intro k h1 ht; omega
  | succ t ih =>
    intro k h1 ht hjk hk hF hP
    have ek : nI k - 1 = nI (k - 1) := pk_sub (b := 1) (by omega)
    refine J_iload_n dX4_removeAt_13 rfl ?_
    refine J_aload_n dX4_removeAt_14 rfl ?_
    refine J_get (k := 4) dX4_removeAt_15 gc_4 fl_RX4_24 (by decide) hP.o hP.b rfl ?_
    refine J_icmp_ge (tgt := 83) dX4_removeAt_18 (by decide) (fun c18 => ?_) (fun c18 => ?_)
    · have c18 := (nI_leI (by omega) (by omega)).mp c18
      obtain rfl : k = n := by omega
      refine J_aload_n dX4_removeAt_83 rfl ?_
      refine J_dup dX4_removeAt_84 rfl ?_
      refine J_get (k := 4) dX4_removeAt_85 gc_4 fl_RX4_24 (by decide) hP.o hP.b rfl ?_
      refine J_iconst (x := 1) dX4_removeAt_88 (by decide) ?_
      refine J_isub dX4_removeAt_89 ?_
      rw [ek]
      refine J_put (k := 4) dX4_removeAt_90 gc_4 fl_RX4_24 (by decide) rfl hP.o hP.b (Nat.le_of_ble_eq_true rfl) (fun _ => ⟨rfl, rfl⟩) rfl ?_
      replace hP := hP.sn (nI (k - 1))
      exact J_vret dX4_removeAt_93 rfl ⟨rfl, Nat.le_refl _⟩ (hQ _ (hF.up (by omega) (by omega)) hP)
    · have c18 : k < n := Nat.not_le.mp (fun q => c18 ((nI_leI (by omega) (by omega)).mpr q))
      refine J_aload_n dX4_removeAt_21 rfl ?_
      refine J_get (k := 0) dX4_removeAt_22 gc_4 fl_RX4_9 (by decide) hP.o hP.b rfl ?_
      refine J_iload_n dX4_removeAt_25 rfl ?_
      refine J_iconst (x := 1) dX4_removeAt_26 (by decide) ?_
      refine J_isub dX4_removeAt_27 ?_
      rw [ek]
      refine J_aload_n dX4_removeAt_28 rfl ?_
      refine J_get (k := 0) dX4_removeAt_29 gc_4 fl_RX4_9 (by decide) hP.o hP.b rfl ?_
      refine J_iload_n dX4_removeAt_32 rfl ?_
      refine J_iald dX4_removeAt_33 hP.c1 hP.b1 (vp_in_nI (by omega) (by decide)) ?_
      rw [nI_clamp (n := k) (by omega), shf_k]
      refine J_iast dX4_removeAt_34 hP.c1 hP.b1 (vp_in_nI (by omega) (by decide)) ?_
      rw [nI_clamp (n := k - 1) (by omega), shf_s f1 hjk]
      replace hP := hP.s1 (shf j (k + 1) f1)
      refine J_aload_n dX4_removeAt_35 rfl ?_
      refine J_get (k := 1) dX4_removeAt_36 gc_4 fl_RX4_15 (by decide) hP.o hP.b rfl ?_
      refine J_iload_n dX4_removeAt_39 rfl ?_
      refine J_iconst (x := 1) dX4_removeAt_40 (by decide) ?_
      refine J_isub dX4_removeAt_41 ?_
      rw [ek]
      refine J_aload_n dX4_removeAt_42 rfl ?_
      refine J_get (k := 1) dX4_removeAt_43 gc_4 fl_RX4_15 (by decide) hP.o hP.b rfl ?_
      refine J_iload_n dX4_removeAt_46 rfl ?_
      refine J_iald dX4_removeAt_47 hP.c2 hP.b2 (vp_in_nI (by omega) (by decide)) ?_
      rw [nI_clamp (n := k) (by omega), shf_k]
      refine J_iast dX4_removeAt_48 hP.c2 hP.b2 (vp_in_nI (by omega) (by decide)) ?_
      rw [nI_clamp (n := k - 1) (by omega), shf_s f2 hjk]
      replace hP := hP.s2 (shf j (k + 1) f2)
      refine J_aload_n dX4_removeAt_49 rfl ?_
      refine J_get (k := 2) dX4_removeAt_50 gc_4 fl_RX4_18 (by decide) hP.o hP.b rfl ?_
      refine J_iload_n dX4_removeAt_53 rfl ?_
      refine J_iconst (x := 1) dX4_removeAt_54 (by decide) ?_
      refine J_isub dX4_removeAt_55 ?_
      rw [ek]
      refine J_aload_n dX4_removeAt_56 rfl ?_
      refine J_get (k := 2) dX4_removeAt_57 gc_4 fl_RX4_18 (by decide) hP.o hP.b rfl ?_
      refine J_iload_n dX4_removeAt_60 rfl ?_
      refine J_iald dX4_removeAt_61 hP.c3 hP.b3 (vp_in_nI (by omega) (by decide)) ?_
      rw [nI_clamp (n := k) (by omega), shf_k]
      refine J_iast dX4_removeAt_62 hP.c3 hP.b3 (vp_in_nI (by omega) (by decide)) ?_
      rw [nI_clamp (n := k - 1) (by omega), shf_s f3 hjk]
      replace hP := hP.s3 (shf j (k + 1) f3)
      refine J_aload_n dX4_removeAt_63 rfl ?_
      refine J_get (k := 3) dX4_removeAt_64 gc_4 fl_RX4_21 (by decide) hP.o hP.b rfl ?_
      refine J_iload_n dX4_removeAt_67 rfl ?_
      refine J_iconst (x := 1) dX4_removeAt_68 (by decide) ?_
      refine J_isub dX4_removeAt_69 ?_
      rw [ek]
      refine J_aload_n dX4_removeAt_70 rfl ?_
      refine J_get (k := 3) dX4_removeAt_71 gc_4 fl_RX4_21 (by decide) hP.o hP.b rfl ?_
      refine J_iload_n dX4_removeAt_74 rfl ?_
      refine J_iald dX4_removeAt_75 hP.c4 hP.b4 (vp_in_nI (by omega) (by decide)) ?_
      rw [nI_clamp (n := k) (by omega), shf_k]
      refine J_iast dX4_removeAt_76 hP.c4 hP.b4 (vp_in_nI (by omega) (by decide)) ?_
      rw [nI_clamp (n := k - 1) (by omega), shf_s f4 hjk]
      replace hP := hP.s4 (shf j (k + 1) f4)
      refine J_iinc (L' := [_, _, _]) dX4_removeAt_77 rfl (nI_i1 k) (by decide) rfl ?_
      refine J_goto (tgt := 13) dX4_removeAt_80 (by decide) ?_
      exact ih (k + 1) _ (by omega) (by omega) (by omega) ((((hF.up (by omega) (by omega)).up (by omega) (by omega)).up (by omega) (by omega)).up (by omega) (by omega)) hP
theorem LV.rem {f1 f2 f3 f4 : Nat → Int32} {j : Nat} (hV : LV ls f1 f2 f3 f4) : LV (ls.eraseIdx j) (shf j ls.length f1) (shf j ls.length f2) (shf j ls.length f3) (shf j ls.length f4) := by
  intro k x hk
  rw [List.getElem?_eraseIdx] at hk
  unfold shf
  by_cases q : k < j
  · rw [if_pos q] at hk
    rw [if_neg (by omega), if_neg (by omega), if_neg (by omega), if_neg (by omega)]
    exact hV k x hk
  · rw [if_neg q] at hk
    have hl := get_lt hk
    rw [if_pos (by omega), if_pos (by omega), if_pos (by omega), if_pos (by omega)]
    exact hV (k + 1) x hk
theorem s_X4_removeAt {j : Nat} (hA : LA h a ls) (hj : j < ls.length) (hQ : ∀ h', Fr a (a + 5) h h' → LA h' a (ls.eraseIdx j) → Q none h') : MJ m_X4_removeAt 1 0 0 [.ref a, .int (nI j)] h Q := by
  have hA0 := hA
  obtain ⟨f1, f2, f3, f4, hP, hV, hn, hO⟩ := hA
  refine MJ_of_J (L := [some (.ref a), some (.int (nI j)), none]) (by decide +kernel) rfl (Nat.le_of_ble_eq_true rfl) rfl ?_
  refine J_aload_n dX4_removeAt_0 rfl ?_
  refine J_iload_n dX4_removeAt_1 rfl ?_
  refine J_callV (As := [_]) (rest := []) (M' := m_X4_has) dX4_removeAt_2 ml_RX4_28 gm_X4_has gv_X4_has hP.o hP.b rfl rfl rfl (Nat.le_of_ble_eq_true rfl) (by decide) ⟨rfl, rfl, by decide, by decide⟩ (s_X4_has hA0 (fun r hr => ?_))
  refine J_if_ne (tgt := 9) dX4_removeAt_5 (by decide) (fun c5 => ?_) (fun c5 => absurd ⟨j, hj, rfl⟩ ((bI_0 hr).mp c5))
  refine J_iload_n dX4_removeAt_9 rfl ?_
  refine J_iconst (x := 1) dX4_removeAt_10 (by decide) ?_
  refine J_iadd dX4_removeAt_11 ?_
  rw [nI_1]
  refine J_istore_n (L' := [_, _, _]) dX4_removeAt_12 (by decide) rfl ?_
  refine l_X4_removeAt (f1 := f1) (f2 := f2) (f3 := f3) (f4 := f4) (j := j) hn hj (fun h2 hF2 hP2 => ?_) (ls.length + 1) (j + 1) h (by omega) (by omega) (by omega) Fr.rf (by rw [shf_0, shf_0, shf_0, shf_0]; exact hP)
  exact hQ h2 hF2 ⟨_, _, _, _, by rw [List.length_eraseIdx, if_pos hj]; exact hP2, hV.rem, by rw [List.length_eraseIdx, if_pos hj]; omega, fun x q => hO x (List.mem_of_mem_eraseIdx q)⟩
theorem eraseIdx_mid (l1 l2 : List Lk) (y : Lk) (k : Nat) (hk : l1.length = k) : (l1 ++ y :: l2).eraseIdx k = l1 ++ l2 := by
  subst hk
  rw [List.eraseIdx_append_of_length_le (Nat.le_refl _), Nat.sub_self]
  rfl
theorem l_X4_removeLivingAt {m : Int32} (hn : ls.length ≤ 40) (hQ : ∀ h', Fr a (a + 5) h h' → LA h' a (ls.filter (fun x => !lvB m.toInt x)) → Q none h') : ∀ (k : Nat) (x : Int32) (h1 : g_H), k ≤ ls.length → x = nI k - 1 → Fr a (a + 5) h h1 → LA h1 a (ls.take k ++ (ls.drop k).filter (fun x => !lvB m.toInt x)) → J m_X4_removeLivingAt 2 0 0 0 0 7 [some (.ref a), some (.int m), some (.int x)] [] h1 Q := by
  intro k
  induction k with
  | zero =>
    intro x h1 hk hx hF hA1
    refine J_iload_n dX4_removeLivingAt_7 rfl ?_
    refine J_if_lt (tgt := 31) dX4_removeLivingAt_8 (by decide) (fun c8 => ?_) (fun c8 => absurd (show x < 0 by rw [hx]; decide) c8)
    exact J_vret dX4_removeLivingAt_31 rfl ⟨rfl, Nat.le_refl _⟩ (hQ h1 hF (by simpa using hA1))
  | succ k ih =>
    intro x h1 hk hx hF hA1
    rw [nI_pred] at hx
    subst hx
    obtain ⟨y, hy⟩ := get_of (show k < ls.length by omega)
    have e1 : ls.take (k + 1) ++ (ls.drop (k + 1)).filter (fun x => !lvB m.toInt x) = ls.take k ++ y :: (ls.drop (k + 1)).filter (fun x => !lvB m.toInt x) := by
      rw [List.take_succ, hy]; simp
    have e2 : ls.drop k = y :: ls.drop (k + 1) := by
      rw [List.drop_eq_getElem_cons (by omega)]
      congr 1
      exact (List.getElem?_eq_some_iff.mp hy).2
    rw [e1] at hA1
    have htl : (ls.take k).length = k := by rw [List.length_take]; omega
    have hy1 : (ls.take k ++ y :: (ls.drop (k + 1)).filter (fun x => !lvB m.toInt x))[k]? = some y := by
      rw [List.getElem?_append_right (by omega), htl, Nat.sub_self]; rfl
    refine J_iload_n dX4_removeLivingAt_7 rfl ?_
    refine J_if_lt (tgt := 31) dX4_removeLivingAt_8 (by decide) (fun c8 => absurd c8 (nI_pos (by omega))) (fun c8 => ?_)
    refine J_aload_n dX4_removeLivingAt_11 rfl ?_
    refine J_iload_n dX4_removeLivingAt_12 rfl ?_
    refine J_iload_n dX4_removeLivingAt_13 rfl ?_
    refine J_callV (As := [_, _]) (rest := []) (M' := m_X4_livesAt) dX4_removeLivingAt_14 ml_RX4_32 gm_X4_livesAt gv_X4_livesAt hA1.o hA1.b rfl rfl rfl (Nat.le_of_ble_eq_true rfl) (by decide) ⟨rfl, rfl, by decide, by decide⟩ (s_X4_livesAt hA1 hy1 (fun r hr => ?_))
    refine J_if_eq (tgt := 25) dX4_removeLivingAt_17 (by decide) (fun c17 => ?_) (fun c17 => ?_)
    · have hf := (bI_0 hr).mp c17
      refine J_iinc dX4_removeLivingAt_25 rfl (y := nI k - 1) (by rw [Int32.sub_eq_add_neg]; rfl) (by decide) rfl ?_
      refine J_goto (tgt := 7) dX4_removeLivingAt_28 (by decide) ?_
      exact ih _ h1 (by omega) rfl hF (by rw [e2, List.filter_cons, if_pos (by simpa using hf)]; exact hA1)
    · refine J_aload_n dX4_removeLivingAt_20 rfl ?_
      refine J_iload_n dX4_removeLivingAt_21 rfl ?_
      refine J_callV (As := [_]) (rest := []) (M' := m_X4_removeAt) dX4_removeLivingAt_22 ml_RX4_66 gm_X4_removeAt gv_X4_removeAt hA1.o hA1.b rfl rfl rfl (Nat.le_of_ble_eq_true rfl) (by decide) ⟨rfl, rfl, by decide, by decide⟩ (s_X4_removeAt (j := k) hA1 (get_lt hy1) (fun h2 hF2 hA2 => ?_))
      have hf := nn_of hr c17
      refine J_iinc dX4_removeLivingAt_25 rfl (y := nI k - 1) (by rw [Int32.sub_eq_add_neg]; rfl) (by decide) rfl ?_
      refine J_goto (tgt := 7) dX4_removeLivingAt_28 (by decide) ?_
      exact ih _ h2 (by omega) rfl (hF.tr hF2) (by rw [e2, List.filter_cons, if_neg (by simpa using hf)]; rw [eraseIdx_mid _ _ _ _ htl] at hA2; exact hA2)
theorem s_X4_removeLivingAt {m : Int32} (hA : LA h a ls) (hQ : ∀ h', Fr a (a + 5) h h' → LA h' a (ls.filter (fun x => !lvB m.toInt x)) → Q none h') : MJ m_X4_removeLivingAt 2 0 0 [.ref a, .int m] h Q := by
  refine MJ_of_J (L := [some (.ref a), some (.int m), none]) (by decide +kernel) rfl (Nat.le_of_ble_eq_true rfl) rfl ?_
  refine J_aload_n dX4_removeLivingAt_0 rfl ?_
  refine J_get (k := 4) dX4_removeLivingAt_1 gc_4 fl_RX4_24 (by decide) hA.o hA.b rfl ?_
  refine J_iconst (x := 1) dX4_removeLivingAt_4 (by decide) ?_
  refine J_isub dX4_removeLivingAt_5 ?_
  refine J_istore_n (L' := [_, _, _]) dX4_removeLivingAt_6 (by decide) rfl ?_
  exact l_X4_removeLivingAt hA.len hQ ls.length _ h (by omega) rfl Fr.rf (by simpa using hA)
end SLinks2
