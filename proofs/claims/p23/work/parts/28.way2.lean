section SWay2
variable {h h' : g_H} {a b : Nat} {ls : List Lk} {x1 x2 x3 x4 x5 : Int32} {g : Nat → Int32} {js : List (Nat × Nat)} {Q : Option Value → g_H → Prop}
/-- what is told of a span: the links that are laid there, the joinings that are made -/
def lcN (ls : List Lk) (m d : Nat) : Nat := ls.countP (ldB (sb m d) d)
noncomputable def mdN (ls : List Lk) (m d : Nat) : Nat := pU ls m d - pS ls m d
theorem CU_lt {ls : List Lk} (hO : ∀ x ∈ ls, okK x) {m d : Nat} : ∀ e ∈ CU ls m d, e.1 < 16 ∧ e.2 < 16 := by
  cases d with
  | zero => intro e he; simp [CU] at he
  | succ d => exact EK_lt hO
theorem l_X0_goTo {m D : Nat} (hm : m < 64) (hD : D < 7) (hA0 : LA h b ls) (hd : b + 5 ≤ a ∨ a + 6 ≤ b)
    (hQ : ∀ h' js y1 y2 y3 y4 y5 g', Fr a (a + 6) h h' → HR h' a y1 y2 y3 y4 y5 g' → JA h' (a + 1) 16 js → y1 = nI (lcN ls m D) → y2 = nI (mdN ls m D) → Q none h') :
    ∀ (t k : Nat) (h1 : g_H) (js : List (Nat × Nat)) (y1 y2 y3 y4 y5 : Int32) (g' : Nat → Int32), D + 1 - k < t → k ≤ D + 1 → Fr a (a + 6) h h1 → HR h1 a y1 y2 y3 y4 y5 g' → JA h1 (a + 1) 16 js → (0 < k → g' (k - 1) = nI js.length ∧ RP 16 js (CV ls m (k - 1)) ∧ y1 = nI (lcN ls m (k - 1)) ∧ y2 = nI (mdN ls m (k - 1))) → J m_X0_goTo 4 0 0 0 0 3 [some (.ref a), some (.ref b), some (.int (nI m)), some (.int (nI D)), some (.int (nI k))] [] h1 Q := by
  intro t
  induction t with
  | zero => intro k h1 js y1 y2 y3 y4 y5 g' ht; omega
  | succ t ih =>
    intro k h1 js y1 y2 y3 y4 y5 g' ht hk hF hP hJ hI
    have hA := hA0.fr hF (by omega)
    have hn := hA.len
    have hO := hA.ok
    have hsb := sb_le m k
    refine J_iload dX0_goTo_3 rfl ?_
    refine J_iload_n dX0_goTo_5 rfl ?_
    refine J_icmp_gt (tgt := 28) dX0_goTo_6 (by decide) (fun c6 => ?_) (fun c6 => ?_)
    · refine J_vret dX0_goTo_28 rfl ⟨rfl, Nat.le_refl _⟩ (by
      have c6 := (nI_ltI (by omega) (by omega)).mp c6
      obtain rfl : k = D + 1 := by omega
      obtain ⟨-, -, z3, z4⟩ := hI (by omega)
      exact hQ h1 js _ _ _ _ _ _ hF hP hJ z3 z4)
    · have c6 : k ≤ D := Nat.not_lt.mp (fun q => c6 ((nI_ltI (by omega) (by omega)).mpr q))
      have key : (if k = 0 then 0 else js.length) ≤ js.length ∧ (k = 0 → (if k = 0 then 0 else js.length) = 0) ∧ (0 < k → g' (k - 1) = nI (if k = 0 then 0 else js.length)) ∧ RP 16 (js.drop (js.length - (if k = 0 then 0 else js.length))) (CU ls m k) := by
        by_cases q : k = 0
        · subst q
          refine ⟨by simp, by simp, fun z => absurd z (Nat.lt_irrefl 0), ?_⟩
          rw [if_pos rfl, Nat.sub_zero, List.drop_length]
          exact RP.nil 16
        · obtain ⟨z1, z2, -, -⟩ := hI (by omega)
          rw [if_neg q]
          refine ⟨Nat.le_refl _, fun z => absurd z q, fun _ => z1, ?_⟩
          rw [Nat.sub_self]
          obtain ⟨i, rfl⟩ : ∃ i, k = i + 1 := ⟨k - 1, by omega⟩
          exact z2
      generalize (if k = 0 then 0 else js.length) = ar at key
      obtain ⟨k1, k2, k3, k4⟩ := key
      have hlen := RP.len (WJ.drop (js.length - ar) hJ.w) k4
      rw [List.length_drop] at hlen
      refine J_aload_n dX0_goTo_9 rfl ?_
      refine J_aload_n dX0_goTo_10 rfl ?_
      refine J_iload_n dX0_goTo_11 rfl ?_
      refine J_iload dX0_goTo_12 rfl ?_
      refine J_callSN (As := [_, _]) (rest := [_, _]) (M' := m_X6_spanBegin) dX0_goTo_14 ml_RX0_40 gm_X6_spanBegin sm_yX6_spanBegin rfl rfl (Nat.le_of_ble_eq_true rfl) (by decide) ⟨rfl, rfl, by decide, by decide⟩ (s_X6_spanBegin hm (show k < 7 by omega) (fun r hr => ?_))
      subst hr
      refine J_iload dX0_goTo_17 rfl ?_
      refine J_callV (As := [_, _, _]) (rest := []) (M' := m_X0_joinLaid) dX0_goTo_19 ml_RX0_44 gm_X0_joinLaid gv_X0_joinLaid hP.o hP.bo rfl rfl rfl (Nat.le_of_ble_eq_true rfl) (by decide) ⟨rfl, rfl, by decide, by decide⟩ (s_X0_joinLaid (s := sb m k) (d := k) (ar := ar) (E0 := CU ls m k) (by omega) (by omega) (CU_lt hO) hA hd hP hJ k1 k2 k3 k4 (fun h2 js2 hF2 hP2 hJ2 hR2 har2 hdr2 => ?_))
      refine J_iinc (L' := [_, _, _, _, _]) dX0_goTo_22 rfl (nI_i1 k) (by decide) rfl ?_
      refine J_goto (tgt := 3) dX0_goTo_25 (by decide) ?_
      have hR3 := hR2.set (CV_ld hm (show k < 7 by omega))
      have hlen2 := RP.len hJ2.w hR3
      refine ih (k + 1) h2 js2 _ _ _ _ _ _ (by omega) (by omega) (hF.tr hF2) hP2 hJ2 (fun _ => ⟨?_, hR3, rfl, ?_⟩)
      · rw [Nat.add_sub_cancel]; simp [upd]
      · rw [Nat.add_sub_cancel]
        unfold mdN pU pS
        congr 1
        omega
theorem s_X0_goTo {m D : Nat} (hm : m < 64) (hD : D < 7) (hA : LA h b ls) (hd : b + 5 ≤ a ∨ a + 6 ≤ b) (hP : HR h a x1 x2 x3 x4 x5 g) (hJ : JA h (a + 1) 16 js)
    (hQ : ∀ h' js y1 y2 y3 y4 y5 g', Fr a (a + 6) h h' → HR h' a y1 y2 y3 y4 y5 g' → JA h' (a + 1) 16 js → y1 = nI (lcN ls m D) → y2 = nI (mdN ls m D) → Q none h') : MJ m_X0_goTo 4 0 0 [.ref a, .ref b, .int (nI m), .int (nI D)] h Q := by
  refine MJ_of_J (L := [some (.ref a), some (.ref b), some (.int (nI m)), some (.int (nI D)), none]) (by decide +kernel) rfl (Nat.le_of_ble_eq_true rfl) rfl ?_
  refine J_iconst (x := 0) dX0_goTo_0 (by decide) ?_
  refine J_istore (L' := [_, _, _, _, _]) dX0_goTo_1 (by decide) rfl ?_
  exact l_X0_goTo hm hD hA hd hQ (D + 2) 0 h js _ _ _ _ _ _ (by omega) (by omega) Fr.rf hP hJ (fun z => absurd z (Nat.lt_irrefl 0))
/-- sums and greatest values over the spans, by the moments with which they begin -/
def atB (f : Nat → Nat → Nat) (m d : Nat) : Nat := if sb m d = m then f m d else 0
def sp1 (f : Nat → Nat → Nat) (m : Nat) : Nat := sumN (atB f m) 7
def sp2 (f : Nat → Nat → Nat) : Nat := sumN (sp1 f) 64
def mxA (c : Nat) (f : Nat → Nat) : Nat → Nat
  | 0 => c
  | n + 1 => if mxA c f n < f n then f n else mxA c f n
def mx2 (f : Nat → Nat → Nat) : Nat → Nat
  | 0 => 0
  | n + 1 => mxA (mx2 f n) (atB f n) 7
noncomputable def stN (ls : List Lk) (m d : Nat) : Nat := 16 - pS ls m d
theorem mxA_le {c b : Nat} {f : Nat → Nat} (hc : c ≤ b) (hf : ∀ k, f k ≤ b) : ∀ n, mxA c f n ≤ b
  | 0 => hc
  | n + 1 => by
    have := mxA_le hc hf n
    have := hf n
    show (if mxA c f n < f n then f n else mxA c f n) ≤ b
    split <;> assumption
theorem atB_le {f : Nat → Nat → Nat} {b : Nat} (hf : ∀ m d, f m d ≤ b) (m d : Nat) : atB f m d ≤ b := by
  unfold atB
  split
  · exact hf m d
  · exact Nat.zero_le _
theorem mx2_le {f : Nat → Nat → Nat} {b : Nat} (hf : ∀ m d, f m d ≤ b) : ∀ n, mx2 f n ≤ b
  | 0 => Nat.zero_le _
  | n + 1 => mxA_le (mx2_le hf n) (fun k => atB_le hf n k) 7
/-- the standing numbers of the spans around (up to d, and those that began earlier) -/
def WI (ls : List Lk) (m d : Nat) (g : Nat → Int32) (js : List (Nat × Nat)) : Prop := ∃ s : Nat → Nat, (∀ i j, i ≤ j → j < 7 → (j < d ∨ sb m j ≠ m) → s i ≤ s j) ∧ ∀ i, i < 7 → (i < d ∨ sb m i ≠ m) → g i = nI (s i) ∧ s i ≤ js.length ∧ RP 16 (js.drop (js.length - s i)) (CV ls m i)
theorem WI.skip {ls : List Lk} {m d : Nat} {g : Nat → Int32} {js : List (Nat × Nat)} (h : WI ls m d g js) (hs : sb m d ≠ m) : WI ls m (d + 1) g js := by
  obtain ⟨s, h1, h2⟩ := h
  have hc : ∀ i, (i < d + 1 ∨ sb m i ≠ m) → (i < d ∨ sb m i ≠ m) := by
    intro i q
    rcases q with q | q
    · rcases Nat.lt_succ_iff_lt_or_eq.mp q with z | z
      · exact Or.inl z
      · subst z; exact Or.inr hs
    · exact Or.inr q
  exact ⟨s, fun i j hij hj q => h1 i j hij hj (hc j q), fun i hi q => h2 i hi (hc i q)⟩
theorem WI.next {ls : List Lk} {m : Nat} {g : Nat → Int32} {js : List (Nat × Nat)} (h : WI ls m 7 g js) (hm : m < 63) : WI ls (m + 1) 0 g js := by
  obtain ⟨s, h1, h2⟩ := h
  refine ⟨s, fun i j hij hj _ => h1 i j hij hj (Or.inl hj), fun i hi q => ?_⟩
  have q2 : sb (m + 1) i ≠ m + 1 := q.resolve_left (Nat.not_lt_zero _)
  have e := sb_f4 m hm i hi q2
  obtain ⟨z1, z2, z3⟩ := h2 i hi (Or.inl hi)
  refine ⟨z1, z2, ?_⟩
  have e2 : CV ls (m + 1) i = CV ls m i := by
    unfold CV cvP
    rw [e]
  rw [e2]; exact z3
theorem WI.first (ls : List Lk) (g : Nat → Int32) (js : List (Nat × Nat)) : WI ls 0 0 g js := by
  refine ⟨fun _ => 0, fun _ _ _ _ _ => Nat.le_refl _, fun i _ q => ?_⟩
  exfalso
  rcases q with q | q
  · omega
  · exact q (Nat.le_zero.mp (sb_le 0 i))
/-- before a span that begins here: the number that stands around it -/
theorem WI.ar {ls : List Lk} {m d : Nat} {g : Nat → Int32} {js : List (Nat × Nat)} (h : WI ls m d g js) (hd : d < 7) : ∃ ar : Nat, ar ≤ js.length ∧ (d = 0 → ar = 0) ∧ (0 < d → g (d - 1) = nI ar) ∧ RP 16 (js.drop (js.length - ar)) (CU ls m d) ∧ ∀ (js' : List (Nat × Nat)) , (∀ i, i < 7 → d ≤ i → sb m i = m) → RP 16 js' (CV ls m d) → ar ≤ js'.length → js'.drop (js'.length - ar) = js.drop (js.length - ar) → WI ls m (d + 1) (upd g d (nI js'.length)) js' := by
  obtain ⟨s, h1, h2⟩ := h
  have fin : ∀ ar : Nat, ar ≤ js.length → (∀ i, i < d → s i ≤ ar) → ∀ (js' : List (Nat × Nat)), (∀ i, i < 7 → d ≤ i → sb m i = m) → RP 16 js' (CV ls m d) → ar ≤ js'.length → js'.drop (js'.length - ar) = js.drop (js.length - ar) → WI ls m (d + 1) (upd g d (nI js'.length)) js' := by
    intro ar har hs js' hsb hR har' hdr
    have hlt : ∀ i, i < 7 → (i < d + 1 ∨ sb m i ≠ m) → i < d + 1 := by
      intro i hi q
      rcases q with q | q
      · exact q
      · rcases Nat.lt_or_ge i d with z | z
        · omega
        · exact absurd (hsb i hi z) q
    refine ⟨fun i => if i = d then js'.length else s i, fun i j hij hj q => ?_, fun i hi q => ?_⟩
    · have hj2 := hlt j hj q
      by_cases e1 : j = d
      · subst e1
        by_cases e2 : i = j
        · subst e2; exact Nat.le_refl _
        · show (if i = j then _ else s i) ≤ (if j = j then js'.length else s j)
          rw [if_neg e2, if_pos rfl]
          exact Nat.le_trans (hs i (by omega)) har'
      · have e2 : i ≠ d := by omega
        show (if i = d then _ else s i) ≤ (if j = d then _ else s j)
        rw [if_neg e2, if_neg e1]
        exact h1 i j hij hj (Or.inl (by omega))
    · have hi2 := hlt i hi q
      by_cases e1 : i = d
      · subst e1
        show upd g i (nI js'.length) i = nI (if i = i then js'.length else s i) ∧ (if i = i then js'.length else s i) ≤ js'.length ∧ RP 16 (js'.drop (js'.length - (if i = i then js'.length else s i))) _
        rw [if_pos rfl, Nat.sub_self]
        exact ⟨by simp [upd], Nat.le_refl _, hR⟩
      · show upd g d (nI js'.length) i = nI (if i = d then js'.length else s i) ∧ (if i = d then js'.length else s i) ≤ js'.length ∧ RP 16 (js'.drop (js'.length - (if i = d then js'.length else s i))) _
        rw [if_neg e1]
        obtain ⟨z1, z2, z3⟩ := h2 i hi (Or.inl (by omega))
        have hsi := hs i (by omega)
        refine ⟨by simp [upd, e1, z1], by omega, ?_⟩
        have e2 : js'.drop (js'.length - s i) = js.drop (js.length - s i) := by
          have a1 : js'.length - s i = (js'.length - ar) + (ar - s i) := by omega
          have a2 : js.length - s i = (js.length - ar) + (ar - s i) := by omega
          rw [a1, a2, ← List.drop_drop, ← List.drop_drop, hdr]
        rw [e2]; exact z3
  cases d with
  | zero =>
    refine ⟨0, Nat.zero_le _, fun _ => rfl, fun z => absurd z (Nat.lt_irrefl 0), ?_, fin 0 (Nat.zero_le _) (fun i hi => absurd hi (Nat.not_lt_zero _))⟩
    rw [Nat.sub_zero, List.drop_length]
    exact RP.nil 16
  | succ d =>
    obtain ⟨z1, z2, z3⟩ := h2 d (by omega) (Or.inl (Nat.lt_succ_self d))
    exact ⟨s d, z2, fun z => absurd z (Nat.succ_ne_zero d), fun _ => z1, z3, fin (s d) z2 (fun i hi => h1 i d (by omega) (by omega) (Or.inl (Nat.lt_succ_self d)))⟩
theorem l1_X0_goAll {m la ma c0 : Nat} (hm : m < 64) (hA0 : LA h b ls) (hd : b + 5 ≤ a ∨ a + 6 ≤ b) (hc0 : c0 ≤ 16)
    (K : ∀ h1 js y1 y2 g', Fr a (a + 6) h h1 → HR h1 a y1 y2 (nI (la + sp1 (lcN ls) m)) (nI (ma + sp1 (mdN ls) m)) (nI (mxA c0 (atB (stN ls) m) 7)) g' → JA h1 (a + 1) 16 js → WI ls m 7 g' js → J m_X0_goAll 4 0 0 0 0 97 [some (.ref a), some (.ref b), some (.int (nI m)), some (.int (nI 7))] [] h1 Q) :
    ∀ (t d : Nat) (h1 : g_H) (js : List (Nat × Nat)) (y1 y2 : Int32) (g' : Nat → Int32), 7 - d < t → d ≤ 7 → Fr a (a + 6) h h1 → HR h1 a y1 y2 (nI (la + sumN (atB (lcN ls) m) d)) (nI (ma + sumN (atB (mdN ls) m) d)) (nI (mxA c0 (atB (stN ls) m) d)) g' → JA h1 (a + 1) 16 js → WI ls m d g' js → J m_X0_goAll 4 0 0 0 0 25 [some (.ref a), some (.ref b), some (.int (nI m)), some (.int (nI d))] [] h1 Q := by
  intro t
  induction t with
  | zero => intro d h1 js y1 y2 g' ht; omega
  | succ t ih =>
    intro d h1 js y1 y2 g' ht hdd hF hP hJ hI
    have hA := hA0.fr hF (by omega)
    have hn := hA.len
    have hO := hA.ok
    have hsb := sb_le m d
    have hst : ∀ m d, stN ls m d ≤ 16 := fun m d => Nat.sub_le _ _
    have hmx := mxA_le hc0 (fun k => atB_le hst m k) d
    refine J_iload_n dX0_goAll_25 rfl ?_
    refine J_bipush (x := 6) dX0_goAll_26 (by decide) ?_
    refine J_icmp_gt (tgt := 97) dX0_goAll_28 (by decide) (fun c28 => ?_) (fun c28 => ?_)
    · have c28 : nI 6 < nI d := c28
      rw [nI_ltI (by omega) (by omega)] at c28
      obtain rfl : d = 7 := by omega
      exact K h1 js _ _ _ hF hP hJ hI
    · have c28 : d < 7 := by
        have c28 : ¬ nI 6 < nI d := c28
        rw [nI_ltI (by omega) (by omega)] at c28; omega
      refine J_iload_n dX0_goAll_31 rfl ?_
      refine J_iload_n dX0_goAll_32 rfl ?_
      refine J_callSN (As := [_, _]) (rest := []) (M' := m_X6_spanBegin) dX0_goAll_33 ml_RX0_40 gm_X6_spanBegin sm_yX6_spanBegin rfl rfl (Nat.le_of_ble_eq_true rfl) (by decide) ⟨rfl, rfl, by decide, by decide⟩ (s_X6_spanBegin hm c28 (fun r hr => ?_))
      subst hr
      refine J_iload_n dX0_goAll_36 rfl ?_
      refine J_icmp_ne (tgt := 91) dX0_goAll_37 (by decide) (fun c37 => ?_) (fun c37 => ?_)
      · refine J_iinc (L' := [_, _, _, _]) dX0_goAll_91 rfl (nI_i1 d) (by decide) rfl ?_
        refine J_goto (tgt := 25) dX0_goAll_94 (by decide) ?_
        have c37 : sb m d ≠ m := fun q => c37 (by rw [q])
        have z : ∀ f : Nat → Nat → Nat, atB f m d = 0 := fun f => if_neg c37
        exact ih (d + 1) h1 js _ _ _ (by omega) (by omega) hF (by
          show HR h1 a y1 y2 (nI (la + (sumN (atB (lcN ls) m) d + atB (lcN ls) m d))) (nI (ma + (sumN (atB (mdN ls) m) d + atB (mdN ls) m d))) (nI (if mxA c0 (atB (stN ls) m) d < atB (stN ls) m d then atB (stN ls) m d else mxA c0 (atB (stN ls) m) d)) g'
          rw [z, z, z, if_neg (Nat.not_lt_zero _)]; exact hP) hJ (hI.skip c37)
      · have c37 := (nI_eq (by omega) (by omega)).mp c37
        obtain ⟨ar, k1, k2, k3, k4, k5⟩ := hI.ar c28
        have hlen := RP.len (WJ.drop (js.length - ar) hJ.w) k4
        rw [List.length_drop] at hlen
        refine J_aload_n dX0_goAll_40 rfl ?_
        refine J_aload_n dX0_goAll_41 rfl ?_
        refine J_iload_n dX0_goAll_42 rfl ?_
        refine J_iload_n dX0_goAll_43 rfl ?_
        refine J_callV (As := [_, _, _]) (rest := []) (M' := m_X0_joinLaid) dX0_goAll_44 ml_RX0_44 gm_X0_joinLaid gv_X0_joinLaid hP.o hP.bo rfl rfl rfl (Nat.le_of_ble_eq_true rfl) (by decide) ⟨rfl, rfl, by decide, by decide⟩ (s_X0_joinLaid (s := m) (d := d) (ar := ar) (E0 := CU ls m d) hm c28 (CU_lt hO) hA hd hP hJ k1 k2 k3 k4 (fun h2 js2 hF2 hP2 hJ2 hR2 har2 hdr2 => ?_))
        have hR3 := hR2.set (fun e => (by rw [← CV_ld hm c28 e, c37] : _ ↔ e ∈ CV ls m d))
        have hlen2 := RP.len hJ2.w hR3
        have hI2 := k5 js2 (sb_f3 m hm d c28 c37) hR3 har2 hdr2
        have eL : lcN ls m d = ls.countP (ldB m d) := by unfold lcN; rw [c37]
        have eM : mdN ls m d = js2.length - ar := by unfold mdN pU pS; omega
        have eS : stN ls m d = js2.length := by unfold stN pS; omega
        rw [← eL, ← eM] at hP2
        replace hP := hP2
        replace hJ := hJ2
        refine J_aload_n dX0_goAll_47 rfl ?_
        refine J_dup dX0_goAll_48 rfl ?_
        refine J_get (k := 4) dX0_goAll_49 gc_0 fl_RX0_34 (by decide) hP.o hP.bo rfl ?_
        refine J_aload_n dX0_goAll_52 rfl ?_
        refine J_get (k := 2) dX0_goAll_53 gc_0 fl_RX0_24 (by decide) hP.o hP.bo rfl ?_
        refine J_iadd dX0_goAll_56 ?_
        rw [nI_add]
        refine J_put (k := 4) dX0_goAll_57 gc_0 fl_RX0_34 (by decide) rfl hP.o hP.bo (Nat.le_of_ble_eq_true rfl) (fun _ => ⟨rfl, rfl⟩) rfl ?_
        replace hP := hP.so (nI (lcN ls m d)) (nI (mdN ls m d)) (nI (la + sumN (atB (lcN ls) m) d + lcN ls m d)) (nI (ma + sumN (atB (mdN ls) m) d)) (nI (mxA c0 (atB (stN ls) m) d))
        replace hJ := hJ.fr (up_fr h2 a (.inr (0, [.ref (a + 1), .ref (a + 5), .int (nI (lcN ls m d)), .int (nI (mdN ls m d)), .int (nI (la + sumN (atB (lcN ls) m) d + lcN ls m d)), .int (nI (ma + sumN (atB (mdN ls) m) d)), .int (nI (mxA c0 (atB (stN ls) m) d))]))) (by omega)
        refine J_aload_n dX0_goAll_60 rfl ?_
        refine J_dup dX0_goAll_61 rfl ?_
        refine J_get (k := 5) dX0_goAll_62 gc_0 fl_RX0_31 (by decide) hP.o hP.bo rfl ?_
        refine J_aload_n dX0_goAll_65 rfl ?_
        refine J_get (k := 3) dX0_goAll_66 gc_0 fl_RX0_28 (by decide) hP.o hP.bo rfl ?_
        refine J_iadd dX0_goAll_69 ?_
        rw [nI_add]
        refine J_put (k := 5) dX0_goAll_70 gc_0 fl_RX0_31 (by decide) rfl hP.o hP.bo (Nat.le_of_ble_eq_true rfl) (fun _ => ⟨rfl, rfl⟩) rfl ?_
        replace hP := hP.so (nI (lcN ls m d)) (nI (mdN ls m d)) (nI (la + sumN (atB (lcN ls) m) d + lcN ls m d)) (nI (ma + sumN (atB (mdN ls) m) d + mdN ls m d)) (nI (mxA c0 (atB (stN ls) m) d))
        replace hJ := hJ.fr (up_fr _ a (.inr (0, [.ref (a + 1), .ref (a + 5), .int (nI (lcN ls m d)), .int (nI (mdN ls m d)), .int (nI (la + sumN (atB (lcN ls) m) d + lcN ls m d)), .int (nI (ma + sumN (atB (mdN ls) m) d + mdN ls m d)), .int (nI (mxA c0 (atB (stN ls) m) d))]))) (by omega)
        refine J_aload_n dX0_goAll_73 rfl ?_
        refine J_aload_n dX0_goAll_74 rfl ?_
        refine J_get (k := 6) dX0_goAll_75 gc_0 fl_RX0_37 (by decide) hP.o hP.bo rfl ?_
        refine J_aload_n dX0_goAll_78 rfl ?_
        refine J_get (k := 0) dX0_goAll_79 gc_0 fl_RX0_14 (by decide) hP.o hP.bo rfl ?_
        refine J_callV (As := []) (rest := [_, _]) (M' := m_X2_standing) dX0_goAll_82 ml_RX0_48 gm_X2_standing gv_X2_standing hJ.o hJ.b rfl rfl rfl (Nat.le_of_ble_eq_true rfl) (by decide) ⟨rfl, rfl, by decide, by decide⟩ (s_X2_standing hJ (fun r hr => ?_))
        subst hr
        have hl2 := hJ2.len
        rw [← eS]
        refine J_mmax dX0_goAll_85 ml_RX0_52 gw_max (by decide) (Nat.le_of_ble_eq_true rfl) ⟨Nat.le_refl _, Nat.le_refl _⟩ ?_
        rw [nI_max (by omega) (by have := hst m d; omega)]
        refine J_put (k := 6) dX0_goAll_88 gc_0 fl_RX0_37 (by decide) rfl hP.o hP.bo (Nat.le_of_ble_eq_true rfl) (fun _ => ⟨rfl, rfl⟩) rfl ?_
        replace hP := hP.so (nI (lcN ls m d)) (nI (mdN ls m d)) (nI (la + sumN (atB (lcN ls) m) d + lcN ls m d)) (nI (ma + sumN (atB (mdN ls) m) d + mdN ls m d)) (nI (if mxA c0 (atB (stN ls) m) d < stN ls m d then stN ls m d else mxA c0 (atB (stN ls) m) d))
        replace hJ := hJ.fr (up_fr _ a (.inr (0, [.ref (a + 1), .ref (a + 5), .int (nI (lcN ls m d)), .int (nI (mdN ls m d)), .int (nI (la + sumN (atB (lcN ls) m) d + lcN ls m d)), .int (nI (ma + sumN (atB (mdN ls) m) d + mdN ls m d)), .int (nI (if mxA c0 (atB (stN ls) m) d < stN ls m d then stN ls m d else mxA c0 (atB (stN ls) m) d))]))) (by omega)
        refine J_iinc (L' := [_, _, _, _]) dX0_goAll_91 rfl (nI_i1 d) (by decide) rfl ?_
        refine J_goto (tgt := 25) dX0_goAll_94 (by decide) ?_
        have z : ∀ f : Nat → Nat → Nat, atB f m d = f m d := fun f => if_pos c37
        exact ih (d + 1) _ js2 _ _ _ (by omega) (by omega) ((((hF.tr hF2).up (by omega) (by omega)).up (by omega) (by omega)).up (by omega) (by omega)) (by
          show HR _ a _ _ (nI (la + (sumN (atB (lcN ls) m) d + atB (lcN ls) m d))) (nI (ma + (sumN (atB (mdN ls) m) d + atB (mdN ls) m d))) (nI (if mxA c0 (atB (stN ls) m) d < atB (stN ls) m d then atB (stN ls) m d else mxA c0 (atB (stN ls) m) d)) _
          rw [z, z, z, ← Nat.add_assoc, ← Nat.add_assoc]; exact hP) hJ hI2
theorem l2_X0_goAll (hA0 : LA h b ls) (hd : b + 5 ≤ a ∨ a + 6 ≤ b)
    (hQ : ∀ h' js y1 y2 g', Fr a (a + 6) h h' → HR h' a y1 y2 (nI (sp2 (lcN ls))) (nI (sp2 (mdN ls))) (nI (mx2 (stN ls) 64)) g' → JA h' (a + 1) 16 js → Q none h') :
    ∀ (t m : Nat) (h1 : g_H) (js : List (Nat × Nat)) (y1 y2 : Int32) (g' : Nat → Int32), 64 - m < t → m ≤ 64 → Fr a (a + 6) h h1 → HR h1 a y1 y2 (nI (sumN (sp1 (lcN ls)) m)) (nI (sumN (sp1 (mdN ls)) m)) (nI (mx2 (stN ls) m)) g' → JA h1 (a + 1) 16 js → (m < 64 → WI ls m 0 g' js) → J m_X0_goAll 4 0 0 0 0 17 [some (.ref a), some (.ref b), some (.int (nI m)), none] [] h1 Q := by
  intro t
  induction t with
  | zero => intro m h1 js y1 y2 g' ht; omega
  | succ t ih =>
    intro m h1 js y1 y2 g' ht hm hF hP hJ hI
    refine J_iload_n dX0_goAll_17 rfl ?_
    refine J_bipush (x := 64) dX0_goAll_18 (by decide) ?_
    refine J_icmp_ge (tgt := 103) dX0_goAll_20 (by decide) (fun c20 => ?_) (fun c20 => ?_)
    · exact J_vret dX0_goAll_103 rfl ⟨rfl, Nat.le_refl _⟩ (by
      have c20 := (nI_leI (a := 64) (b := m) (by omega) (by omega)).mp c20
      have e : m = 64 := by omega
      subst e; exact hQ h1 js _ _ _ hF hP hJ)
    · have c20 : m < 64 := Nat.not_le.mp (fun q => c20 ((nI_leI (a := 64) (b := m) (by omega) (by omega)).mpr q))
      refine J_iconst (x := 0) dX0_goAll_23 (by decide) ?_
      refine J_istore_n (L' := [_, _, _, _]) dX0_goAll_24 (by decide) rfl ?_
      refine l1_X0_goAll (h := h1) c20 (hA0.fr hF (by omega)) hd (mx2_le (f := stN ls) (fun m d => Nat.sub_le _ _) m) (fun h2 js2 y3 y4 g2 hF2 hP2 hJ2 hI2 => ?_) 8 0 h1 js y1 y2 g' (by omega) (by omega) Fr.rf hP hJ (hI c20)
      refine J_iinc dX0_goAll_97 rfl (nI_i1 m) (by decide) rfl ?_
      refine J_goto (tgt := 17) dX0_goAll_100 (by decide) ?_
      refine J_drop [3] rfl ?_
      exact ih (m + 1) h2 js2 _ _ _ (by omega) (by omega) (hF.tr hF2) hP2 hJ2 (fun q => hI2.next (by omega))
theorem s_X0_goAll (hA : LA h b ls) (hd : b + 5 ≤ a ∨ a + 6 ≤ b) (hP : HR h a x1 x2 x3 x4 x5 g) (hJ : JA h (a + 1) 16 js)
    (hQ : ∀ h' js y1 y2 g', Fr a (a + 6) h h' → HR h' a y1 y2 (nI (sp2 (lcN ls))) (nI (sp2 (mdN ls))) (nI (mx2 (stN ls) 64)) g' → JA h' (a + 1) 16 js → Q none h') : MJ m_X0_goAll 4 0 0 [.ref a, .ref b] h Q := by
  refine MJ_of_J (L := [some (.ref a), some (.ref b), none, none]) (by decide +kernel) rfl (Nat.le_of_ble_eq_true rfl) rfl ?_
  refine J_aload_n dX0_goAll_0 rfl ?_
  refine J_iconst (x := 0) dX0_goAll_1 (by decide) ?_
  refine J_put (k := 4) dX0_goAll_2 gc_0 fl_RX0_34 (by decide) rfl hP.o hP.bo (Nat.le_of_ble_eq_true rfl) (fun _ => ⟨rfl, rfl⟩) rfl ?_
  replace hP := hP.so x1 x2 (nI 0) x4 x5
  replace hJ := hJ.fr (up_fr h a (.inr (0, [.ref (a + 1), .ref (a + 5), .int x1, .int x2, .int (nI 0), .int x4, .int x5]))) (by omega)
  refine J_aload_n dX0_goAll_5 rfl ?_
  refine J_iconst (x := 0) dX0_goAll_6 (by decide) ?_
  refine J_put (k := 5) dX0_goAll_7 gc_0 fl_RX0_31 (by decide) rfl hP.o hP.bo (Nat.le_of_ble_eq_true rfl) (fun _ => ⟨rfl, rfl⟩) rfl ?_
  replace hP := hP.so x1 x2 (nI 0) (nI 0) x5
  replace hJ := hJ.fr (up_fr _ a (.inr (0, [.ref (a + 1), .ref (a + 5), .int x1, .int x2, .int (nI 0), .int (nI 0), .int x5]))) (by omega)
  refine J_aload_n dX0_goAll_10 rfl ?_
  refine J_iconst (x := 0) dX0_goAll_11 (by decide) ?_
  refine J_put (k := 6) dX0_goAll_12 gc_0 fl_RX0_37 (by decide) rfl hP.o hP.bo (Nat.le_of_ble_eq_true rfl) (fun _ => ⟨rfl, rfl⟩) rfl ?_
  replace hP := hP.so x1 x2 (nI 0) (nI 0) (nI 0)
  replace hJ := hJ.fr (up_fr _ a (.inr (0, [.ref (a + 1), .ref (a + 5), .int x1, .int x2, .int (nI 0), .int (nI 0), .int (nI 0)]))) (by omega)
  refine J_iconst (x := 0) dX0_goAll_15 (by decide) ?_
  refine J_istore_n (L' := [_, _, _, _]) dX0_goAll_16 (by decide) rfl ?_
  exact l2_X0_goAll hA hd hQ 65 0 _ js _ _ _ (by omega) (by omega) (((Fr.rf.up (by omega) (by omega)).up (by omega) (by omega)).up (by omega) (by omega)) hP hJ (fun _ => WI.first ls g js)
end SWay2
