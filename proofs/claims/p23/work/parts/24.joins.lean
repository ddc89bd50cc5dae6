/-! the picture of a Joinings object -/
def JR (h : g_H) (a N : Nat) (s : Int32) (f1 f2 f3 : Nat → Int32) : Prop := (1 ≤ a ∧ a + 3 ≤ h.2) ∧ h.1 a = .inr (2, [.ref (a + 1), .ref (a + 2), .ref (a + 3), .int s]) ∧ h.1 (a + 1) = .inl (0, N, .inl f1) ∧ h.1 (a + 2) = .inl (0, N, .inl f2) ∧ h.1 (a + 3) = .inl (0, N, .inl f3)
section JRs
variable {h h' : g_H} {a N : Nat} {s : Int32} {f1 f2 f3 : Nat → Int32}
theorem JR.o (p : JR h a N s f1 f2 f3) : h.1 a = .inr (2, [.ref (a + 1), .ref (a + 2), .ref (a + 3), .int s]) := p.2.1
theorem JR.b (p : JR h a N s f1 f2 f3) : 1 ≤ a ∧ a ≤ h.2 := ⟨p.1.1, by have := p.1.2; omega⟩
theorem JR.c1 (p : JR h a N s f1 f2 f3) : h.1 (a + 1) = .inl (0, N, .inl f1) := p.2.2.1
theorem JR.c2 (p : JR h a N s f1 f2 f3) : h.1 (a + 2) = .inl (0, N, .inl f2) := p.2.2.2.1
theorem JR.c3 (p : JR h a N s f1 f2 f3) : h.1 (a + 3) = .inl (0, N, .inl f3) := p.2.2.2.2
theorem JR.b1 (p : JR h a N s f1 f2 f3) : 1 ≤ a + 1 ∧ a + 1 ≤ h.2 := ⟨by omega, by have := p.1.2; omega⟩
theorem JR.b2 (p : JR h a N s f1 f2 f3) : 1 ≤ a + 2 ∧ a + 2 ≤ h.2 := ⟨by omega, by have := p.1.2; omega⟩
theorem JR.b3 (p : JR h a N s f1 f2 f3) : 1 ≤ a + 3 ∧ a + 3 ≤ h.2 := ⟨by omega, by have := p.1.2; omega⟩
theorem JR.fr {lo hi : Nat} (p : JR h a N s f1 f2 f3) (F : Fr lo hi h h') (q : a + 4 ≤ lo ∨ hi ≤ a) : JR h' a N s f1 f2 f3 :=
  ⟨⟨p.1.1, by rw [F.1]; exact p.1.2⟩, (F.2 a (by omega)).trans p.o, (F.2 (a + 1) (by omega)).trans p.c1, (F.2 (a + 2) (by omega)).trans p.c2, (F.2 (a + 3) (by omega)).trans p.c3⟩
theorem JR.s1 (p : JR h a N s f1 f2 f3) (g : Nat → Int32) : JR (g_up h (a + 1) (.inl (0, N, .inl g))) a N s g f2 f3 :=
  ⟨p.1, (g_up_n h _ (by omega)).trans p.o, g_up_s h _ _, (g_up_n h _ (by omega)).trans p.c2, (g_up_n h _ (by omega)).trans p.c3⟩
theorem JR.s2 (p : JR h a N s f1 f2 f3) (g : Nat → Int32) : JR (g_up h (a + 2) (.inl (0, N, .inl g))) a N s f1 g f3 :=
  ⟨p.1, (g_up_n h _ (by omega)).trans p.o, (g_up_n h _ (by omega)).trans p.c1, g_up_s h _ _, (g_up_n h _ (by omega)).trans p.c3⟩
theorem JR.s3 (p : JR h a N s f1 f2 f3) (g : Nat → Int32) : JR (g_up h (a + 3) (.inl (0, N, .inl g))) a N s f1 f2 g :=
  ⟨p.1, (g_up_n h _ (by omega)).trans p.o, (g_up_n h _ (by omega)).trans p.c1, (g_up_n h _ (by omega)).trans p.c2, g_up_s h _ _⟩
theorem JR.sn (p : JR h a N s f1 f2 f3) (m : Int32) : JR (g_up h a (.inr (2, [.ref (a + 1), .ref (a + 2), .ref (a + 3), .int m]))) a N m f1 f2 f3 :=
  ⟨p.1, g_up_s h _ _, (g_up_n h _ (by omega)).trans p.c1, (g_up_n h _ (by omega)).trans p.c2, (g_up_n h _ (by omega)).trans p.c3⟩
end JRs
/-- what the arrays hold -/
def JV (N : Nat) (js : List (Nat × Nat)) (f1 f2 f3 : Nat → Int32) : Prop := (∀ x, x < N → f1 x = nI (ab js x)) ∧ (∀ x, x < N → f2 x = nI (be js x)) ∧ (∀ (i : Nat) (p : Nat × Nat), js.reverse[i]? = some p → f3 i = nI p.1)
def JA (h : g_H) (a N : Nat) (js : List (Nat × Nat)) : Prop := ∃ f1 f2 f3 : Nat → Int32, JR h a N (nI js.length) f1 f2 f3 ∧ JV N js f1 f2 f3 ∧ WJ N js ∧ js.length ≤ N ∧ N ≤ 32
theorem JA.fr {h h' : g_H} {a N lo hi : Nat} {js : List (Nat × Nat)} (p : JA h a N js) (F : Fr lo hi h h') (q : a + 4 ≤ lo ∨ hi ≤ a) : JA h' a N js := by
  obtain ⟨f1, f2, f3, p1, p2⟩ := p
  exact ⟨f1, f2, f3, p1.fr F q, p2⟩
theorem JA.o {h : g_H} {a N : Nat} {js : List (Nat × Nat)} (p : JA h a N js) : h.1 a = .inr (2, [.ref (a + 1), .ref (a + 2), .ref (a + 3), .int (nI js.length)]) := by
  obtain ⟨f1, f2, f3, p1, p2⟩ := p
  exact p1.o
theorem JA.b {h : g_H} {a N : Nat} {js : List (Nat × Nat)} (p : JA h a N js) : 1 ≤ a ∧ a ≤ h.2 := by
  obtain ⟨f1, f2, f3, p1, p2⟩ := p
  exact p1.b
theorem JA.w {h : g_H} {a N : Nat} {js : List (Nat × Nat)} (p : JA h a N js) : WJ N js := by
  obtain ⟨f1, f2, f3, p1, p2, p3, p4⟩ := p
  exact p3
theorem JA.len {h : g_H} {a N : Nat} {js : List (Nat × Nat)} (p : JA h a N js) : js.length ≤ N ∧ N ≤ 32 := by
  obtain ⟨f1, f2, f3, p1, p2, p3, p4⟩ := p
  exact p4
section SJoins
variable {h : g_H} {a N : Nat} {js : List (Nat × Nat)} {Q : Option Value → g_H → Prop}
theorem s_X2_standing (hA : JA h a N js) (hQ : ∀ r, r = nI js.length → Q (some (.int r)) h) : MJ m_X2_standing 0 0 0 [.ref a] h Q := by
  obtain ⟨f1, f2, f3, hP, ⟨v1, v2, v3⟩, hW, hl, hN⟩ := hA
  refine MJ_of_J (L := [some (.ref a)]) (by decide +kernel) rfl (Nat.le_of_ble_eq_true rfl) rfl ?_
  refine J_aload_n dX2_standing_0 rfl ?_
  refine J_get (k := 3) dX2_standing_1 gc_2 fl_RX2_25 (by decide) hP.o hP.b rfl ?_
  exact J_iret dX2_standing_4 rfl ⟨rfl, Nat.le_refl _⟩ (hQ _ rfl)
theorem s_X2_has {s : Int32} {f1 f2 f3 : Nat → Int32} {x : Int32} (hP : JR h a N s f1 f2 f3) (hN : N ≤ 32) (hQ : ∀ r, r = bI (IX x N) → Q (some (.int r)) h) : MJ m_X2_has 0 0 0 [.ref a, .int x] h Q := by
  refine MJ_of_J (L := [some (.ref a), some (.int x)]) (by decide +kernel) rfl (Nat.le_of_ble_eq_true rfl) rfl ?_
  refine J_iload_n dX2_has_0 rfl ?_
  refine J_if_lt (tgt := 17) dX2_has_1 (by decide) (fun c1 => ?_) (fun c1 => ?_)
  · refine J_iconst (x := 0) dX2_has_17 (by decide) ?_
    exact J_zret dX2_has_18 rfl (by first | exact Or.inl rfl | exact Or.inr rfl) ⟨rfl, Nat.le_refl _⟩ (hQ _ (bI_f (IX_n0 (by omega) c1)).symm)
  · refine J_iload_n dX2_has_4 rfl ?_
    refine J_aload_n dX2_has_5 rfl ?_
    refine J_get (k := 0) dX2_has_6 gc_2 fl_RX2_13 (by decide) hP.o hP.b rfl ?_
    refine J_alen dX2_has_9 hP.c1 (by decide) hP.b1 rfl ?_
    refine J_icmp_ge (tgt := 17) dX2_has_10 (by decide) (fun c10 => ?_) (fun c10 => ?_)
    · refine J_iconst (x := 0) dX2_has_17 (by decide) ?_
      exact J_zret dX2_has_18 rfl (by first | exact Or.inl rfl | exact Or.inr rfl) ⟨rfl, Nat.le_refl _⟩ (hQ _ (bI_f (IX_nn (by omega) c10)).symm)
    · refine J_iconst (x := 1) dX2_has_13 (by decide) ?_
      refine J_goto (tgt := 18) dX2_has_14 (by decide) ?_
      exact J_zret dX2_has_18 rfl (by first | exact Or.inl rfl | exact Or.inr rfl) ⟨rfl, Nat.le_refl _⟩ (hQ _ (bI_t (IX_of (by omega) c1 c10)).symm)
theorem l_X2_topOf {x : Nat} (hA : JA h a N js) (hx : x < N) (hQ : ∀ r, r = nI (rt js x) → Q (some (.int r)) h) : ∀ (n k t : Nat), N - k < n → k ≤ N → t < N → rt js t = rt js x → dp js t + k ≤ N → J m_X2_topOf 1 0 0 0 0 4 [some (.ref a), some (.int (nI x)), some (.int (nI t)), some (.int (nI k))] [] h Q := by
  intro n
  induction n with
  | zero => intro k t ht; omega
  | succ n ih =>
    intro k t ht hk htN hr hd
    have hA0 := hA
    obtain ⟨f1, f2, f3, hP, ⟨v1, v2, v3⟩, hW, hl, hN⟩ := hA
    have hab := ab_lt hW htN
    refine J_iload_n dX2_topOf_4 rfl ?_
    refine J_aload_n dX2_topOf_5 rfl ?_
    refine J_get (k := 0) dX2_topOf_6 gc_2 fl_RX2_13 (by decide) hP.o hP.b rfl ?_
    refine J_alen dX2_topOf_9 hP.c1 (by decide) hP.b1 rfl ?_
    refine J_icmp_ge (tgt := 44) dX2_topOf_10 (by decide) (fun c10 => ?_) (fun c10 => ?_)
    · refine J_iload_n dX2_topOf_44 rfl ?_
      exact J_iret dX2_topOf_45 rfl ⟨rfl, Nat.le_refl _⟩ (hQ _ (by have c10 := (nI_leI (by omega) (by omega)).mp c10; have h0 : ab js t = t := Classical.not_not.mp (fun q => by have := dp_s hW q; omega); rw [← hr, rt_root hW h0]))
    · refine J_aload_n dX2_topOf_13 rfl ?_
      refine J_iload_n dX2_topOf_14 rfl ?_
      refine J_callV (As := [_]) (rest := []) (M' := m_X2_has) dX2_topOf_15 ml_RX2_29 gm_X2_has gv_X2_has hP.o hP.b rfl rfl rfl (Nat.le_of_ble_eq_true rfl) (by decide) ⟨rfl, rfl, by decide, by decide⟩ (s_X2_has hP hN (fun r1 hr1 => ?_))
      refine J_if_eq (tgt := 44) dX2_topOf_18 (by decide) (fun c18 => absurd ⟨t, htN, rfl⟩ ((bI_0 hr1).mp c18)) (fun c18 => ?_)
      refine J_aload_n dX2_topOf_21 rfl ?_
      refine J_get (k := 0) dX2_topOf_22 gc_2 fl_RX2_13 (by decide) hP.o hP.b rfl ?_
      refine J_iload_n dX2_topOf_25 rfl ?_
      refine J_iald dX2_topOf_26 hP.c1 hP.b1 (vp_in_nI htN (by omega)) ?_
      refine J_iload_n dX2_topOf_27 rfl ?_
      refine J_icmp_eq (tgt := 44) dX2_topOf_28 (by decide) (fun c28 => ?_) (fun c28 => ?_)
      · refine J_iload_n dX2_topOf_44 rfl ?_
        exact J_iret dX2_topOf_45 rfl ⟨rfl, Nat.le_refl _⟩ (hQ _ (by rw [nI_clamp (n := t) (by omega), v1 t htN, nI_eq (by omega) (by omega)] at c28; rw [← hr, rt_root hW c28]))
      · refine J_aload_n dX2_topOf_31 rfl ?_
        refine J_get (k := 0) dX2_topOf_32 gc_2 fl_RX2_13 (by decide) hP.o hP.b rfl ?_
        refine J_iload_n dX2_topOf_35 rfl ?_
        refine J_iald dX2_topOf_36 hP.c1 hP.b1 (vp_in_nI htN (by omega)) ?_
        rw [nI_clamp (n := t) (by omega), v1 t htN]
        refine J_istore_n (L' := [_, _, _, _]) dX2_topOf_37 (by decide) rfl ?_
        refine J_iinc (L' := [_, _, _, _]) dX2_topOf_38 rfl (nI_i1 k) (by decide) rfl ?_
        refine J_goto (tgt := 4) dX2_topOf_41 (by decide) ?_
        have c28 : ab js t ≠ t := by
          rw [nI_clamp (n := t) (by omega), v1 t htN, nI_eq (by omega) (by omega)] at c28
          exact c28
        have hs := dp_s hW c28
        exact ih (k + 1) _ (by have c10 : ¬ N ≤ k := fun q => c10 ((nI_leI (by omega) (by omega)).mpr q); omega) (by have c10 : ¬ N ≤ k := fun q => c10 ((nI_leI (by omega) (by omega)).mpr q); omega) hab ((rt_step hW t).trans hr) (by omega)
theorem s_X2_topOf {x : Nat} (hA : JA h a N js) (hx : x < N) (hQ : ∀ r, r = nI (rt js x) → Q (some (.int r)) h) : MJ m_X2_topOf 1 0 0 [.ref a, .int (nI x)] h Q := by
  have hl := hA.len
  refine MJ_of_J (L := [some (.ref a), some (.int (nI x)), none, none]) (by decide +kernel) rfl (Nat.le_of_ble_eq_true rfl) rfl ?_
  refine J_iload_n dX2_topOf_0 rfl ?_
  refine J_istore_n (L' := [_, _, _, _]) dX2_topOf_1 (by decide) rfl ?_
  refine J_iconst (x := 0) dX2_topOf_2 (by decide) ?_
  refine J_istore_n (L' := [_, _, _, _]) dX2_topOf_3 (by decide) rfl ?_
  exact l_X2_topOf hA hx hQ (N + 1) 0 x (by omega) (by omega) hx rfl (by have := dp_le js x; omega)
theorem s_X2_areJoined {x y : Nat} (hA : JA h a N js) (hx : x < N) (hy : y < N) (hQ : ∀ r, r = bI (rt js x = rt js y) → Q (some (.int r)) h) : MJ m_X2_areJoined 2 0 0 [.ref a, .int (nI x), .int (nI y)] h Q := by
  have hl := hA.len
  have r1 := rt_lt hA.w hx
  have r2 := rt_lt hA.w hy
  refine MJ_of_J (L := [some (.ref a), some (.int (nI x)), some (.int (nI y))]) (by decide +kernel) rfl (Nat.le_of_ble_eq_true rfl) rfl ?_
  refine J_aload_n dX2_areJoined_0 rfl ?_
  refine J_iload_n dX2_areJoined_1 rfl ?_
  refine J_callV (As := [_]) (rest := []) (M' := m_X2_topOf) dX2_areJoined_2 ml_RX2_33 gm_X2_topOf gv_X2_topOf hA.o hA.b rfl rfl rfl (Nat.le_of_ble_eq_true rfl) (by decide) ⟨rfl, rfl, by decide, by decide⟩ (s_X2_topOf hA hx (fun r hr => ?_))
  subst hr
  refine J_aload_n dX2_areJoined_5 rfl ?_
  refine J_iload_n dX2_areJoined_6 rfl ?_
  refine J_callV (As := [_]) (rest := [_]) (M' := m_X2_topOf) dX2_areJoined_7 ml_RX2_33 gm_X2_topOf gv_X2_topOf hA.o hA.b rfl rfl rfl (Nat.le_of_ble_eq_true rfl) (by decide) ⟨rfl, rfl, by decide, by decide⟩ (s_X2_topOf hA hy (fun r hr => ?_))
  subst hr
  refine J_icmp_ne (tgt := 17) dX2_areJoined_10 (by decide) (fun c10 => ?_) (fun c10 => ?_)
  · refine J_iconst (x := 0) dX2_areJoined_17 (by decide) ?_
    exact J_zret dX2_areJoined_18 rfl (by first | exact Or.inl rfl | exact Or.inr rfl) ⟨rfl, Nat.le_refl _⟩ (hQ _ (bI_f (fun q => c10 (by rw [q]))).symm)
  · refine J_iconst (x := 1) dX2_areJoined_13 (by decide) ?_
    refine J_goto (tgt := 18) dX2_areJoined_14 (by decide) ?_
    exact J_zret dX2_areJoined_18 rfl (by first | exact Or.inl rfl | exact Or.inr rfl) ⟨rfl, Nat.le_refl _⟩ (hQ _ (bI_t ((nI_eq (by omega) (by omega)).mp c10)).symm)
theorem s_X2_partSize {x : Nat} (hA : JA h a N js) (hx : x < N) (hQ : ∀ r, r = nI (sumN (fun y => oneI (rt js y = rt js x)) N) → Q (some (.int r)) h) : MJ m_X2_partSize 2 0 0 [.ref a, .int (nI x)] h Q := by
  have hA0 := hA
  have r1 := rt_lt hA.w hx
  obtain ⟨f1, f2, f3, hP, ⟨v1, v2, v3⟩, hW, hl, hN⟩ := hA
  refine MJ_of_J (L := [some (.ref a), some (.int (nI x)), none]) (by decide +kernel) rfl (Nat.le_of_ble_eq_true rfl) rfl ?_
  refine J_aload_n dX2_partSize_0 rfl ?_
  refine J_iload_n dX2_partSize_1 rfl ?_
  refine J_callV (As := [_]) (rest := []) (M' := m_X2_topOf) dX2_partSize_2 ml_RX2_33 gm_X2_topOf gv_X2_topOf hP.o hP.b rfl rfl rfl (Nat.le_of_ble_eq_true rfl) (by decide) ⟨rfl, rfl, by decide, by decide⟩ (s_X2_topOf hA0 hx (fun r hr => ?_))
  subst hr
  refine J_istore_n (L' := [_, _, _]) dX2_partSize_5 (by decide) rfl ?_
  refine J_aload_n dX2_partSize_6 rfl ?_
  refine J_iload_n dX2_partSize_7 rfl ?_
  refine J_callV (As := [_]) (rest := []) (M' := m_X2_has) dX2_partSize_8 ml_RX2_29 gm_X2_has gv_X2_has hP.o hP.b rfl rfl rfl (Nat.le_of_ble_eq_true rfl) (by decide) ⟨rfl, rfl, by decide, by decide⟩ (s_X2_has hP hN (fun r hr => ?_))
  refine J_if_eq (tgt := 23) dX2_partSize_11 (by decide) (fun c11 => absurd ⟨_, r1, rfl⟩ ((bI_0 hr).mp c11)) (fun c11 => ?_)
  refine J_aload_n dX2_partSize_14 rfl ?_
  refine J_get (k := 1) dX2_partSize_15 gc_2 fl_RX2_19 (by decide) hP.o hP.b rfl ?_
  refine J_iload_n dX2_partSize_18 rfl ?_
  refine J_iald dX2_partSize_19 hP.c2 hP.b2 (vp_in_nI r1 (by omega)) ?_
  refine J_goto (tgt := 24) dX2_partSize_20 (by decide) ?_
  exact J_iret dX2_partSize_24 rfl ⟨rfl, Nat.le_refl _⟩ (hQ _ (by rw [nI_clamp (by omega), v2 _ r1, be_cnt hW (rt_ab hW x) r1]))
theorem JV.push {f1 f2 f3 : Nat → Int32} {l t : Nat} (hl : l < N) (ht : t < N) (v1 : ∀ x, x < N → f1 x = nI (ab js x)) (v2 : ∀ x, x < N → f2 x = nI (be js x)) (v3 : ∀ (i : Nat) (p : Nat × Nat), js.reverse[i]? = some p → f3 i = nI p.1) :
    JV N ((l, t) :: js) (upd f1 l (nI t)) (upd f2 t (f2 t + f2 l)) (upd f3 js.length (nI l)) := by
  refine ⟨fun x hx => ?_, fun x hx => ?_, fun i p hi => ?_⟩
  · show upd f1 l (nI t) x = nI (if x = l then t else ab js x)
    unfold upd
    by_cases e : x = l
    · rw [if_pos e, if_pos e]
    · rw [if_neg e, if_neg e, v1 x hx]
  · show upd f2 t (f2 t + f2 l) x = nI (if x = t then be js t + be js l else be js x)
    unfold upd
    by_cases e : x = t
    · rw [if_pos e, if_pos e, v2 t ht, v2 l hl, nI_add]
    · rw [if_neg e, if_neg e, v2 x hx]
  · unfold upd
    rw [List.reverse_cons] at hi
    by_cases e : i < js.length
    · rw [List.getElem?_append_left (by simpa using e)] at hi
      rw [if_neg (by omega)]
      exact v3 i p hi
    · have e2 : i = js.length := by
        have := get_lt hi
        simp at this
        omega
      subst e2
      rw [List.getElem?_append_right (by simp)] at hi
      simp at hi
      rw [if_pos rfl, ← hi]
theorem s_X2_join {x y : Nat} (hA : JA h a N js) (hx : x < N) (hy : y < N) (hQ : ∀ h' js', Fr a (a + 4) h h' → JA h' a N js' → JN js x y js' → Q none h') : MJ m_X2_join 2 0 0 [.ref a, .int (nI x), .int (nI y)] h Q := by
  have hA0 := hA
  have r1 := rt_lt hA.w hx
  have r2 := rt_lt hA.w hy
  obtain ⟨f1, f2, f3, hP, ⟨v1, v2, v3⟩, hW, hl, hN⟩ := hA
  have fin : ∀ (l t : Nat), ((l = rt js x ∧ t = rt js y) ∨ (l = rt js y ∧ t = rt js x)) → rt js x ≠ rt js y → js.length < N → J m_X2_join 2 0 0 0 0 75 [some (.ref a), some (.int (nI x)), some (.int (nI y)), some (.int (nI t)), some (.int (nI l)), none] [] h Q := by
    intro l t hlt hne hlen
    have hlN : l < N := by rcases hlt with ⟨rfl, -⟩ | ⟨rfl, -⟩ <;> assumption
    have htN : t < N := by rcases hlt with ⟨-, rfl⟩ | ⟨-, rfl⟩ <;> assumption
    have hJ : JN js x y ((l, t) :: js) := Or.inr ⟨hne, l, t, hlt, rfl⟩
    have hv := JV.push hlN htN v1 v2 v3
    refine J_aload_n dX2_join_75 rfl ?_
    refine J_get (k := 0) dX2_join_76 gc_2 fl_RX2_13 (by decide) hP.o hP.b rfl ?_
    refine J_iload dX2_join_79 rfl ?_
    refine J_iload_n dX2_join_81 rfl ?_
    refine J_iast dX2_join_82 hP.c1 hP.b1 (vp_in_nI hlN (by omega)) ?_
    rw [nI_clamp (n := l) (by omega)]
    replace hP := hP.s1 (upd f1 l (nI t))
    refine J_aload_n dX2_join_83 rfl ?_
    refine J_get (k := 1) dX2_join_84 gc_2 fl_RX2_19 (by decide) hP.o hP.b rfl ?_
    refine J_iload_n dX2_join_87 rfl ?_
    refine J_dup2 dX2_join_88 rfl rfl ?_
    refine J_iald dX2_join_89 hP.c2 hP.b2 (vp_in_nI htN (by omega)) ?_
    refine J_aload_n dX2_join_90 rfl ?_
    refine J_get (k := 1) dX2_join_91 gc_2 fl_RX2_19 (by decide) hP.o hP.b rfl ?_
    refine J_iload dX2_join_94 rfl ?_
    refine J_iald dX2_join_96 hP.c2 hP.b2 (vp_in_nI hlN (by omega)) ?_
    refine J_iadd dX2_join_97 ?_
    refine J_iast dX2_join_98 hP.c2 hP.b2 (vp_in_nI htN (by omega)) ?_
    rw [nI_clamp (n := l) (by omega), nI_clamp (n := t) (by omega)]
    replace hP := hP.s2 (upd f2 t (f2 t + f2 l))
    refine J_aload_n dX2_join_99 rfl ?_
    refine J_get (k := 2) dX2_join_100 gc_2 fl_RX2_22 (by decide) hP.o hP.b rfl ?_
    refine J_aload_n dX2_join_103 rfl ?_
    refine J_get (k := 3) dX2_join_104 gc_2 fl_RX2_25 (by decide) hP.o hP.b rfl ?_
    refine J_iload dX2_join_107 rfl ?_
    refine J_iast dX2_join_109 hP.c3 hP.b3 (vp_in_nI hlen (by omega)) ?_
    rw [nI_clamp (n := js.length) (by omega)]
    replace hP := hP.s3 (upd f3 js.length (nI l))
    refine J_aload_n dX2_join_110 rfl ?_
    refine J_dup dX2_join_111 rfl ?_
    refine J_get (k := 3) dX2_join_112 gc_2 fl_RX2_25 (by decide) hP.o hP.b rfl ?_
    refine J_iconst (x := 1) dX2_join_115 (by decide) ?_
    refine J_iadd dX2_join_116 ?_
    rw [nI_1]
    refine J_put (k := 3) dX2_join_117 gc_2 fl_RX2_25 (by decide) rfl hP.o hP.b (Nat.le_of_ble_eq_true rfl) (fun _ => ⟨rfl, rfl⟩) rfl ?_
    replace hP := hP.sn (nI (js.length + 1))
    exact J_vret dX2_join_120 rfl ⟨rfl, Nat.le_refl _⟩ (hQ _ ((l, t) :: js) ((((Fr.rf.up (by omega) (by omega)).up (by omega) (by omega)).up (by omega) (by omega)).up (by omega) (by omega)) ⟨_, _, _, hP, hv, JN.w hW hx hy hJ, hlen, hN⟩ hJ)
  refine MJ_of_J (L := [some (.ref a), some (.int (nI x)), some (.int (nI y)), none, none, none]) (by decide +kernel) rfl (Nat.le_of_ble_eq_true rfl) rfl ?_
  refine J_aload_n dX2_join_0 rfl ?_
  refine J_iload_n dX2_join_1 rfl ?_
  refine J_callV (As := [_]) (rest := []) (M' := m_X2_topOf) dX2_join_2 ml_RX2_33 gm_X2_topOf gv_X2_topOf hP.o hP.b rfl rfl rfl (Nat.le_of_ble_eq_true rfl) (by decide) ⟨rfl, rfl, by decide, by decide⟩ (s_X2_topOf hA0 hx (fun r hr => ?_))
  subst hr
  refine J_istore_n (L' := [_, _, _, _, _, _]) dX2_join_5 (by decide) rfl ?_
  refine J_aload_n dX2_join_6 rfl ?_
  refine J_iload_n dX2_join_7 rfl ?_
  refine J_callV (As := [_]) (rest := []) (M' := m_X2_topOf) dX2_join_8 ml_RX2_33 gm_X2_topOf gv_X2_topOf hP.o hP.b rfl rfl rfl (Nat.le_of_ble_eq_true rfl) (by decide) ⟨rfl, rfl, by decide, by decide⟩ (s_X2_topOf hA0 hy (fun r hr => ?_))
  subst hr
  refine J_istore (L' := [_, _, _, _, _, _]) dX2_join_11 (by decide) rfl ?_
  refine J_aload_n dX2_join_13 rfl ?_
  refine J_iload_n dX2_join_14 rfl ?_
  refine J_callV (As := [_]) (rest := []) (M' := m_X2_has) dX2_join_15 ml_RX2_29 gm_X2_has gv_X2_has hP.o hP.b rfl rfl rfl (Nat.le_of_ble_eq_true rfl) (by decide) ⟨rfl, rfl, by decide, by decide⟩ (s_X2_has hP hN (fun r hr => ?_))
  refine J_if_eq (tgt := 48) dX2_join_18 (by decide) (fun c18 => absurd ⟨_, r1, rfl⟩ ((bI_0 hr).mp c18)) (fun c18 => ?_)
  refine J_aload_n dX2_join_21 rfl ?_
  refine J_iload dX2_join_22 rfl ?_
  refine J_callV (As := [_]) (rest := []) (M' := m_X2_has) dX2_join_24 ml_RX2_29 gm_X2_has gv_X2_has hP.o hP.b rfl rfl rfl (Nat.le_of_ble_eq_true rfl) (by decide) ⟨rfl, rfl, by decide, by decide⟩ (s_X2_has hP hN (fun r0 hr0 => ?_))
  refine J_if_eq (tgt := 48) dX2_join_27 (by decide) (fun c27 => absurd ⟨_, r2, rfl⟩ ((bI_0 hr0).mp c27)) (fun c27 => ?_)
  refine J_iload_n dX2_join_30 rfl ?_
  refine J_iload dX2_join_31 rfl ?_
  refine J_icmp_eq (tgt := 48) dX2_join_33 (by decide) (fun c33 => ?_) (fun c33 => ?_)
  · exact J_vret dX2_join_48 rfl ⟨rfl, Nat.le_refl _⟩ (hQ h js Fr.rf hA0 (Or.inl ⟨(nI_eq (by omega) (by omega)).mp c33, rfl⟩))
  · have c33 : rt js x ≠ rt js y := fun q => c33 (by rw [q])
    have hlen : js.length < N := by have := two_roots hW r1 r2 c33 (rt_ab hW x) (rt_ab hW y); omega
    refine J_aload_n dX2_join_36 rfl ?_
    refine J_get (k := 3) dX2_join_37 gc_2 fl_RX2_25 (by decide) hP.o hP.b rfl ?_
    refine J_aload_n dX2_join_40 rfl ?_
    refine J_get (k := 2) dX2_join_41 gc_2 fl_RX2_22 (by decide) hP.o hP.b rfl ?_
    refine J_alen dX2_join_44 hP.c3 (by decide) hP.b3 rfl ?_
    refine J_icmp_lt (tgt := 49) dX2_join_45 (by decide) (fun c45 => ?_) (fun c45 => absurd ((nI_ltI (by omega) (by omega)).mpr hlen) c45)
    refine J_aload_n dX2_join_49 rfl ?_
    refine J_get (k := 1) dX2_join_50 gc_2 fl_RX2_19 (by decide) hP.o hP.b rfl ?_
    refine J_iload_n dX2_join_53 rfl ?_
    refine J_iald dX2_join_54 hP.c2 hP.b2 (vp_in_nI r1 (by omega)) ?_
    refine J_aload_n dX2_join_55 rfl ?_
    refine J_get (k := 1) dX2_join_56 gc_2 fl_RX2_19 (by decide) hP.o hP.b rfl ?_
    refine J_iload dX2_join_59 rfl ?_
    refine J_iald dX2_join_61 hP.c2 hP.b2 (vp_in_nI r2 (by omega)) ?_
    refine J_icmp_ge (tgt := 75) dX2_join_62 (by decide) (fun c62 => ?_) (fun c62 => ?_)
    · exact fin (rt js y) (rt js x) (Or.inr ⟨rfl, rfl⟩) c33 hlen
    · refine J_iload_n dX2_join_65 rfl ?_
      refine J_istore (L' := [_, _, _, _, _, _]) dX2_join_66 (by decide) rfl ?_
      refine J_iload dX2_join_68 rfl ?_
      refine J_istore_n (L' := [_, _, _, _, _, _]) dX2_join_70 (by decide) rfl ?_
      refine J_iload dX2_join_71 rfl ?_
      refine J_istore (L' := [_, _, _, _, _, _]) dX2_join_73 (by decide) rfl ?_
      refine J_drop [5] rfl ?_
      exact fin (rt js x) (rt js y) (Or.inl ⟨rfl, rfl⟩) c33 hlen
theorem s_X2_takeOff {s : Int32} {l t : Nat} {f1 f2 f3 : Nat → Int32} (hP : JR h a N s f1 f2 f3) (hN : N ≤ 32) (hlN : l < N) (htN : t < N) (h1 : f1 l = nI t) (hQ : ∀ h', Fr a (a + 4) h h' → JR h' a N s (upd f1 l (nI l)) (upd f2 t (f2 t - f2 l)) f3 → Q none h') : MJ m_X2_takeOff 1 0 0 [.ref a, .int (nI l)] h Q := by
  refine MJ_of_J (L := [some (.ref a), some (.int (nI l)), none]) (by decide +kernel) rfl (Nat.le_of_ble_eq_true rfl) rfl ?_
  refine J_aload_n dX2_takeOff_0 rfl ?_
  refine J_iload_n dX2_takeOff_1 rfl ?_
  refine J_callV (As := [_]) (rest := []) (M' := m_X2_has) dX2_takeOff_2 ml_RX2_29 gm_X2_has gv_X2_has hP.o hP.b rfl rfl rfl (Nat.le_of_ble_eq_true rfl) (by decide) ⟨rfl, rfl, by decide, by decide⟩ (s_X2_has hP hN (fun r hr => ?_))
  refine J_if_ne (tgt := 9) dX2_takeOff_5 (by decide) (fun c5 => ?_) (fun c5 => absurd ⟨_, hlN, rfl⟩ ((bI_0 hr).mp c5))
  refine J_aload_n dX2_takeOff_9 rfl ?_
  refine J_get (k := 0) dX2_takeOff_10 gc_2 fl_RX2_13 (by decide) hP.o hP.b rfl ?_
  refine J_iload_n dX2_takeOff_13 rfl ?_
  refine J_iald dX2_takeOff_14 hP.c1 hP.b1 (vp_in_nI hlN (by omega)) ?_
  rw [nI_clamp (n := l) (by omega), h1]
  refine J_istore_n (L' := [_, _, _]) dX2_takeOff_15 (by decide) rfl ?_
  refine J_aload_n dX2_takeOff_16 rfl ?_
  refine J_iload_n dX2_takeOff_17 rfl ?_
  refine J_callV (As := [_]) (rest := []) (M' := m_X2_has) dX2_takeOff_18 ml_RX2_29 gm_X2_has gv_X2_has hP.o hP.b rfl rfl rfl (Nat.le_of_ble_eq_true rfl) (by decide) ⟨rfl, rfl, by decide, by decide⟩ (s_X2_has hP hN (fun r0 hr0 => ?_))
  refine J_if_eq (tgt := 46) dX2_takeOff_21 (by decide) (fun c21 => absurd ⟨_, htN, rfl⟩ ((bI_0 hr0).mp c21)) (fun c21 => ?_)
  refine J_aload_n dX2_takeOff_24 rfl ?_
  refine J_get (k := 1) dX2_takeOff_25 gc_2 fl_RX2_19 (by decide) hP.o hP.b rfl ?_
  refine J_iload_n dX2_takeOff_28 rfl ?_
  refine J_dup2 dX2_takeOff_29 rfl rfl ?_
  refine J_iald dX2_takeOff_30 hP.c2 hP.b2 (vp_in_nI htN (by omega)) ?_
  refine J_aload_n dX2_takeOff_31 rfl ?_
  refine J_get (k := 1) dX2_takeOff_32 gc_2 fl_RX2_19 (by decide) hP.o hP.b rfl ?_
  refine J_iload_n dX2_takeOff_35 rfl ?_
  refine J_iald dX2_takeOff_36 hP.c2 hP.b2 (vp_in_nI hlN (by omega)) ?_
  refine J_isub dX2_takeOff_37 ?_
  refine J_iast dX2_takeOff_38 hP.c2 hP.b2 (vp_in_nI htN (by omega)) ?_
  rw [nI_clamp (n := l) (by omega), nI_clamp (n := t) (by omega)]
  replace hP := hP.s2 (upd f2 t (f2 t - f2 l))
  refine J_aload_n dX2_takeOff_39 rfl ?_
  refine J_get (k := 0) dX2_takeOff_40 gc_2 fl_RX2_13 (by decide) hP.o hP.b rfl ?_
  refine J_iload_n dX2_takeOff_43 rfl ?_
  refine J_iload_n dX2_takeOff_44 rfl ?_
  refine J_iast dX2_takeOff_45 hP.c1 hP.b1 (vp_in_nI hlN (by omega)) ?_
  rw [nI_clamp (n := l) (by omega)]
  replace hP := hP.s1 (upd f1 l (nI l))
  exact J_vret dX2_takeOff_46 rfl ⟨rfl, Nat.le_refl _⟩ (hQ _ ((Fr.rf.up (by omega) (by omega)).up (by omega) (by omega)) hP)
theorem JV.pop {f1 f2 f3 : Nat → Int32} {p : Nat × Nat} (w : WJ N (p :: js)) (v : JV N (p :: js) f1 f2 f3) : JV N js (upd f1 p.1 (nI p.1)) (upd f2 p.2 (f2 p.2 - f2 p.1)) f3 := by
  obtain ⟨w0, w1, w2, w3, w4, w5⟩ := w
  obtain ⟨v1, v2, v3⟩ := v
  refine ⟨fun x hx => ?_, fun x hx => ?_, fun i q hi => v3 i q ?_⟩
  · unfold upd
    by_cases e : x = p.1
    · rw [if_pos e, e, w4]
    · rw [if_neg e, v1 x hx]
      show nI (if x = p.1 then p.2 else ab js x) = _
      rw [if_neg e]
  · unfold upd
    by_cases e : x = p.2
    · rw [if_pos e, v2 _ w2, v2 _ w1]
      show nI (if p.2 = p.2 then be js p.2 + be js p.1 else be js p.2) - nI (if p.1 = p.2 then be js p.2 + be js p.1 else be js p.1) = _
      rw [if_pos rfl, if_neg w3, e, pk_sub (by omega), Nat.add_sub_cancel]
    · rw [if_neg e, v2 x hx]
      show nI (if x = p.2 then be js p.2 + be js p.1 else be js x) = _
      rw [if_neg e]
  · rw [List.reverse_cons, List.getElem?_append_left (get_lt hi)]
    exact hi
theorem l_X2_takeBackTo {n : Nat} (hQ : ∀ h', Fr a (a + 4) h h' → JA h' a N (js.drop (js.length - n)) → Q none h') : ∀ (k : Nat) (h1 : g_H), k + n ≤ js.length → Fr a (a + 4) h h1 → JA h1 a N (js.drop (js.length - n - k)) → J m_X2_takeBackTo 2 0 0 0 0 6 [some (.ref a), some (.int (nI n)), some (.int (nI n))] [] h1 Q := by
  intro k
  induction k with
  | zero =>
    intro h1 hk hF hA
    have hlen : (js.drop (js.length - n - 0)).length = n := by rw [List.length_drop]; omega
    have hl := hA.len
    rw [hlen] at hl
    refine J_aload_n dX2_takeBackTo_6 rfl ?_
    refine J_get (k := 3) dX2_takeBackTo_7 gc_2 fl_RX2_25 (by decide) hA.o hA.b rfl ?_
    refine J_iload_n dX2_takeBackTo_10 rfl ?_
    refine J_icmp_le (tgt := 52) dX2_takeBackTo_11 (by decide) (fun c11 => ?_) (fun c11 => absurd (by rw [hlen, nI_leI (by omega) (by omega)]; exact Nat.le_refl n) c11)
    exact J_vret dX2_takeBackTo_52 rfl ⟨rfl, Nat.le_refl _⟩ (hQ h1 hF hA)
  | succ k ih =>
    intro h1 hk hF hA
    obtain ⟨p, hp⟩ := get_of (l := js) (j := js.length - n - (k + 1)) (by omega)
    have hdr : js.drop (js.length - n - (k + 1)) = p :: js.drop (js.length - n - k) := by
      rw [List.drop_eq_getElem_cons (by omega)]
      congr 1
      · exact (List.getElem?_eq_some_iff.mp hp).2
      · rw [show js.length - n - (k + 1) + 1 = js.length - n - k by omega]
    rw [hdr] at hA
    have hlen : (js.drop (js.length - n - k)).length = n + k := by rw [List.length_drop]; omega
    obtain ⟨f1, f2, f3, hP, hv, hW, hl, hN⟩ := hA
    have hv0 := JV.pop hW hv
    obtain ⟨v1, v2, v3⟩ := hv
    have hl2 : (p :: js.drop (js.length - n - k)).length = n + k + 1 := by rw [List.length_cons, hlen]
    rw [hl2] at hl hP
    have e3 : f3 (n + k) = nI p.1 := v3 _ p (by
      rw [List.reverse_cons, List.getElem?_append_right (by rw [List.length_reverse, hlen]; exact Nat.le_refl _), List.length_reverse, hlen, Nat.sub_self]; rfl)
    have e1 : f1 p.1 = nI p.2 := by
      rw [v1 _ hW.2.1]
      show nI (if p.1 = p.1 then p.2 else _) = _
      rw [if_pos rfl]
    refine J_aload_n dX2_takeBackTo_6 rfl ?_
    refine J_get (k := 3) dX2_takeBackTo_7 gc_2 fl_RX2_25 (by decide) hP.o hP.b rfl ?_
    refine J_iload_n dX2_takeBackTo_10 rfl ?_
    refine J_icmp_le (tgt := 52) dX2_takeBackTo_11 (by decide) (fun c11 => absurd c11 (by rw [nI_leI (by omega) (by omega)]; omega)) (fun c11 => ?_)
    refine J_aload_n dX2_takeBackTo_14 rfl ?_
    refine J_get (k := 3) dX2_takeBackTo_15 gc_2 fl_RX2_25 (by decide) hP.o hP.b rfl ?_
    refine J_aload_n dX2_takeBackTo_18 rfl ?_
    refine J_get (k := 2) dX2_takeBackTo_19 gc_2 fl_RX2_22 (by decide) hP.o hP.b rfl ?_
    refine J_alen dX2_takeBackTo_22 hP.c3 (by decide) hP.b3 rfl ?_
    refine J_icmp_gt (tgt := 52) dX2_takeBackTo_23 (by decide) (fun c23 => absurd c23 (by show ¬ nI N < _; rw [nI_ltI (by omega) (by omega)]; omega)) (fun c23 => ?_)
    refine J_aload_n dX2_takeBackTo_26 rfl ?_
    refine J_dup dX2_takeBackTo_27 rfl ?_
    refine J_get (k := 3) dX2_takeBackTo_28 gc_2 fl_RX2_25 (by decide) hP.o hP.b rfl ?_
    refine J_iconst (x := 1) dX2_takeBackTo_31 (by decide) ?_
    refine J_isub dX2_takeBackTo_32 ?_
    rw [nI_pred]
    refine J_put (k := 3) dX2_takeBackTo_33 gc_2 fl_RX2_25 (by decide) rfl hP.o hP.b (Nat.le_of_ble_eq_true rfl) (fun _ => ⟨rfl, rfl⟩) rfl ?_
    replace hP := hP.sn (nI (n + k))
    have hF1 := hF.up (c := .inr (2, [.ref (a + 1), .ref (a + 2), .ref (a + 3), .int (nI (n + k))])) (Nat.le_refl a) (show a < a + 4 by omega)
    refine J_aload_n dX2_takeBackTo_36 rfl ?_
    refine J_aload_n dX2_takeBackTo_37 rfl ?_
    refine J_get (k := 2) dX2_takeBackTo_38 gc_2 fl_RX2_22 (by decide) hP.o hP.b rfl ?_
    refine J_aload_n dX2_takeBackTo_41 rfl ?_
    refine J_get (k := 3) dX2_takeBackTo_42 gc_2 fl_RX2_25 (by decide) hP.o hP.b rfl ?_
    refine J_iald dX2_takeBackTo_45 hP.c3 hP.b3 (vp_in_nI (show n + k < N by omega) (by omega)) ?_
    rw [nI_clamp (n := n + k) (by omega), e3]
    refine J_callV (As := [_]) (rest := []) (M' := m_X2_takeOff) dX2_takeBackTo_46 ml_RX2_37 gm_X2_takeOff gv_X2_takeOff hP.o hP.b rfl rfl rfl (Nat.le_of_ble_eq_true rfl) (by decide) ⟨rfl, rfl, by decide, by decide⟩ (s_X2_takeOff hP hN hW.2.1 hW.2.2.1 e1 (fun h2 hF2 hP2 => ?_))
    refine J_goto (tgt := 6) dX2_takeBackTo_49 (by decide) ?_
    exact ih h2 (by omega) (hF1.tr hF2) ⟨_, _, _, by rw [hlen]; exact hP2, hv0, hW.1, by rw [hlen]; omega, hN⟩
theorem s_X2_takeBackTo {n : Nat} (hA : JA h a N js) (hn : n ≤ js.length) (hQ : ∀ h', Fr a (a + 4) h h' → JA h' a N (js.drop (js.length - n)) → Q none h') : MJ m_X2_takeBackTo 2 0 0 [.ref a, .int (nI n)] h Q := by
  have hl := hA.len
  refine MJ_of_J (L := [some (.ref a), some (.int (nI n)), none]) (by decide +kernel) rfl (Nat.le_of_ble_eq_true rfl) rfl ?_
  refine J_iload_n dX2_takeBackTo_0 rfl ?_
  refine J_iconst (x := 0) dX2_takeBackTo_1 (by decide) ?_
  refine J_mmax dX2_takeBackTo_2 ml_RX2_7 gw_max (by decide) (Nat.le_of_ble_eq_true rfl) ⟨Nat.le_refl _, Nat.le_refl _⟩ ?_
  rw [if_neg (show ¬ nI n < 0 from nI_pos (by omega))]
  refine J_istore_n (L' := [_, _, _]) dX2_takeBackTo_5 (by decide) rfl ?_
  exact l_X2_takeBackTo hQ (js.length - n) h (by omega) Fr.rf (by rw [Nat.sub_self]; exact hA)
end SJoins
