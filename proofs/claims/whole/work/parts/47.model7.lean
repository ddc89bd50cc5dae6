/-! the reference as it lies in the heap -/
def AK (f : Nat → Int32) (ls : List Lk) : Prop := AL f ls ∧ ls.length ≤ 40 ∧ ∀ x ∈ ls, okK x
def HV (hh : Nat → Int32) (hs : List (List Lk)) : Prop := ∀ (i : Nat) (l : List Lk), hs[i]? = some l → AK (fun k => hh (161 * i + k)) l
def VR (h : g_H) (a : Nat) (f g hh sn tx rd : Nat → Int32) (hl it tl sp nu rm : Int32) : Prop := (1 ≤ a ∧ a + 6 ≤ h.2) ∧ h.1 a = .inr (7, [.ref (a + 1), .ref (a + 2), .ref (a + 3), .int hl, .ref (a + 4), .int it, .ref (a + 5), .int tl, .int sp, .int nu, .ref (a + 6), .int rm]) ∧ h.1 (a + 1) = .inl (0, 161, .inl f) ∧ h.1 (a + 2) = .inl (0, 161, .inl g) ∧ h.1 (a + 3) = .inl (0, 644, .inl hh) ∧ h.1 (a + 4) = .inl (0, 161, .inl sn) ∧ h.1 (a + 5) = .inl (0, 60, .inl tx) ∧ h.1 (a + 6) = .inl (0, 40, .inl rd)
def VI (h : g_H) (a : Nat) (s : St) : Prop := ∃ (f g hh sn tx rd : Nat → Int32) (sp nu rm : Int32), VR h a f g hh sn tx rd (nI s.2.1.length) (snI s.2.2.1) (nI s.2.2.2.length) sp nu rm ∧ AK f s.1 ∧ (s.2.1.length ≤ 4 ∧ HV hh s.2.1) ∧ (∀ q, s.2.2.1 = some q → AK sn q) ∧ TV s.2.2.2 tx ∧ s.2.2.2.length ≤ 60 ∧ ∀ c ∈ s.2.2.2, c < 65536
section SMod7
variable {h h' : g_H} {a : Nat} {ls : List Lk} {hs : List (List Lk)} {f g hh sn tx rd : Nat → Int32} {hl it tl sp nu rm : Int32} {Q : Option Value → g_H → Prop}
theorem upd_e (f : Nat → Int32) (k : Nat) (v : Int32) : upd f k v k = v := by simp [upd]
theorem upd_o (f : Nat → Int32) {k i : Nat} (v : Int32) (hi : i ≠ k) : upd f k v i = f i := by simp [upd, hi]
theorem AL.c (hA : AL f ls) (hn : ls.length ≤ 40) (he : ∀ i, i < 161 → g i = f i) : AL g ls := by
  refine ⟨(he 0 (by omega)).trans hA.1, fun k y hy => ?_⟩
  have hk := get_lt hy
  obtain ⟨h1, h2, h3, h4⟩ := hA.2 k y hy
  exact ⟨(he _ (by omega)).trans h1, (he _ (by omega)).trans h2, (he _ (by omega)).trans h3, (he _ (by omega)).trans h4⟩
theorem AK.c (hA : AK f ls) (he : ∀ i, i < 161 → g i = f i) : AK g ls := ⟨hA.1.c hA.2.1 he, hA.2⟩
theorem VR.o (p : VR h a f g hh sn tx rd hl it tl sp nu rm) : h.1 a = .inr (7, [.ref (a + 1), .ref (a + 2), .ref (a + 3), .int hl, .ref (a + 4), .int it, .ref (a + 5), .int tl, .int sp, .int nu, .ref (a + 6), .int rm]) := p.2.1
theorem VR.bo (p : VR h a f g hh sn tx rd hl it tl sp nu rm) : 1 ≤ a ∧ a ≤ h.2 := ⟨p.1.1, by have := p.1.2; omega⟩
theorem VR.c1 (p : VR h a f g hh sn tx rd hl it tl sp nu rm) : h.1 (a + 1) = .inl (0, 161, .inl f) := p.2.2.1
theorem VR.b1 (p : VR h a f g hh sn tx rd hl it tl sp nu rm) : 1 ≤ a + 1 ∧ a + 1 ≤ h.2 := ⟨by omega, by have := p.1.2; omega⟩
theorem VR.c2 (p : VR h a f g hh sn tx rd hl it tl sp nu rm) : h.1 (a + 2) = .inl (0, 161, .inl g) := p.2.2.2.1
theorem VR.b2 (p : VR h a f g hh sn tx rd hl it tl sp nu rm) : 1 ≤ a + 2 ∧ a + 2 ≤ h.2 := ⟨by omega, by have := p.1.2; omega⟩
theorem VR.c3 (p : VR h a f g hh sn tx rd hl it tl sp nu rm) : h.1 (a + 3) = .inl (0, 644, .inl hh) := p.2.2.2.2.1
theorem VR.b3 (p : VR h a f g hh sn tx rd hl it tl sp nu rm) : 1 ≤ a + 3 ∧ a + 3 ≤ h.2 := ⟨by omega, by have := p.1.2; omega⟩
theorem VR.c4 (p : VR h a f g hh sn tx rd hl it tl sp nu rm) : h.1 (a + 4) = .inl (0, 161, .inl sn) := p.2.2.2.2.2.1
theorem VR.b4 (p : VR h a f g hh sn tx rd hl it tl sp nu rm) : 1 ≤ a + 4 ∧ a + 4 ≤ h.2 := ⟨by omega, by have := p.1.2; omega⟩
theorem VR.c5 (p : VR h a f g hh sn tx rd hl it tl sp nu rm) : h.1 (a + 5) = .inl (0, 60, .inl tx) := p.2.2.2.2.2.2.1
theorem VR.b5 (p : VR h a f g hh sn tx rd hl it tl sp nu rm) : 1 ≤ a + 5 ∧ a + 5 ≤ h.2 := ⟨by omega, by have := p.1.2; omega⟩
theorem VR.c6 (p : VR h a f g hh sn tx rd hl it tl sp nu rm) : h.1 (a + 6) = .inl (0, 40, .inl rd) := p.2.2.2.2.2.2.2
theorem VR.b6 (p : VR h a f g hh sn tx rd hl it tl sp nu rm) : 1 ≤ a + 6 ∧ a + 6 ≤ h.2 := ⟨by omega, by have := p.1.2; omega⟩
theorem VR.fr {lo hi : Nat} (p : VR h a f g hh sn tx rd hl it tl sp nu rm) (F : Fr lo hi h h') (q : a + 7 ≤ lo ∨ hi ≤ a) : VR h' a f g hh sn tx rd hl it tl sp nu rm := ⟨⟨p.1.1, by rw [F.1]; exact p.1.2⟩, (F.2 a (by omega)).trans p.o, (F.2 (a + 1) (by omega)).trans p.c1, (F.2 (a + 2) (by omega)).trans p.c2, (F.2 (a + 3) (by omega)).trans p.c3, (F.2 (a + 4) (by omega)).trans p.c4, (F.2 (a + 5) (by omega)).trans p.c5, (F.2 (a + 6) (by omega)).trans p.c6⟩
theorem VR.s1 (p : VR h a f g hh sn tx rd hl it tl sp nu rm) (z : Nat → Int32) : VR (g_up h (a + 1) (.inl (0, 161, .inl z))) a z g hh sn tx rd hl it tl sp nu rm := ⟨p.1, (g_up_n h _ (by omega)).trans p.o, g_up_s h _ _, (g_up_n h _ (by omega)).trans p.c2, (g_up_n h _ (by omega)).trans p.c3, (g_up_n h _ (by omega)).trans p.c4, (g_up_n h _ (by omega)).trans p.c5, (g_up_n h _ (by omega)).trans p.c6⟩
theorem VR.s2 (p : VR h a f g hh sn tx rd hl it tl sp nu rm) (z : Nat → Int32) : VR (g_up h (a + 2) (.inl (0, 161, .inl z))) a f z hh sn tx rd hl it tl sp nu rm := ⟨p.1, (g_up_n h _ (by omega)).trans p.o, (g_up_n h _ (by omega)).trans p.c1, g_up_s h _ _, (g_up_n h _ (by omega)).trans p.c3, (g_up_n h _ (by omega)).trans p.c4, (g_up_n h _ (by omega)).trans p.c5, (g_up_n h _ (by omega)).trans p.c6⟩
theorem VR.s3 (p : VR h a f g hh sn tx rd hl it tl sp nu rm) (z : Nat → Int32) : VR (g_up h (a + 3) (.inl (0, 644, .inl z))) a f g z sn tx rd hl it tl sp nu rm := ⟨p.1, (g_up_n h _ (by omega)).trans p.o, (g_up_n h _ (by omega)).trans p.c1, (g_up_n h _ (by omega)).trans p.c2, g_up_s h _ _, (g_up_n h _ (by omega)).trans p.c4, (g_up_n h _ (by omega)).trans p.c5, (g_up_n h _ (by omega)).trans p.c6⟩
theorem VR.s4 (p : VR h a f g hh sn tx rd hl it tl sp nu rm) (z : Nat → Int32) : VR (g_up h (a + 4) (.inl (0, 161, .inl z))) a f g hh z tx rd hl it tl sp nu rm := ⟨p.1, (g_up_n h _ (by omega)).trans p.o, (g_up_n h _ (by omega)).trans p.c1, (g_up_n h _ (by omega)).trans p.c2, (g_up_n h _ (by omega)).trans p.c3, g_up_s h _ _, (g_up_n h _ (by omega)).trans p.c5, (g_up_n h _ (by omega)).trans p.c6⟩
theorem VR.s5 (p : VR h a f g hh sn tx rd hl it tl sp nu rm) (z : Nat → Int32) : VR (g_up h (a + 5) (.inl (0, 60, .inl z))) a f g hh sn z rd hl it tl sp nu rm := ⟨p.1, (g_up_n h _ (by omega)).trans p.o, (g_up_n h _ (by omega)).trans p.c1, (g_up_n h _ (by omega)).trans p.c2, (g_up_n h _ (by omega)).trans p.c3, (g_up_n h _ (by omega)).trans p.c4, g_up_s h _ _, (g_up_n h _ (by omega)).trans p.c6⟩
theorem VR.s6 (p : VR h a f g hh sn tx rd hl it tl sp nu rm) (z : Nat → Int32) : VR (g_up h (a + 6) (.inl (0, 40, .inl z))) a f g hh sn tx z hl it tl sp nu rm := ⟨p.1, (g_up_n h _ (by omega)).trans p.o, (g_up_n h _ (by omega)).trans p.c1, (g_up_n h _ (by omega)).trans p.c2, (g_up_n h _ (by omega)).trans p.c3, (g_up_n h _ (by omega)).trans p.c4, (g_up_n h _ (by omega)).trans p.c5, g_up_s h _ _⟩
theorem VR.so (p : VR h a f g hh sn tx rd hl it tl sp nu rm) (hl' it' tl' sp' nu' rm' : Int32) : VR (g_up h a (.inr (7, [.ref (a + 1), .ref (a + 2), .ref (a + 3), .int hl', .ref (a + 4), .int it', .ref (a + 5), .int tl', .int sp', .int nu', .ref (a + 6), .int rm']))) a f g hh sn tx rd hl' it' tl' sp' nu' rm' := ⟨p.1, g_up_s h _ _, (g_up_n h _ (by omega)).trans p.c1, (g_up_n h _ (by omega)).trans p.c2, (g_up_n h _ (by omega)).trans p.c3, (g_up_n h _ (by omega)).trans p.c4, (g_up_n h _ (by omega)).trans p.c5, (g_up_n h _ (by omega)).trans p.c6⟩
theorem VR.q (p : VR h a f g hh sn tx rd hl it tl sp nu rm) (k : AK f ls) : VQ h a ls := ⟨_, f, ⟨p.1.1, by have := p.1.2; omega⟩, p.o, p.c1, k.1, k.2.1, k.2.2⟩
theorem l_X7_remember (hQ : ∀ h' z, Fr a (a + 7) h h' → VR h' a f z hh sn tx rd hl it tl sp nu rm → (∀ i, i < 161 → z i = f i) → Q none h') : ∀ (t k : Nat) (h1 : g_H) (z : Nat → Int32), 161 - k < t → k ≤ 161 → Fr a (a + 7) h h1 → VR h1 a f z hh sn tx rd hl it tl sp nu rm → (∀ i, i < k → z i = f i) → J m_X7_remember 0 0 0 0 0 2 [some (.ref a), some (.int (nI k))] [] h1 Q := by
  intro t
  induction t with
  | zero => intro k h1 z ht; omega
  | succ t ih =>
    intro k h1 z ht hk hF hR hz
    refine J_iload_n dX7_remember_2 rfl ?_
    refine J_sipush (x := 161) dX7_remember_3 (by decide) ?_
    refine J_icmp_ge (tgt := 27) dX7_remember_6 (by decide) (fun c6 => ?_) (fun c6 => ?_)
    · exact J_vret dX7_remember_27 rfl ⟨rfl, Nat.le_refl _⟩ (hQ h1 z hF hR (fun i hi => hz i (by have c6 := (nI_leI (a := 161) (b := k) (by omega) (by omega)).mp c6; omega)))
    · have c6 : k < 161 := Nat.not_le.mp (fun q => c6 ((nI_leI (a := 161) (b := k) (by omega) (by omega)).mpr q))
      refine J_aload_n dX7_remember_9 rfl ?_
      refine J_get (k := 1) dX7_remember_10 gc_7 fl_RX7_13 (by decide) hR.o hR.bo rfl ?_
      refine J_iload_n dX7_remember_13 rfl ?_
      refine J_aload_n dX7_remember_14 rfl ?_
      refine J_get (k := 0) dX7_remember_15 gc_7 fl_RX7_7 (by decide) hR.o hR.bo rfl ?_
      refine J_iload_n dX7_remember_18 rfl ?_
      refine J_iald dX7_remember_19 hR.c1 hR.b1 (vp_in_nI (by omega) (by decide)) ?_
      refine J_iast dX7_remember_20 hR.c2 hR.b2 (vp_in_nI (by omega) (by decide)) ?_
      rw [nI_clamp (n := k) (by omega)]
      replace hR := hR.s2 (upd z k (f k))
      refine J_iinc (L' := [_, _]) dX7_remember_21 rfl (nI_i1 k) (by decide) rfl ?_
      refine J_goto (tgt := 2) dX7_remember_24 (by decide) ?_
      exact ih (k + 1) _ _ (by omega) (by omega) (hF.up (by omega) (by omega)) hR (fun i hi => by by_cases q : i = k; subst q; exact upd_e _ _ _; rw [upd_o _ _ q]; exact hz i (by omega))
theorem s_X7_remember (hR : VR h a f g hh sn tx rd hl it tl sp nu rm) (hQ : ∀ h' z, Fr a (a + 7) h h' → VR h' a f z hh sn tx rd hl it tl sp nu rm → (∀ i, i < 161 → z i = f i) → Q none h') : MJ m_X7_remember 0 0 0 [.ref a] h Q := by
  refine MJ_of_J (L := [some (.ref a), none]) (by decide +kernel) rfl (Nat.le_of_ble_eq_true rfl) rfl ?_
  refine J_iconst (x := 0) dX7_remember_0 (by decide) ?_
  refine J_istore_n (L' := [_, _]) dX7_remember_1 (by decide) rfl ?_
  exact l_X7_remember hQ 162 0 h g (by omega) (by omega) Fr.rf hR (fun i hi => by omega)
theorem l2_X7_acted {n : Nat} {v : Int32} (hn : n ≤ 3) (hQ : ∀ h' z, Fr a (a + 7) h h' → VR h' a f g z sn tx rd (nI (n + 1)) it tl sp nu rm → (∀ i, i < 161 → z (161 * n + i) = g i) → (∀ i, i < 161 * n → z i = hh i) → Q (some (.int v)) h') : ∀ (t k : Nat) (h1 : g_H) (z : Nat → Int32), 161 - k < t → k ≤ 161 → Fr a (a + 7) h h1 → VR h1 a f g z sn tx rd (nI n) it tl sp nu rm → (∀ i, i < k → z (161 * n + i) = g i) → (∀ i, i < 161 * n → z i = hh i) → J m_X7_acted 0 0 0 0 0 51 [some (.ref a), some (.int v), some (.int (nI k))] [] h1 Q := by
  intro t
  induction t with
  | zero => intro k h1 z ht; omega
  | succ t ih =>
    intro k h1 z ht hk hF hR hz hz2
    refine J_iload_n dX7_acted_51 rfl ?_
    refine J_sipush (x := 161) dX7_acted_52 (by decide) ?_
    refine J_icmp_ge (tgt := 85) dX7_acted_55 (by decide) (fun c55 => ?_) (fun c55 => ?_)
    · refine J_aload_n dX7_acted_85 rfl ?_
      refine J_dup dX7_acted_86 rfl ?_
      refine J_get (k := 3) dX7_acted_87 gc_7 fl_RX7_28 (by decide) hR.o hR.bo rfl ?_
      refine J_iconst (x := 1) dX7_acted_90 (by decide) ?_
      refine J_iadd dX7_acted_91 ?_
      rw [nI_1]
      refine J_put (k := 3) dX7_acted_92 gc_7 fl_RX7_28 (by decide) rfl hR.o hR.bo (Nat.le_of_ble_eq_true rfl) (fun _ => ⟨rfl, rfl⟩) rfl ?_
      replace hR := hR.so (nI (n + 1)) it tl sp nu rm
      refine J_iload_n dX7_acted_95 rfl ?_
      exact J_iret dX7_acted_96 rfl ⟨rfl, Nat.le_refl _⟩ (hQ _ z (hF.up (by omega) (by omega)) hR (fun i hi => hz i (by have c55 := (nI_leI (a := 161) (b := k) (by omega) (by omega)).mp c55; omega)) hz2)
    · have c55 : k < 161 := Nat.not_le.mp (fun q => c55 ((nI_leI (a := 161) (b := k) (by omega) (by omega)).mpr q))
      refine J_aload_n dX7_acted_58 rfl ?_
      refine J_get (k := 2) dX7_acted_59 gc_7 fl_RX7_16 (by decide) hR.o hR.bo rfl ?_
      refine J_sipush (x := 161) dX7_acted_62 (by decide) ?_
      refine J_aload_n dX7_acted_65 rfl ?_
      refine J_get (k := 3) dX7_acted_66 gc_7 fl_RX7_28 (by decide) hR.o hR.bo rfl ?_
      refine J_imul dX7_acted_69 ?_
      refine J_iload_n dX7_acted_70 rfl ?_
      refine J_iadd dX7_acted_71 ?_
      rw [show (161 : Int32) * nI n = nI (161 * n) from pk_mul 161 n, nI_add]
      refine J_aload_n dX7_acted_72 rfl ?_
      refine J_get (k := 1) dX7_acted_73 gc_7 fl_RX7_13 (by decide) hR.o hR.bo rfl ?_
      refine J_iload_n dX7_acted_76 rfl ?_
      refine J_iald dX7_acted_77 hR.c2 hR.b2 (vp_in_nI (by omega) (by decide)) ?_
      refine J_iast dX7_acted_78 hR.c3 hR.b3 (vp_in_nI (by omega) (by decide)) ?_
      rw [nI_clamp (n := 161 * n + k) (by omega), nI_clamp (n := k) (by omega)]
      replace hR := hR.s3 (upd z (161 * n + k) (g k))
      refine J_iinc (L' := [_, _, _]) dX7_acted_79 rfl (nI_i1 k) (by decide) rfl ?_
      refine J_goto (tgt := 51) dX7_acted_82 (by decide) ?_
      exact ih (k + 1) _ _ (by omega) (by omega) (hF.up (by omega) (by omega)) hR (fun i hi => by by_cases q : i = k; subst q; exact upd_e _ _ _; rw [upd_o _ _ (by omega)]; exact hz i (by omega)) (fun i hi => by rw [upd_o _ _ (by omega)]; exact hz2 i hi)
theorem l1_X7_acted {v : Int32} (K : ∀ h' z, Fr a (a + 7) h h' → VR h' a f g z sn tx rd (nI 4) it tl sp nu rm → (∀ i, i < 483 → z i = hh (i + 161)) → J m_X7_acted 0 0 0 0 0 39 [some (.ref a), some (.int v), some (.int (nI 483))] [] h' Q) : ∀ (t k : Nat) (h1 : g_H) (z : Nat → Int32), 483 - k < t → k ≤ 483 → Fr a (a + 7) h h1 → VR h1 a f g z sn tx rd (nI 4) it tl sp nu rm → (∀ i, i < k → z i = hh (i + 161)) → (∀ i, k ≤ i → z i = hh i) → J m_X7_acted 0 0 0 0 0 10 [some (.ref a), some (.int v), some (.int (nI k))] [] h1 Q := by
  intro t
  induction t with
  | zero => intro k h1 z ht; omega
  | succ t ih =>
    intro k h1 z ht hk hF hR hz hz2
    refine J_iload_n dX7_acted_10 rfl ?_
    refine J_sipush (x := 483) dX7_acted_11 (by decide) ?_
    refine J_icmp_ge (tgt := 39) dX7_acted_14 (by decide) (fun c14 => ?_) (fun c14 => ?_)
    · have c14 := (nI_leI (a := 483) (b := k) (by omega) (by omega)).mp c14
      obtain rfl : k = 483 := by omega
      exact K h1 z hF hR hz
    · have c14 : k < 483 := Nat.not_le.mp (fun q => c14 ((nI_leI (a := 483) (b := k) (by omega) (by omega)).mpr q))
      refine J_aload_n dX7_acted_17 rfl ?_
      refine J_get (k := 2) dX7_acted_18 gc_7 fl_RX7_16 (by decide) hR.o hR.bo rfl ?_
      refine J_iload_n dX7_acted_21 rfl ?_
      refine J_aload_n dX7_acted_22 rfl ?_
      refine J_get (k := 2) dX7_acted_23 gc_7 fl_RX7_16 (by decide) hR.o hR.bo rfl ?_
      refine J_iload_n dX7_acted_26 rfl ?_
      refine J_sipush (x := 161) dX7_acted_27 (by decide) ?_
      refine J_iadd dX7_acted_30 ?_
      rw [show nI k + (161 : Int32) = nI (k + 161) from nI_add k 161]
      refine J_iald dX7_acted_31 hR.c3 hR.b3 (vp_in_nI (by omega) (by decide)) ?_
      rw [nI_clamp (n := k + 161) (by omega), hz2 (k + 161) (by omega)]
      refine J_iast dX7_acted_32 hR.c3 hR.b3 (vp_in_nI (by omega) (by decide)) ?_
      rw [nI_clamp (n := k) (by omega)]
      replace hR := hR.s3 (upd z k (hh (k + 161)))
      refine J_iinc (L' := [_, _, _]) dX7_acted_33 rfl (nI_i1 k) (by decide) rfl ?_
      refine J_goto (tgt := 10) dX7_acted_36 (by decide) ?_
      exact ih (k + 1) _ _ (by omega) (by omega) (hF.up (by omega) (by omega)) hR (fun i hi => by by_cases q : i = k; subst q; exact upd_e _ _ _; rw [upd_o _ _ q]; exact hz i (by omega)) (fun i hi => by rw [upd_o _ _ (by omega)]; exact hz2 i (by omega))
theorem HV.push {z : Nat → Int32} {q : List Lk} (hH : HV hh hs) (hg : AK g q) (h1 : ∀ i, i < 161 → z (161 * hs.length + i) = g i) (h2 : ∀ i, i < 161 * hs.length → z i = hh i) : HV z (hs ++ [q]) := by
  intro i l hi
  by_cases e : i < hs.length
  · rw [List.getElem?_append_left e] at hi
    exact (hH i l hi).c (fun k hk => h2 _ (by omega))
  · have e2 : i = hs.length := by
      have := get_lt hi
      simp at this
      omega
    subst e2
    rw [List.getElem?_append_right (Nat.le_refl _), Nat.sub_self] at hi
    simp at hi
    subst hi
    exact hg.c h1
theorem HV.drop {z : Nat → Int32} (hH : HV hh hs) (hl : hs.length ≤ 4) (h1 : ∀ i, i < 483 → z i = hh (i + 161)) : HV z (hs.drop 1) := by
  intro i l hi
  rw [List.getElem?_drop] at hi
  have := get_lt hi
  exact (hH (1 + i) l hi).c (fun k hk => by
    show z (161 * i + k) = hh (161 * (1 + i) + k)
    rw [h1 _ (by omega)]
    exact congrArg hh (by omega))
theorem s_X7_acted {v : Int32} {q : List Lk} (hR : VR h a f g hh sn tx rd (nI hs.length) it tl sp nu rm) (hH : HV hh hs) (hl : hs.length ≤ 4) (hg : AK g q) (hQ : ∀ h' z, Fr a (a + 7) h h' → VR h' a f g z sn tx rd (nI (rmb hs q).length) it tl sp nu rm → (rmb hs q).length ≤ 4 → HV z (rmb hs q) → Q (some (.int v)) h') : MJ m_X7_acted 0 0 0 [.ref a, .int v] h Q := by
  have K2 : ∀ (h1 : g_H) (hs1 : List (List Lk)) (hh1 : Nat → Int32), Fr a (a + 7) h h1 → hs1.length ≤ 3 → HV hh1 hs1 → VR h1 a f g hh1 sn tx rd (nI hs1.length) it tl sp nu rm → rmb hs q = hs1 ++ [q] → J m_X7_acted 0 0 0 0 0 49 [some (.ref a), some (.int v), none] [] h1 Q := by
    intro h1 hs1 hh1 hF hl1 hH1 hR1 e1
    refine J_iconst (x := 0) dX7_acted_49 (by decide) ?_
    refine J_istore_n (L' := [_, _, _]) dX7_acted_50 (by decide) rfl ?_
    exact l2_X7_acted (hh := hh1) hl1 (fun h2 z hF2 hR2 g1 g2 => hQ h2 z (hF.tr hF2) (by rw [e1, List.length_append]; exact hR2) (by rw [e1, List.length_append]; show hs1.length + 1 ≤ 4; omega) (by rw [e1]; exact hH1.push hg g1 g2)) 162 0 h1 hh1 (by omega) (by omega) Fr.rf hR1 (fun i hi => by omega) (fun i hi => rfl)
  refine MJ_of_J (L := [some (.ref a), some (.int v), none]) (by decide +kernel) rfl (Nat.le_of_ble_eq_true rfl) rfl ?_
  refine J_aload_n dX7_acted_0 rfl ?_
  refine J_get (k := 3) dX7_acted_1 gc_7 fl_RX7_28 (by decide) hR.o hR.bo rfl ?_
  refine J_iconst (x := 4) dX7_acted_4 (by decide) ?_
  refine J_icmp_ne (tgt := 49) dX7_acted_5 (by decide) (fun c5 => ?_) (fun c5 => ?_)
  · exact K2 h hs hh Fr.rf (by have : hs.length ≠ 4 := fun q => c5 (by rw [q]; rfl); omega) hH hR (by unfold rmb; rw [if_neg (fun q => c5 (by rw [q]; rfl))])
  · have e4 : hs.length = 4 := (nI_eq (b := 4) (by omega) (by omega)).mp c5
    have hR4 := hR
    rw [e4] at hR4
    refine J_iconst (x := 0) dX7_acted_8 (by decide) ?_
    refine J_istore_n (L' := [_, _, _]) dX7_acted_9 (by decide) rfl ?_
    refine l1_X7_acted (hh := hh) (fun h2 z hF2 hR2 hz => ?_) 484 0 h hh (by omega) (by omega) Fr.rf hR4 (fun i hi => by omega) (fun i hi => rfl)
    refine J_aload_n dX7_acted_39 rfl ?_
    refine J_dup dX7_acted_40 rfl ?_
    refine J_get (k := 3) dX7_acted_41 gc_7 fl_RX7_28 (by decide) hR2.o hR2.bo rfl ?_
    refine J_iconst (x := 1) dX7_acted_44 (by decide) ?_
    refine J_isub dX7_acted_45 ?_
    rw [show nI 4 - 1 = nI 3 from by decide]
    refine J_put (k := 3) dX7_acted_46 gc_7 fl_RX7_28 (by decide) rfl hR2.o hR2.bo (Nat.le_of_ble_eq_true rfl) (fun _ => ⟨rfl, rfl⟩) rfl ?_
    replace hR2 := hR2.so (nI 3) it tl sp nu rm
    refine J_drop [2] rfl ?_
    exact K2 _ (hs.drop 1) z (hF2.up (by omega) (by omega)) (by rw [List.length_drop]; omega) (hH.drop hl hz) (by rw [List.length_drop, e4]; exact hR2) (by unfold rmb; rw [if_pos e4])
theorem AK.push {y : Lk} (hA : AK f ls) (hl : ls.length < 40) (hy : okK y) : AK (upd (upd (upd (upd (upd f (1 + ls.length) (nI y.1)) (41 + ls.length) (nI y.2.1)) (81 + ls.length) (nI y.2.2.1)) (121 + ls.length) (nI y.2.2.2)) 0 (nI (ls.length + 1))) (ls ++ [y]) := by
  obtain ⟨h0, hn, hok⟩ := hA
  refine ⟨⟨by rw [upd_e, List.length_append]; rfl, fun k x hk => ?_⟩, by rw [List.length_append]; show ls.length + 1 ≤ 40; omega, fun x q => by
    rcases List.mem_append.mp q with q | q
    · exact hok x q
    · rw [List.mem_singleton.mp q]; exact hy⟩
  by_cases e : k < ls.length
  · rw [List.getElem?_append_left e] at hk
    obtain ⟨v1, v2, v3, v4⟩ := h0.2 k x hk
    refine ⟨?_, ?_, ?_, ?_⟩ <;> rw [upd_o _ _ (by omega), upd_o _ _ (by omega), upd_o _ _ (by omega), upd_o _ _ (by omega), upd_o _ _ (by omega)] <;> assumption
  · have e2 : k = ls.length := by
      have := get_lt hk
      simp at this
      omega
    subst e2
    rw [List.getElem?_append_right (Nat.le_refl _), Nat.sub_self] at hk
    simp at hk
    subst hk
    refine ⟨?_, ?_, ?_, ?_⟩
    · rw [upd_o _ _ (by omega), upd_o _ _ (by omega), upd_o _ _ (by omega), upd_o _ _ (by omega), upd_e]
    · rw [upd_o _ _ (by omega), upd_o _ _ (by omega), upd_o _ _ (by omega), upd_e]
    · rw [upd_o _ _ (by omega), upd_o _ _ (by omega), upd_e]
    · rw [upd_o _ _ (by omega), upd_e]
theorem s_X7_adds {y : Lk} (hR : VR h a f g hh sn tx rd hl it tl sp nu rm) (hA : AK f ls) (hl40 : ls.length < 40) (hy : okK y) (hQ : ∀ h' z, Fr a (a + 7) h h' → VR h' a z g hh sn tx rd hl it tl sp nu rm → AK z (ls ++ [y]) → Q none h') : MJ m_X7_adds 0 0 0 [.ref a, .int (nI y.1), .int (nI y.2.1), .int (nI y.2.2.1), .int (nI y.2.2.2)] h Q := by
  have h0 := hA.1.1
  have hAp := hA.push hl40 hy
  refine MJ_of_J (L := [some (.ref a), some (.int (nI y.1)), some (.int (nI y.2.1)), some (.int (nI y.2.2.1)), some (.int (nI y.2.2.2)), none]) (by decide +kernel) rfl (Nat.le_of_ble_eq_true rfl) rfl ?_
  refine J_aload_n dX7_adds_0 rfl ?_
  refine J_get (k := 0) dX7_adds_1 gc_7 fl_RX7_7 (by decide) hR.o hR.bo rfl ?_
  refine J_iconst (x := 0) dX7_adds_4 (by decide) ?_
  refine J_iald dX7_adds_5 hR.c1 hR.b1 (vp_in_nI (n := 0) (by decide) (by decide)) ?_
  rw [show (0 : Int32).toNatClampNeg = 0 from rfl, h0]
  refine J_istore (L' := [_, _, _, _, _, _]) dX7_adds_6 (by decide) rfl ?_
  refine J_aload_n dX7_adds_8 rfl ?_
  refine J_get (k := 0) dX7_adds_9 gc_7 fl_RX7_7 (by decide) hR.o hR.bo rfl ?_
  refine J_iconst (x := 1) dX7_adds_12 (by decide) ?_
  refine J_iload dX7_adds_13 rfl ?_
  refine J_iadd dX7_adds_15 ?_
  refine J_iload_n dX7_adds_16 rfl ?_
  rw [show (1 : Int32) + nI ls.length = nI (1 + ls.length) from nI_add 1 ls.length]
  refine J_iast dX7_adds_17 hR.c1 hR.b1 (vp_in_nI (by omega) (by decide)) ?_
  rw [nI_clamp (n := 1 + ls.length) (by omega)]
  replace hR := hR.s1 (upd f (1 + ls.length) (nI y.1))
  refine J_aload_n dX7_adds_18 rfl ?_
  refine J_get (k := 0) dX7_adds_19 gc_7 fl_RX7_7 (by decide) hR.o hR.bo rfl ?_
  refine J_bipush (x := 41) dX7_adds_22 (by decide) ?_
  refine J_iload dX7_adds_24 rfl ?_
  refine J_iadd dX7_adds_26 ?_
  refine J_iload_n dX7_adds_27 rfl ?_
  rw [show (41 : Int32) + nI ls.length = nI (41 + ls.length) from nI_add 41 ls.length]
  refine J_iast dX7_adds_28 hR.c1 hR.b1 (vp_in_nI (by omega) (by decide)) ?_
  rw [nI_clamp (n := 41 + ls.length) (by omega)]
  replace hR := hR.s1 (upd (upd f (1 + ls.length) (nI y.1)) (41 + ls.length) (nI y.2.1))
  refine J_aload_n dX7_adds_29 rfl ?_
  refine J_get (k := 0) dX7_adds_30 gc_7 fl_RX7_7 (by decide) hR.o hR.bo rfl ?_
  refine J_bipush (x := 81) dX7_adds_33 (by decide) ?_
  refine J_iload dX7_adds_35 rfl ?_
  refine J_iadd dX7_adds_37 ?_
  refine J_iload_n dX7_adds_38 rfl ?_
  rw [show (81 : Int32) + nI ls.length = nI (81 + ls.length) from nI_add 81 ls.length]
  refine J_iast dX7_adds_39 hR.c1 hR.b1 (vp_in_nI (by omega) (by decide)) ?_
  rw [nI_clamp (n := 81 + ls.length) (by omega)]
  replace hR := hR.s1 (upd (upd (upd f (1 + ls.length) (nI y.1)) (41 + ls.length) (nI y.2.1)) (81 + ls.length) (nI y.2.2.1))
  refine J_aload_n dX7_adds_40 rfl ?_
  refine J_get (k := 0) dX7_adds_41 gc_7 fl_RX7_7 (by decide) hR.o hR.bo rfl ?_
  refine J_bipush (x := 121) dX7_adds_44 (by decide) ?_
  refine J_iload dX7_adds_46 rfl ?_
  refine J_iadd dX7_adds_48 ?_
  refine J_iload dX7_adds_49 rfl ?_
  rw [show (121 : Int32) + nI ls.length = nI (121 + ls.length) from nI_add 121 ls.length]
  refine J_iast dX7_adds_51 hR.c1 hR.b1 (vp_in_nI (by omega) (by decide)) ?_
  rw [nI_clamp (n := 121 + ls.length) (by omega)]
  replace hR := hR.s1 (upd (upd (upd (upd f (1 + ls.length) (nI y.1)) (41 + ls.length) (nI y.2.1)) (81 + ls.length) (nI y.2.2.1)) (121 + ls.length) (nI y.2.2.2))
  refine J_aload_n dX7_adds_52 rfl ?_
  refine J_get (k := 0) dX7_adds_53 gc_7 fl_RX7_7 (by decide) hR.o hR.bo rfl ?_
  refine J_iconst (x := 0) dX7_adds_56 (by decide) ?_
  refine J_dup2 dX7_adds_57 rfl rfl ?_
  refine J_iald dX7_adds_58 hR.c1 hR.b1 (vp_in_nI (n := 0) (by decide) (by decide)) ?_
  rw [show (0 : Int32).toNatClampNeg = 0 from rfl, upd_o _ _ (by omega), upd_o _ _ (by omega), upd_o _ _ (by omega), upd_o _ _ (by omega), h0]
  refine J_iconst (x := 1) dX7_adds_59 (by decide) ?_
  refine J_iadd dX7_adds_60 ?_
  rw [nI_1]
  refine J_iast dX7_adds_61 hR.c1 hR.b1 (vp_in_nI (n := 0) (by decide) (by decide)) ?_
  rw [show (0 : Int32).toNatClampNeg = 0 from rfl]
  replace hR := hR.s1 (upd (upd (upd (upd (upd f (1 + ls.length) (nI y.1)) (41 + ls.length) (nI y.2.1)) (81 + ls.length) (nI y.2.2.1)) (121 + ls.length) (nI y.2.2.2)) 0 (nI (ls.length + 1)))
  exact J_vret dX7_adds_62 rfl ⟨rfl, Nat.le_refl _⟩ (hQ _ _ (((((Fr.rf.up (by omega) (by omega)).up (by omega) (by omega)).up (by omega) (by omega)).up (by omega) (by omega)).up (by omega) (by omega)) hR hAp)
def tkF (n j k c : Nat) (f : Nat → Int32) : Nat → Int32 := fun x => if x = 0 then nI (n - 1) else if x < 161 ∧ j ≤ (x - 1) % 40 ∧ ((x - 1) % 40 < k ∨ ((x - 1) % 40 = k ∧ (x - 1) / 40 < c)) then f (x + 1) else f x
theorem tkF_0 (n j k c : Nat) (f : Nat → Int32) : tkF n j k c f 0 = nI (n - 1) := rfl
theorem tkF_i (n j : Nat) (f : Nat → Int32) : upd f 0 (nI (n - 1)) = tkF n j j 0 f := by
  funext x
  unfold tkF upd
  by_cases q : x = 0
  · rw [if_pos q, if_pos q]
  · rw [if_neg q, if_neg q, if_neg (by omega)]
theorem tkF_r {n j k c : Nat} (f : Nat → Int32) (hk : k < 39) (hc : c < 4) : tkF n j k c f (1 + 40 * c + k + 1) = f (1 + 40 * c + k + 1) := by
  unfold tkF
  rw [if_neg (by omega), if_neg (by omega)]
theorem tkF_s {n j k c : Nat} (f : Nat → Int32) (hjk : j ≤ k) (hk : k < 39) (hc : c < 4) : upd (tkF n j k c f) (1 + 40 * c + k) (f (1 + 40 * c + k + 1)) = tkF n j k (c + 1) f := by
  funext x
  by_cases q : x = 1 + 40 * c + k
  · subst q
    rw [upd_e]
    unfold tkF
    rw [if_neg (by omega), if_pos (by omega)]
  · rw [upd_o _ _ q]
    unfold tkF
    by_cases q0 : x = 0
    · rw [if_pos q0, if_pos q0]
    · rw [if_neg q0, if_neg q0]
      by_cases z : x < 161 ∧ j ≤ (x - 1) % 40 ∧ ((x - 1) % 40 < k ∨ ((x - 1) % 40 = k ∧ (x - 1) / 40 < c))
      · rw [if_pos z, if_pos (by omega)]
      · rw [if_neg z, if_neg (by omega)]
theorem tkF_n {n j k : Nat} (f : Nat → Int32) (hjk : j ≤ k) : tkF n j k 4 f = tkF n j (k + 1) 0 f := by
  funext x
  unfold tkF
  by_cases q0 : x = 0
  · rw [if_pos q0, if_pos q0]
  · rw [if_neg q0, if_neg q0]
    by_cases z : x < 161 ∧ j ≤ (x - 1) % 40 ∧ ((x - 1) % 40 < k ∨ ((x - 1) % 40 = k ∧ (x - 1) / 40 < 4))
    · rw [if_pos z, if_pos (by omega)]
    · rw [if_neg z, if_neg (by omega)]
theorem AK.rem {j : Nat} (hA : AK f ls) (hj : j < ls.length) : AK (tkF ls.length j (ls.length - 1) 0 f) (ls.eraseIdx j) := by
  obtain ⟨h0, hn, hok⟩ := hA
  have hle : (ls.eraseIdx j).length = ls.length - 1 := by rw [List.length_eraseIdx, if_pos hj]
  refine ⟨⟨by rw [tkF_0, hle], fun k x hk => ?_⟩, by omega, fun x q => hok x (List.mem_of_mem_eraseIdx q)⟩
  have hkl := get_lt hk
  rw [hle] at hkl
  rw [List.getElem?_eraseIdx] at hk
  unfold tkF
  by_cases q : k < j
  · rw [if_pos q] at hk
    obtain ⟨v1, v2, v3, v4⟩ := h0.2 k x hk
    refine ⟨?_, ?_, ?_, ?_⟩ <;> rw [if_neg (by omega), if_neg (by omega)] <;> assumption
  · rw [if_neg q] at hk
    obtain ⟨v1, v2, v3, v4⟩ := h0.2 (k + 1) x hk
    refine ⟨?_, ?_, ?_, ?_⟩ <;> rw [if_neg (by omega), if_pos (by omega)] <;> assumption
theorem l1_X7_takesOut {n j k : Nat} {w1 : Int32} (hjk : j ≤ k) (hk : k < 39) (K : ∀ h', Fr a (a + 7) h h' → VR h' a (tkF n j (k + 1) 0 f) g hh sn tx rd hl it tl sp nu rm → J m_X7_takesOut 0 0 0 0 0 54 [some (.ref a), some (.int w1), some (.int (nI k)), some (.int (nI 161))] [] h' Q) : ∀ (t c : Nat) (h1 : g_H), 4 - c < t → c ≤ 4 → Fr a (a + 7) h h1 → VR h1 a (tkF n j k c f) g hh sn tx rd hl it tl sp nu rm → J m_X7_takesOut 0 0 0 0 0 24 [some (.ref a), some (.int w1), some (.int (nI k)), some (.int (nI (1 + 40 * c)))] [] h1 Q := by
  intro t
  induction t with
  | zero => intro c h1 ht; omega
  | succ t ih =>
    intro c h1 ht hc hF hR
    refine J_iload_n dX7_takesOut_24 rfl ?_
    refine J_bipush (x := 121) dX7_takesOut_25 (by decide) ?_
    refine J_icmp_gt (tgt := 54) dX7_takesOut_27 (by decide) (fun c27 => ?_) (fun c27 => ?_)
    · have c27 : nI 121 < nI (1 + 40 * c) := c27
      rw [nI_ltI (by omega) (by omega)] at c27
      obtain rfl : c = 4 := by omega
      rw [tkF_n f hjk] at hR
      exact K h1 hF hR
    · have c27 : c < 4 := by
        have c27 : ¬ nI 121 < nI (1 + 40 * c) := c27
        rw [nI_ltI (by omega) (by omega)] at c27; omega
      refine J_aload_n dX7_takesOut_30 rfl ?_
      refine J_get (k := 0) dX7_takesOut_31 gc_7 fl_RX7_7 (by decide) hR.o hR.bo rfl ?_
      refine J_iload_n dX7_takesOut_34 rfl ?_
      refine J_iload_n dX7_takesOut_35 rfl ?_
      refine J_iadd dX7_takesOut_36 ?_
      rw [nI_add]
      refine J_aload_n dX7_takesOut_37 rfl ?_
      refine J_get (k := 0) dX7_takesOut_38 gc_7 fl_RX7_7 (by decide) hR.o hR.bo rfl ?_
      refine J_iload_n dX7_takesOut_41 rfl ?_
      refine J_iload_n dX7_takesOut_42 rfl ?_
      refine J_iadd dX7_takesOut_43 ?_
      refine J_iconst (x := 1) dX7_takesOut_44 (by decide) ?_
      refine J_iadd dX7_takesOut_45 ?_
      rw [nI_add, nI_1]
      refine J_iald dX7_takesOut_46 hR.c1 hR.b1 (vp_in_nI (by omega) (by decide)) ?_
      rw [nI_clamp (n := 1 + 40 * c + k + 1) (by omega), tkF_r f hk c27]
      refine J_iast dX7_takesOut_47 hR.c1 hR.b1 (vp_in_nI (by omega) (by decide)) ?_
      rw [nI_clamp (n := 1 + 40 * c + k) (by omega), tkF_s f hjk hk c27]
      replace hR := hR.s1 (tkF n j k (c + 1) f)
      refine J_iinc (L' := [_, _, _, _]) dX7_takesOut_48 rfl (show nI (1 + 40 * c) + Int32.ofInt 40 = nI (1 + 40 * (c + 1)) from by rw [show 1 + 40 * (c + 1) = (1 + 40 * c) + 40 by omega]; exact nI_add (1 + 40 * c) 40) (by decide) rfl ?_
      refine J_goto (tgt := 24) dX7_takesOut_51 (by decide) ?_
      exact ih (c + 1) _ (by omega) (by omega) (hF.up (by omega) (by omega)) hR
theorem l2_X7_takesOut {n j : Nat} {w1 : Int32} (hn : n ≤ 40) (hj : j < n) (hQ : ∀ h', Fr a (a + 7) h h' → VR h' a (tkF n j (n - 1) 0 f) g hh sn tx rd hl it tl sp nu rm → Q none h') : ∀ (t k : Nat) (h1 : g_H), n - k < t → j ≤ k → k ≤ n - 1 → Fr a (a + 7) h h1 → VR h1 a (tkF n j k 0 f) g hh sn tx rd hl it tl sp nu rm → J m_X7_takesOut 0 0 0 0 0 12 [some (.ref a), some (.int w1), some (.int (nI k)), none] [] h1 Q := by
  intro t
  induction t with
  | zero => intro k h1 ht; omega
  | succ t ih =>
    intro k h1 ht hjk hk hF hR
    refine J_iload_n dX7_takesOut_12 rfl ?_
    refine J_aload_n dX7_takesOut_13 rfl ?_
    refine J_get (k := 0) dX7_takesOut_14 gc_7 fl_RX7_7 (by decide) hR.o hR.bo rfl ?_
    refine J_iconst (x := 0) dX7_takesOut_17 (by decide) ?_
    refine J_iald dX7_takesOut_18 hR.c1 hR.b1 (vp_in_nI (n := 0) (by decide) (by decide)) ?_
    rw [show (0 : Int32).toNatClampNeg = 0 from rfl, tkF_0]
    refine J_icmp_ge (tgt := 60) dX7_takesOut_19 (by decide) (fun c19 => ?_) (fun c19 => ?_)
    · exact J_vret dX7_takesOut_60 rfl ⟨rfl, Nat.le_refl _⟩ (hQ h1 hF (by have c19 := (nI_leI (by omega) (by omega)).mp c19; rwa [show k = n - 1 by omega] at hR))
    · have c19 : k < n - 1 := Nat.not_le.mp (fun q => c19 ((nI_leI (by omega) (by omega)).mpr q))
      refine J_iconst (x := 1) dX7_takesOut_22 (by decide) ?_
      refine J_istore_n (L' := [_, _, _, _]) dX7_takesOut_23 (by decide) rfl ?_
      refine l1_X7_takesOut (f := f) (n := n) hjk (by omega) (fun h2 hF2 hR2 => ?_) 5 0 h1 (by omega) (by omega) Fr.rf hR
      refine J_iinc (L' := [_, _, _, _]) dX7_takesOut_54 rfl (nI_i1 k) (by decide) rfl ?_
      refine J_goto (tgt := 12) dX7_takesOut_57 (by decide) ?_
      refine J_drop [3] rfl ?_
      exact ih (k + 1) h2 (by omega) (by omega) (by omega) (hF.tr hF2) hR2
theorem s_X7_takesOut {j : Nat} (hR : VR h a f g hh sn tx rd hl it tl sp nu rm) (hA : AK f ls) (hj : j < ls.length) (hQ : ∀ h' z, Fr a (a + 7) h h' → VR h' a z g hh sn tx rd hl it tl sp nu rm → AK z (ls.eraseIdx j) → Q none h') : MJ m_X7_takesOut 0 0 0 [.ref a, .int (nI j)] h Q := by
  have h0 := hA.1.1
  have hn := hA.2.1
  refine MJ_of_J (L := [some (.ref a), some (.int (nI j)), none, none]) (by decide +kernel) rfl (Nat.le_of_ble_eq_true rfl) rfl ?_
  refine J_aload_n dX7_takesOut_0 rfl ?_
  refine J_get (k := 0) dX7_takesOut_1 gc_7 fl_RX7_7 (by decide) hR.o hR.bo rfl ?_
  refine J_iconst (x := 0) dX7_takesOut_4 (by decide) ?_
  refine J_dup2 dX7_takesOut_5 rfl rfl ?_
  refine J_iald dX7_takesOut_6 hR.c1 hR.b1 (vp_in_nI (n := 0) (by decide) (by decide)) ?_
  rw [show (0 : Int32).toNatClampNeg = 0 from rfl, h0]
  refine J_iconst (x := 1) dX7_takesOut_7 (by decide) ?_
  refine J_isub dX7_takesOut_8 ?_
  rw [show nI ls.length - 1 = nI (ls.length - 1) from pk_sub (b := 1) (by omega)]
  refine J_iast dX7_takesOut_9 hR.c1 hR.b1 (vp_in_nI (n := 0) (by decide) (by decide)) ?_
  rw [show (0 : Int32).toNatClampNeg = 0 from rfl, tkF_i ls.length j f]
  replace hR := hR.s1 (tkF ls.length j j 0 f)
  refine J_iload_n dX7_takesOut_10 rfl ?_
  refine J_istore_n (L' := [_, _, _, _]) dX7_takesOut_11 (by decide) rfl ?_
  exact l2_X7_takesOut hn hj (fun h2 hF2 hR2 => hQ h2 _ ((Fr.rf.up (by omega) (by omega)).tr hF2) hR2 (hA.rem hj)) (ls.length + 1) j _ (by omega) (Nat.le_refl _) (by omega) Fr.rf hR
end SMod7
