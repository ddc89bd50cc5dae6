/-! the way by halves -/
theorem sb_f1 : ∀ m, m < 64 → ∀ d, d < 6 → sb (sb m (d + 1)) d = sb m d := by decide +kernel
theorem sb_f2 : ∀ m, m < 64 → ∀ d, d < 6 → sb m d ≤ sb m (d + 1) ∧ sb m (d + 1) + sl (d + 1) ≤ sb m d + sl d := by decide +kernel
theorem sb_f3 : ∀ m, m < 64 → ∀ d, d < 7 → sb m d = m → ∀ i, i < 7 → d ≤ i → sb m i = m := by decide +kernel
theorem sb_f4 : ∀ m, m < 63 → ∀ i, i < 7 → sb (m + 1) i ≠ m + 1 → sb (m + 1) i = sb m i := by decide +kernel
theorem sb_f6 : ∀ m, m < 64 → ∀ d, d < 7 → sb (sb m d) d = sb m d := by decide +kernel
theorem sb_0 : ∀ m, m < 64 → sb m 0 = 0 := by decide +kernel
def cvP (m d : Nat) (_ : Nat) (y : Lk) : Bool := cvB (sb m d) (sl d) y
def ldP (b d : Nat) (_ : Nat) (y : Lk) : Bool := ldB b d y
/-- the pairs of the links that live at all of a span -/
def CV (ls : List Lk) (m d : Nat) : List (Nat × Nat) := EK ls (cvP m d) ls.length
/-- the pairs of those that live at all of the span around it -/
def CU (ls : List Lk) (m : Nat) : Nat → List (Nat × Nat)
  | 0 => []
  | d + 1 => CV ls m d
noncomputable def pS (ls : List Lk) (m d : Nat) : Nat := nfst (Cn (CV ls m d)) 16
noncomputable def pU (ls : List Lk) (m d : Nat) : Nat := nfst (Cn (CU ls m d)) 16
theorem CV_ld {ls : List Lk} {m d : Nat} (hm : m < 64) (hd : d < 7) (e : Nat × Nat) : e ∈ CU ls m d ++ EK ls (ldP (sb m d) d) ls.length ↔ e ∈ CV ls m d := by
  rw [List.mem_append]
  unfold CV
  rw [EK_mem, EK_mem]
  cases d with
  | zero =>
    constructor
    · rintro (h | ⟨k, y, h1, h2, h3, h4⟩)
      · simp [CU] at h
      · refine ⟨k, y, h1, h2, ?_, h4⟩
        have h3 : (cvB (sb m 0) (sl 0) y && (decide (0 = 0) || !cvB (sb (sb m 0) (0 - 1)) (sl (0 - 1)) y)) = true := h3
        rw [Bool.and_eq_true] at h3
        exact h3.1
    · rintro ⟨k, y, h1, h2, h3, h4⟩
      refine Or.inr ⟨k, y, h1, h2, ?_, h4⟩
      show (cvB (sb m 0) (sl 0) y && (decide (0 = 0) || !cvB (sb (sb m 0) (0 - 1)) (sl (0 - 1)) y)) = true
      rw [show cvB (sb m 0) (sl 0) y = true from h3]; rfl
  | succ d =>
    have f1 := sb_f1 m hm d (by omega)
    have f2 := sb_f2 m hm d (by omega)
    have hmono : ∀ y : Lk, cvB (sb m d) (sl d) y = true → cvB (sb m (d + 1)) (sl (d + 1)) y = true := by
      intro y hy
      rw [cvB_iff] at hy ⊢
      omega
    have eL : ∀ y : Lk, ldB (sb m (d + 1)) (d + 1) y = (cvB (sb m (d + 1)) (sl (d + 1)) y && !cvB (sb m d) (sl d) y) := by
      intro y
      show (cvB (sb m (d + 1)) (sl (d + 1)) y && (decide (d + 1 = 0) || !cvB (sb (sb m (d + 1)) (d + 1 - 1)) (sl (d + 1 - 1)) y)) = _
      rw [Nat.add_sub_cancel, f1]
      simp
    show (e ∈ EK ls (cvP m d) ls.length ∨ _) ↔ _
    rw [EK_mem]
    constructor
    · rintro (⟨k, y, h1, h2, h3, h4⟩ | ⟨k, y, h1, h2, h3, h4⟩)
      · exact ⟨k, y, h1, h2, hmono y h3, h4⟩
      · have h3 : ldB (sb m (d + 1)) (d + 1) y = true := h3
        rw [eL, Bool.and_eq_true] at h3
        exact ⟨k, y, h1, h2, h3.1, h4⟩
    · rintro ⟨k, y, h1, h2, h3, h4⟩
      have h3 : cvB (sb m (d + 1)) (sl (d + 1)) y = true := h3
      rcases Classical.em (cvB (sb m d) (sl d) y = true) with q | q
      · exact Or.inl ⟨k, y, h1, h2, q, h4⟩
      · refine Or.inr ⟨k, y, h1, h2, ?_, h4⟩
        show ldB (sb m (d + 1)) (d + 1) y = true
        rw [eL, h3]
        simpa using q
theorem RP.set {N : Nat} {js E F : List (Nat × Nat)} (h : RP N js E) (hs : ∀ e, e ∈ E ↔ e ∈ F) : RP N js F := fun x y hx hy => (h x y hx hy).trans (Cn.set hs x y)
theorem RP.len {js E : List (Nat × Nat)} (w : WJ 16 js) (h : RP 16 js E) : nfst (Cn E) 16 + js.length = 16 := by
  have h1 := nfst_rt w
  have h2 : nfst (fun x y => rt js x = rt js y) 16 = nfst (Cn E) 16 := nfst_c h
  omega
theorem WJ.drop {N : Nat} : ∀ {js : List (Nat × Nat)} (n : Nat), WJ N js → WJ N (js.drop n)
  | [], n, _ => by simp [WJ]
  | p :: js, 0, w => w
  | p :: js, n + 1, w => WJ.drop (js := js) n w.1
def HR (h : g_H) (a : Nat) (x1 x2 x3 x4 x5 : Int32) (g : Nat → Int32) : Prop := (1 ≤ a ∧ a + 5 ≤ h.2) ∧ h.1 a = .inr (0, [.ref (a + 1), .ref (a + 5), .int x1, .int x2, .int x3, .int x4, .int x5]) ∧ h.1 (a + 5) = .inl (0, 7, .inl g)
section SWay
variable {h h' : g_H} {a b : Nat} {ls : List Lk} {x1 x2 x3 x4 x5 : Int32} {g : Nat → Int32} {js : List (Nat × Nat)} {Q : Option Value → g_H → Prop}
theorem HR.o (p : HR h a x1 x2 x3 x4 x5 g) : h.1 a = .inr (0, [.ref (a + 1), .ref (a + 5), .int x1, .int x2, .int x3, .int x4, .int x5]) := p.2.1
theorem HR.bo (p : HR h a x1 x2 x3 x4 x5 g) : 1 ≤ a ∧ a ≤ h.2 := ⟨p.1.1, by have := p.1.2; omega⟩
theorem HR.c (p : HR h a x1 x2 x3 x4 x5 g) : h.1 (a + 5) = .inl (0, 7, .inl g) := p.2.2
theorem HR.bc (p : HR h a x1 x2 x3 x4 x5 g) : 1 ≤ a + 5 ∧ a + 5 ≤ h.2 := ⟨by omega, p.1.2⟩
theorem HR.fr {lo hi : Nat} (p : HR h a x1 x2 x3 x4 x5 g) (F : Fr lo hi h h') (q : a + 6 ≤ lo ∨ hi ≤ a ∨ (a + 1 ≤ lo ∧ hi ≤ a + 5)) : HR h' a x1 x2 x3 x4 x5 g :=
  ⟨⟨p.1.1, by rw [F.1]; exact p.1.2⟩, (F.2 a (by omega)).trans p.o, (F.2 (a + 5) (by omega)).trans p.c⟩
theorem HR.so (p : HR h a x1 x2 x3 x4 x5 g) (y1 y2 y3 y4 y5 : Int32) : HR (g_up h a (.inr (0, [.ref (a + 1), .ref (a + 5), .int y1, .int y2, .int y3, .int y4, .int y5]))) a y1 y2 y3 y4 y5 g :=
  ⟨p.1, g_up_s h _ _, (g_up_n h _ (by omega)).trans p.c⟩
theorem HR.sc (p : HR h a x1 x2 x3 x4 x5 g) (f : Nat → Int32) : HR (g_up h (a + 5) (.inl (0, 7, .inl f))) a x1 x2 x3 x4 x5 f :=
  ⟨p.1, (g_up_n h _ (by omega)).trans p.o, g_up_s h _ _⟩
theorem up_fr (h : g_H) (k : Nat) (c : g_C) : Fr k (k + 1) h (g_up h k c) := Fr.rf.up (Nat.le_refl _) (Nat.lt_succ_self _)
theorem s_X0_laidHere (hP : HR h a x1 x2 x3 x4 x5 g) (hQ : Q (some (.int x1)) h) : MJ m_X0_laidHere 0 0 0 [.ref a] h Q := by
  refine MJ_of_J (L := [some (.ref a)]) (by decide +kernel) rfl (Nat.le_of_ble_eq_true rfl) rfl ?_
  refine J_aload_n dX0_laidHere_0 rfl ?_
  refine J_get (k := 2) dX0_laidHere_1 gc_0 fl_RX0_24 (by decide) hP.o hP.bo rfl ?_
  exact J_iret dX0_laidHere_4 rfl ⟨rfl, Nat.le_refl _⟩ (hQ)
theorem s_X0_madeHere (hP : HR h a x1 x2 x3 x4 x5 g) (hQ : Q (some (.int x2)) h) : MJ m_X0_madeHere 0 0 0 [.ref a] h Q := by
  refine MJ_of_J (L := [some (.ref a)]) (by decide +kernel) rfl (Nat.le_of_ble_eq_true rfl) rfl ?_
  refine J_aload_n dX0_madeHere_0 rfl ?_
  refine J_get (k := 3) dX0_madeHere_1 gc_0 fl_RX0_28 (by decide) hP.o hP.bo rfl ?_
  exact J_iret dX0_madeHere_4 rfl ⟨rfl, Nat.le_refl _⟩ (hQ)
theorem s_X0_madeInAll (hP : HR h a x1 x2 x3 x4 x5 g) (hQ : Q (some (.int x4)) h) : MJ m_X0_madeInAll 0 0 0 [.ref a] h Q := by
  refine MJ_of_J (L := [some (.ref a)]) (by decide +kernel) rfl (Nat.le_of_ble_eq_true rfl) rfl ?_
  refine J_aload_n dX0_madeInAll_0 rfl ?_
  refine J_get (k := 5) dX0_madeInAll_1 gc_0 fl_RX0_31 (by decide) hP.o hP.bo rfl ?_
  exact J_iret dX0_madeInAll_4 rfl ⟨rfl, Nat.le_refl _⟩ (hQ)
theorem s_X0_mostStanding (hP : HR h a x1 x2 x3 x4 x5 g) (hQ : Q (some (.int x5)) h) : MJ m_X0_mostStanding 0 0 0 [.ref a] h Q := by
  refine MJ_of_J (L := [some (.ref a)]) (by decide +kernel) rfl (Nat.le_of_ble_eq_true rfl) rfl ?_
  refine J_aload_n dX0_mostStanding_0 rfl ?_
  refine J_get (k := 6) dX0_mostStanding_1 gc_0 fl_RX0_37 (by decide) hP.o hP.bo rfl ?_
  exact J_iret dX0_mostStanding_4 rfl ⟨rfl, Nat.le_refl _⟩ (hQ)
theorem s_X0_idleInAll (hP : HR h a x1 x2 x3 x4 x5 g) (hQ : Q (some (.int (x3 - x4))) h) : MJ m_X0_idleInAll 0 0 0 [.ref a] h Q := by
  refine MJ_of_J (L := [some (.ref a)]) (by decide +kernel) rfl (Nat.le_of_ble_eq_true rfl) rfl ?_
  refine J_aload_n dX0_idleInAll_0 rfl ?_
  refine J_get (k := 4) dX0_idleInAll_1 gc_0 fl_RX0_34 (by decide) hP.o hP.bo rfl ?_
  refine J_aload_n dX0_idleInAll_4 rfl ?_
  refine J_get (k := 5) dX0_idleInAll_5 gc_0 fl_RX0_31 (by decide) hP.o hP.bo rfl ?_
  refine J_isub dX0_idleInAll_8 ?_
  exact J_iret dX0_idleInAll_9 rfl ⟨rfl, Nat.le_refl _⟩ (hQ)
theorem l_X0_joinLaid {s d ar : Nat} {js0 E0 : List (Nat × Nat)} (hs : s < 64) (hdd : d < 7) (hE0 : ∀ e ∈ E0, e.1 < 16 ∧ e.2 < 16) (hA0 : LA h b ls) (hd : b + 5 ≤ a ∨ a + 6 ≤ b)
    (K : ∀ h1 js k, Fr a (a + 6) h h1 → HR h1 a (nI (ls.countP (ldB s d))) x2 x3 x4 x5 g → JA h1 (a + 1) 16 js → RP 16 js (E0 ++ EK ls (ldP s d) ls.length) → ar ≤ js.length → js.drop (js.length - ar) = js0 → J m_X0_joinLaid 3 0 0 0 0 101 [some (.ref a), some (.ref b), some (.int (nI s)), some (.int (nI d)), some (.int (nI ar)), some (.int k)] [] h1 Q) :
    ∀ (t k : Nat) (h1 : g_H) (js : List (Nat × Nat)), ls.length - k < t → k ≤ ls.length → Fr a (a + 6) h h1 → HR h1 a (nI ((ls.take k).countP (ldB s d))) x2 x3 x4 x5 g → JA h1 (a + 1) 16 js → RP 16 js (E0 ++ EK ls (ldP s d) k) → ar ≤ js.length → js.drop (js.length - ar) = js0 → J m_X0_joinLaid 3 0 0 0 0 46 [some (.ref a), some (.ref b), some (.int (nI s)), some (.int (nI d)), some (.int (nI ar)), some (.int (nI k))] [] h1 Q := by
  intro t
  induction t with
  | zero => intro k h1 js ht; omega
  | succ t ih =>
    intro k h1 js ht hk hF hP hJ hR har hdr
    have hA := hA0.fr hF (by omega)
    have hn := hA.len
    have hO := hA.ok
    refine J_iload dX0_joinLaid_46 rfl ?_
    refine J_aload_n dX0_joinLaid_48 rfl ?_
    refine J_callV (As := []) (rest := [_]) (M' := m_X4_size) dX0_joinLaid_49 ml_RX0_60 gm_X4_size gv_X4_size hA.o hA.b rfl rfl rfl (Nat.le_of_ble_eq_true rfl) (by decide) ⟨rfl, rfl, by decide, by decide⟩ (s_X4_size hA (fun r hr => ?_))
    subst hr
    refine J_icmp_ge (tgt := 101) dX0_joinLaid_52 (by decide) (fun c52 => ?_) (fun c52 => ?_)
    · have c52 := (nI_leI (by omega) (by omega)).mp c52
      obtain rfl : k = ls.length := by omega
      rw [List.take_length] at hP
      exact K h1 js _ hF hP hJ hR har hdr
    · have c52 : k < ls.length := Nat.not_le.mp (fun q => c52 ((nI_leI (by omega) (by omega)).mpr q))
      obtain ⟨y, hy⟩ := get_of c52
      obtain ⟨o1, o2, o3, o4, o5⟩ := hO y (List.mem_of_getElem? hy)
      have hcnt := take_succ_cnt (ldB s d) hy
      refine J_aload_n dX0_joinLaid_55 rfl ?_
      refine J_iload dX0_joinLaid_56 rfl ?_
      refine J_iload_n dX0_joinLaid_58 rfl ?_
      refine J_iload_n dX0_joinLaid_59 rfl ?_
      refine J_callV (As := [_, _, _]) (rest := []) (M' := m_X4_isLaidAt) dX0_joinLaid_60 ml_RX0_65 gm_X4_isLaidAt gv_X4_isLaidAt hA.o hA.b rfl rfl rfl (Nat.le_of_ble_eq_true rfl) (by decide) ⟨rfl, rfl, by decide, by decide⟩ (s_X4_isLaidAt hA hy hs hdd (fun r hr => ?_))
      refine J_if_eq (tgt := 95) dX0_joinLaid_63 (by decide) (fun c63 => ?_) (fun c63 => ?_)
      · refine J_iinc (L' := [_, _, _, _, _, _]) dX0_joinLaid_95 rfl (nI_i1 k) (by decide) rfl ?_
        refine J_goto (tgt := 46) dX0_joinLaid_98 (by decide) ?_
        have hf := (bI_0 hr).mp c63
        exact ih (k + 1) h1 js (by omega) (by omega) hF (by rw [hcnt, if_neg hf]; exact hP) hJ (by rw [EK_s hy, if_neg (show ¬ ldP s d k y = true from hf), List.append_nil]; exact hR) har hdr
      · refine J_aload_n dX0_joinLaid_66 rfl ?_
        refine J_dup dX0_joinLaid_67 rfl ?_
        refine J_get (k := 2) dX0_joinLaid_68 gc_0 fl_RX0_24 (by decide) hP.o hP.bo rfl ?_
        refine J_iconst (x := 1) dX0_joinLaid_71 (by decide) ?_
        refine J_iadd dX0_joinLaid_72 ?_
        rw [nI_1]
        refine J_put (k := 2) dX0_joinLaid_73 gc_0 fl_RX0_24 (by decide) rfl hP.o hP.bo (Nat.le_of_ble_eq_true rfl) (fun _ => ⟨rfl, rfl⟩) rfl ?_
        replace hP := hP.so (nI ((ls.take k).countP (ldB s d) + 1)) x2 x3 x4 x5
        have hF1 := up_fr h1 a (.inr (0, [.ref (a + 1), .ref (a + 5), .int (nI ((ls.take k).countP (ldB s d) + 1)), .int x2, .int x3, .int x4, .int x5]))
        replace hJ := hJ.fr hF1 (by omega)
        replace hA := hA.fr hF1 (by omega)
        replace hF := hF.tr (hF1.mono (by omega) (by omega))
        refine J_aload_n dX0_joinLaid_76 rfl ?_
        refine J_get (k := 0) dX0_joinLaid_77 gc_0 fl_RX0_14 (by decide) hP.o hP.bo rfl ?_
        refine J_aload_n dX0_joinLaid_80 rfl ?_
        refine J_iload dX0_joinLaid_81 rfl ?_
        refine J_callV (As := [_]) (rest := [_]) (M' := m_X4_oneOf) dX0_joinLaid_83 ml_RX0_69 gm_X4_oneOf gv_X4_oneOf hA.o hA.b rfl rfl rfl (Nat.le_of_ble_eq_true rfl) (by decide) ⟨rfl, rfl, by decide, by decide⟩ (s_X4_oneOf hA hy (fun r1 hr1 => ?_))
        subst hr1
        refine J_aload_n dX0_joinLaid_86 rfl ?_
        refine J_iload dX0_joinLaid_87 rfl ?_
        refine J_callV (As := [_]) (rest := [_, _]) (M' := m_X4_otherOf) dX0_joinLaid_89 ml_RX0_73 gm_X4_otherOf gv_X4_otherOf hA.o hA.b rfl rfl rfl (Nat.le_of_ble_eq_true rfl) (by decide) ⟨rfl, rfl, by decide, by decide⟩ (s_X4_otherOf hA hy (fun r1 hr1 => ?_))
        subst hr1
        refine J_callV (As := [_, _]) (rest := []) (M' := m_X2_join) dX0_joinLaid_92 ml_RX0_76 gm_X2_join gv_X2_join hJ.o hJ.b rfl rfl rfl (Nat.le_of_ble_eq_true rfl) (by decide) ⟨rfl, rfl, by decide, by decide⟩ (s_X2_join hJ o1 o2 (fun h2 js2 hF2 hJ2 hN2 => ?_))
        refine J_iinc (L' := [_, _, _, _, _, _]) dX0_joinLaid_95 rfl (nI_i1 k) (by decide) rfl ?_
        refine J_goto (tgt := 46) dX0_joinLaid_98 (by decide) ?_
        have hf := nn_of hr c63
        have hR2 := RP.join hJ.w hR o1 o2 (fun e he => by rcases List.mem_append.mp he with he | he; exact hE0 e he; exact EK_lt hO e he) hN2
        have hlen2 : js2 = js ∨ ∃ p, js2 = p :: js := by rcases hN2 with ⟨-, q⟩ | ⟨-, l, t, -, q⟩; exact Or.inl q; exact Or.inr ⟨_, q⟩
        have hd2 : ar ≤ js2.length ∧ js2.drop (js2.length - ar) = js0 := by
          rcases hlen2 with rfl | ⟨p, rfl⟩
          · exact ⟨har, hdr⟩
          · refine ⟨by rw [List.length_cons]; omega, ?_⟩
            rw [List.length_cons, show js.length + 1 - ar = (js.length - ar) + 1 by omega, List.drop_succ_cons]
            exact hdr
        exact ih (k + 1) h2 js2 (by omega) (by omega) (hF.tr (hF2.mono (by omega) (by omega))) (by rw [hcnt, if_pos hf]; exact hP.fr hF2 (by omega)) hJ2 (by rw [EK_s hy, if_pos (show ldP s d k y = true from hf), ← List.append_assoc]; exact hR2) hd2.1 hd2.2
theorem s_X0_joinLaid {s d ar : Nat} {E0 : List (Nat × Nat)} (hs : s < 64) (hdd : d < 7) (hE0 : ∀ e ∈ E0, e.1 < 16 ∧ e.2 < 16) (hA : LA h b ls) (hd : b + 5 ≤ a ∨ a + 6 ≤ b) (hP : HR h a x1 x2 x3 x4 x5 g) (hJ : JA h (a + 1) 16 js) (har : ar ≤ js.length) (har0 : d = 0 → ar = 0) (har1 : 0 < d → g (d - 1) = nI ar) (hR : RP 16 (js.drop (js.length - ar)) E0)
    (hQ : ∀ h' js', Fr a (a + 6) h h' → HR h' a (nI (ls.countP (ldB s d))) (nI (js'.length - ar)) x3 x4 x5 (upd g d (nI js'.length)) → JA h' (a + 1) 16 js' → RP 16 js' (E0 ++ EK ls (ldP s d) ls.length) → ar ≤ js'.length → js'.drop (js'.length - ar) = js.drop (js.length - ar) → Q none h') : MJ m_X0_joinLaid 3 0 0 [.ref a, .ref b, .int (nI s), .int (nI d)] h Q := by
  have hl := hJ.len
  have K27 : J m_X0_joinLaid 3 0 0 0 0 27 [some (.ref a), some (.ref b), some (.int (nI s)), some (.int (nI d)), none, none] [.int (nI ar)] h Q := by
    refine J_istore (L' := [_, _, _, _, _, _]) dX0_joinLaid_27 (by decide) rfl ?_
    refine J_aload_n dX0_joinLaid_29 rfl ?_
    refine J_get (k := 0) dX0_joinLaid_30 gc_0 fl_RX0_14 (by decide) hP.o hP.bo rfl ?_
    refine J_iload dX0_joinLaid_33 rfl ?_
    refine J_callV (As := [_]) (rest := []) (M' := m_X2_takeBackTo) dX0_joinLaid_35 ml_RX0_57 gm_X2_takeBackTo gv_X2_takeBackTo hJ.o hJ.b rfl rfl rfl (Nat.le_of_ble_eq_true rfl) (by decide) ⟨rfl, rfl, by decide, by decide⟩ (s_X2_takeBackTo hJ har (fun h1 hF1 hJ1 => ?_))
    replace hP := hP.fr hF1 (by omega)
    replace hJ := hJ1
    replace hA := hA.fr hF1 (by omega)
    refine J_aload_n dX0_joinLaid_38 rfl ?_
    refine J_iconst (x := 0) dX0_joinLaid_39 (by decide) ?_
    refine J_put (k := 2) dX0_joinLaid_40 gc_0 fl_RX0_24 (by decide) rfl hP.o hP.bo (Nat.le_of_ble_eq_true rfl) (fun _ => ⟨rfl, rfl⟩) rfl ?_
    replace hP := hP.so (nI 0) x2 x3 x4 x5
    have hF2 := up_fr h1 a (.inr (0, [.ref (a + 1), .ref (a + 5), .int (nI 0), .int x2, .int x3, .int x4, .int x5]))
    replace hJ := hJ.fr hF2 (by omega)
    replace hA := hA.fr hF2 (by omega)
    refine J_iconst (x := 0) dX0_joinLaid_43 (by decide) ?_
    refine J_istore (L' := [_, _, _, _, _, _]) dX0_joinLaid_44 (by decide) rfl ?_
    refine l_X0_joinLaid (js0 := js.drop (js.length - ar)) (E0 := E0) (x2 := x2) (x3 := x3) (x4 := x4) (x5 := x5) (g := g) hs hdd hE0 hA hd (fun h2 js2 k hF4 hP4 hJ4 hR4 har4 hdr4 => ?_) (ls.length + 1) 0 _ _ (by omega) (by omega) Fr.rf (by rw [List.take_zero]; exact hP) hJ (by simpa [EK] using hR) (by rw [List.length_drop]; omega) (by rw [List.length_drop, show js.length - (js.length - ar) - ar = 0 by omega]; rfl)
    have hl4 := hJ4.len
    replace hP := hP4
    replace hJ := hJ4
    refine J_aload_n dX0_joinLaid_101 rfl ?_
    refine J_get (k := 1) dX0_joinLaid_102 gc_0 fl_RX0_20 (by decide) hP.o hP.bo rfl ?_
    refine J_iload_n dX0_joinLaid_105 rfl ?_
    refine J_aload_n dX0_joinLaid_106 rfl ?_
    refine J_get (k := 0) dX0_joinLaid_107 gc_0 fl_RX0_14 (by decide) hP.o hP.bo rfl ?_
    refine J_callV (As := []) (rest := [_, _]) (M' := m_X2_standing) dX0_joinLaid_110 ml_RX0_48 gm_X2_standing gv_X2_standing hJ.o hJ.b rfl rfl rfl (Nat.le_of_ble_eq_true rfl) (by decide) ⟨rfl, rfl, by decide, by decide⟩ (s_X2_standing hJ (fun r hr => ?_))
    subst hr
    refine J_iast dX0_joinLaid_113 hP.c hP.bc (vp_in_nI hdd (by omega)) ?_
    rw [nI_clamp (n := d) (by omega)]
    replace hP := hP.sc (upd g d (nI js2.length))
    replace hJ := hJ.fr (up_fr h2 (a + 5) (.inl (0, 7, .inl (upd g d (nI js2.length))))) (by omega)
    refine J_aload_n dX0_joinLaid_114 rfl ?_
    refine J_aload_n dX0_joinLaid_115 rfl ?_
    refine J_get (k := 0) dX0_joinLaid_116 gc_0 fl_RX0_14 (by decide) hP.o hP.bo rfl ?_
    refine J_callV (As := []) (rest := [_]) (M' := m_X2_standing) dX0_joinLaid_119 ml_RX0_48 gm_X2_standing gv_X2_standing hJ.o hJ.b rfl rfl rfl (Nat.le_of_ble_eq_true rfl) (by decide) ⟨rfl, rfl, by decide, by decide⟩ (s_X2_standing hJ (fun r hr => ?_))
    subst hr
    refine J_iload dX0_joinLaid_122 rfl ?_
    refine J_isub dX0_joinLaid_124 ?_
    rw [pk_sub har4]
    refine J_put (k := 3) dX0_joinLaid_125 gc_0 fl_RX0_28 (by decide) rfl hP.o hP.bo (Nat.le_of_ble_eq_true rfl) (fun _ => ⟨rfl, rfl⟩) rfl ?_
    replace hP := hP.so (nI (ls.countP (ldB s d))) (nI (js2.length - ar)) x3 x4 x5
    replace hJ := hJ.fr (up_fr _ a (.inr (0, [.ref (a + 1), .ref (a + 5), .int (nI (ls.countP (ldB s d))), .int (nI (js2.length - ar)), .int x3, .int x4, .int x5]))) (by omega)
    exact J_vret dX0_joinLaid_128 rfl ⟨rfl, Nat.le_refl _⟩ (hQ _ js2 (((((hF1.mono (by omega) (by omega)).up (by omega) (by omega)).tr hF4).up (by omega) (by omega)).up (by omega) (by omega)) hP hJ hR4 har4 hdr4)
  refine MJ_of_J (L := [some (.ref a), some (.ref b), some (.int (nI s)), some (.int (nI d)), none, none]) (by decide +kernel) rfl (Nat.le_of_ble_eq_true rfl) rfl ?_
  refine J_iload_n dX0_joinLaid_0 rfl ?_
  refine J_if_lt (tgt := 10) dX0_joinLaid_1 (by decide) (fun c1 => absurd c1 (nI_pos (by omega))) (fun c1 => ?_)
  refine J_iload_n dX0_joinLaid_4 rfl ?_
  refine J_bipush (x := 6) dX0_joinLaid_5 (by decide) ?_
  refine J_icmp_le (tgt := 11) dX0_joinLaid_7 (by decide) (fun c7 => ?_) (fun c7 => absurd (show nI d ≤ nI 6 by rw [nI_leI (by omega) (by omega)]; omega) c7)
  refine J_iload_n dX0_joinLaid_11 rfl ?_
  refine J_if_ne (tgt := 19) dX0_joinLaid_12 (by decide) (fun c12 => ?_) (fun c12 => ?_)
  · obtain ⟨e1, hd0⟩ := nI_p1 d c12 (by omega)
    refine J_aload_n dX0_joinLaid_19 rfl ?_
    refine J_get (k := 1) dX0_joinLaid_20 gc_0 fl_RX0_20 (by decide) hP.o hP.bo rfl ?_
    refine J_iload_n dX0_joinLaid_23 rfl ?_
    refine J_iconst (x := 1) dX0_joinLaid_24 (by decide) ?_
    refine J_isub dX0_joinLaid_25 ?_
    rw [e1]
    refine J_iald dX0_joinLaid_26 hP.c hP.bc (vp_in_nI (show d - 1 < 7 by omega) (by omega)) ?_
    rw [nI_clamp (n := d - 1) (by omega), har1 hd0]
    exact K27
  · refine J_iconst (x := 0) dX0_joinLaid_15 (by decide) ?_
    refine J_goto (tgt := 27) dX0_joinLaid_16 (by decide) ?_
    have hd0 : d = 0 := (nI_eq (b := 0) (by omega) (by omega)).mp c12
    obtain rfl := har0 hd0
    exact K27
end SWay
