/-! the whole object: its state is links, history, snapshot, text -/
abbrev St : Type := List Lk × List (List Lk) × Option (List Lk) × List Nat
noncomputable def ci {α : Type} (p : Prop) (x y : α) : α := @ite α p (Classical.propDecidable p) x y
theorem ci_t {α : Type} {p : Prop} {x y : α} (h : p) : ci p x y = x := by unfold ci; exact if_pos h
theorem ci_f {α : Type} {p : Prop} {x y : α} (h : ¬ p) : ci p x y = y := by unfold ci; exact if_neg h
def tN (x : Int32) : Nat := x.toNatClampNeg
theorem tN_n {n : Nat} (h : n < 2 ^ 31) : tN (nI n) = n := nI_clamp h
def act (s : St) (ls : List Lk) : St := (ls, rmb s.2.1 s.1, s.2.2.1, s.2.2.2)
noncomputable def f_add (x y f t : Int32) (s : St) : Int32 × St := ci (¬ (IX x 16 ∧ IX y 16)) (-1, s) (ci (¬ (LF f t ∧ x ≠ y)) (-2, s) (ci (s.1.length = 40) (-3, s) (nI s.1.length, act s (s.1 ++ [(tN x, tN y, tN f, tN t)]))))
noncomputable def f_rem (x : Int32) (s : St) : Int32 × St := ci (¬ IX x s.1.length) (-1, s) (nI (s.1.length - 1), act s (s.1.eraseIdx (tN x)))
noncomputable def f_life (x f t : Int32) (s : St) : Int32 × St := ci (¬ IX x s.1.length) (-1, s) (ci (¬ LF f t) (-2, s) (match s.1[tN x]? with
  | none => (0, s)
  | some y => ci (f = nI y.2.2.1 ∧ t = nI y.2.2.2) (-5, s) (nI (tN t - tN f), act s (s.1.set (tN x) (y.1, y.2.1, tN f, tN t)))))
noncomputable def f_cut (x m : Int32) (s : St) : Int32 × St := ci (¬ IX x s.1.length) (-1, s) (ci (¬ IX m 64) (-2, s) (match s.1[tN x]? with
  | none => (0, s)
  | some y => ci (¬ (lvB (tN m : Int) y = true ∧ lvB ((tN m : Int) - 1) y = true)) (-4, s) (ci (s.1.length = 40) (-3, s) (nI s.1.length, act s (s.1.set (tN x) (y.1, y.2.1, y.2.2.1, tN m) ++ [(y.1, y.2.1, tN m, y.2.2.2)])))))
noncomputable def f_read (s : St) : Int32 × St := match rT s.2.2.2 61 0 [] with
  | (_, some q) => (-100 - nI q, s)
  | (l, none) => ci (40 < s.1.length + l.length) (-3, s) (nI (s.1.length + l.length), act s (s.1 ++ l))
noncomputable def f_clear (m : Int32) (s : St) : Int32 × St := ci (¬ IX m 64) (-1, s) (ci (s.1.countP (lvB (tN m : Int)) = 0) (-5, s) (nI (s.1.countP (lvB (tN m : Int))), act s (s.1.filter (fun x => !lvB (tN m : Int) x))))
noncomputable def f_type (c : Nat) (s : St) : Int32 × St := ci (s.2.2.2.length = 60) (-3, s) (nI (s.2.2.2.length + 1), (s.1, s.2.1, s.2.2.1, s.2.2.2 ++ [c]))
def f_ctext (s : St) : Int32 × St := (nI s.2.2.2.length, (s.1, s.2.1, s.2.2.1, []))
def f_undo (s : St) : Int32 × St := match s.2.1.getLast? with
  | none => (-5, s)
  | some q => (nI (s.2.1.length - 1), (q, s.2.1.dropLast, s.2.2.1, s.2.2.2))
def f_keep (s : St) : Int32 × St := (nI s.1.length, (s.1, s.2.1, some s.1, s.2.2.2))
def f_rest (s : St) : Int32 × St := match s.2.2.1 with
  | none => (-5, s)
  | some q => (nI q.length, act s q)
def snI (o : Option (List Lk)) : Int32 := match o with
  | none => 0
  | some _ => 1
def RR (h : g_H) (a : Nat) (x1 x2 x3 x4 x5 x6 : Int32) : Prop := (1 ≤ a ∧ a ≤ h.2) ∧ h.1 a = .inr (8, [.int x1, .int x2, .int x3, .int x4, .int x5, .int x6])
def RA (h : g_H) (a : Nat) : Prop := ∃ x1 x2 x3 x4 x5 x6 : Int32, RR h a x1 x2 x3 x4 x5 x6
section SRows
variable {h h' : g_H} {a : Nat} {x1 x2 x3 x4 x5 x6 : Int32}
theorem RR.o (p : RR h a x1 x2 x3 x4 x5 x6) : h.1 a = .inr (8, [.int x1, .int x2, .int x3, .int x4, .int x5, .int x6]) := p.2
theorem RR.bo (p : RR h a x1 x2 x3 x4 x5 x6) : 1 ≤ a ∧ a ≤ h.2 := p.1
theorem RR.fr {lo hi : Nat} (p : RR h a x1 x2 x3 x4 x5 x6) (F : Fr lo hi h h') (q : a + 1 ≤ lo ∨ hi ≤ a) : RR h' a x1 x2 x3 x4 x5 x6 := ⟨⟨p.1.1, by rw [F.1]; exact p.1.2⟩, (F.2 a (by omega)).trans p.2⟩
theorem RR.so (p : RR h a x1 x2 x3 x4 x5 x6) (y1 y2 y3 y4 y5 y6 : Int32) : RR (g_up h a (.inr (8, [.int y1, .int y2, .int y3, .int y4, .int y5, .int y6]))) a y1 y2 y3 y4 y5 y6 := ⟨p.1, g_up_s _ _ _⟩
theorem RA.fr {lo hi : Nat} (p : RA h a) (F : Fr lo hi h h') (q : a + 1 ≤ lo ∨ hi ≤ a) : RA h' a := by
  obtain ⟨x1, x2, x3, x4, x5, x6, p⟩ := p
  exact ⟨x1, x2, x3, x4, x5, x6, p.fr F q⟩
end SRows
def CI (h : g_H) (a : Nat) (s : St) : Prop := (1 ≤ a ∧ a + 55 ≤ h.2) ∧ h.1 a = .inr (6, [.ref (a + 1), .ref (a + 6), .int (snI s.2.2.1), .ref (a + 11), .ref (a + 33), .ref (a + 35), .ref (a + 40), .ref (a + 49), .ref (a + 50)]) ∧
  LA h (a + 1) s.1 ∧ (∃ sl, LA h (a + 6) sl ∧ ∀ q, s.2.2.1 = some q → sl = q) ∧ HA h (a + 11) s.2.1 ∧ (∃ pl, TP h (a + 33) s.2.2.2 pl) ∧ (∃ fl, LA h (a + 35) fl) ∧ MA h (a + 40) ∧ RA h (a + 49) ∧ ∃ (x1 x2 x3 x4 x5 : Int32) (g : Nat → Int32) (js : List (Nat × Nat)), HR h (a + 50) x1 x2 x3 x4 x5 g ∧ JA h (a + 51) 16 js
section SFace
variable {h h' : g_H} {a : Nat} {s : St} {Q : Option Value → g_H → Prop}
theorem CI.o (c : CI h a s) : h.1 a = .inr (6, [.ref (a + 1), .ref (a + 6), .int (snI s.2.2.1), .ref (a + 11), .ref (a + 33), .ref (a + 35), .ref (a + 40), .ref (a + 49), .ref (a + 50)]) := c.2.1
theorem CI.bo (c : CI h a s) : 1 ≤ a ∧ a ≤ h.2 := ⟨c.1.1, by have := c.1.2; omega⟩
theorem CI.L (c : CI h a s) : LA h (a + 1) s.1 := c.2.2.1
theorem CI.H (c : CI h a s) : HA h (a + 11) s.2.1 := c.2.2.2.2.1
theorem CI.M (c : CI h a s) : MA h (a + 40) := c.2.2.2.2.2.2.2.1
theorem CI.fr (c : CI h a s) {lo hi : Nat} (F : Fr lo hi h h') (q : a + 56 ≤ lo ∨ hi ≤ a) : CI h' a s := by
  obtain ⟨⟨b1, b2⟩, o, hL, ⟨sl, hS, hs⟩, hH, ⟨pl, hT⟩, ⟨fl, hD⟩, hM, hRo, x1, x2, x3, x4, x5, g, js, hW, hJ⟩ := c
  exact ⟨⟨b1, by rw [F.1]; exact b2⟩, (F.2 a (by omega)).trans o, hL.fr F (by omega), ⟨sl, hS.fr F (by omega), hs⟩, hH.fr F (by omega), ⟨pl, hT.fr F (by omega)⟩, ⟨fl, hD.fr F (by omega)⟩, hM.fr F (by omega), hRo.fr F (by omega), x1, x2, x3, x4, x5, g, js, hW.fr F (by omega), hJ.fr F (by omega)⟩
theorem CI.links {ls' : List Lk} (c : CI h a s) (F : Fr (a + 1) ((a + 1) + 5) h h') (N : LA h' (a + 1) ls') : CI h' a (ls', s.2.1, s.2.2.1, s.2.2.2) := by
  obtain ⟨⟨b1, b2⟩, o, hL, ⟨sl, hS, hs⟩, hH, ⟨pl, hT⟩, ⟨fl, hD⟩, hM, hRo, x1, x2, x3, x4, x5, g, js, hW, hJ⟩ := c
  exact ⟨⟨b1, by rw [F.1]; exact b2⟩, (F.2 a (by omega)).trans o, N, ⟨sl, hS.fr F (by omega), hs⟩, hH.fr F (by omega), ⟨pl, hT.fr F (by omega)⟩, ⟨fl, hD.fr F (by omega)⟩, hM.fr F (by omega), hRo.fr F (by omega), x1, x2, x3, x4, x5, g, js, hW.fr F (by omega), hJ.fr F (by omega)⟩
theorem CI.hist {hs' : List (List Lk)} (c : CI h a s) (F : Fr (a + 11) ((a + 11) + 22) h h') (N : HA h' (a + 11) hs') : CI h' a (s.1, hs', s.2.2.1, s.2.2.2) := by
  obtain ⟨⟨b1, b2⟩, o, hL, ⟨sl, hS, hs⟩, hH, ⟨pl, hT⟩, ⟨fl, hD⟩, hM, hRo, x1, x2, x3, x4, x5, g, js, hW, hJ⟩ := c
  exact ⟨⟨b1, by rw [F.1]; exact b2⟩, (F.2 a (by omega)).trans o, hL.fr F (by omega), ⟨sl, hS.fr F (by omega), hs⟩, N, ⟨pl, hT.fr F (by omega)⟩, ⟨fl, hD.fr F (by omega)⟩, hM.fr F (by omega), hRo.fr F (by omega), x1, x2, x3, x4, x5, g, js, hW.fr F (by omega), hJ.fr F (by omega)⟩
theorem CI.text {tx' : List Nat} {pl' : Int32} (c : CI h a s) (F : Fr (a + 33) ((a + 33) + 2) h h') (N : TP h' (a + 33) tx' pl') : CI h' a (s.1, s.2.1, s.2.2.1, tx') := by
  obtain ⟨⟨b1, b2⟩, o, hL, ⟨sl, hS, hs⟩, hH, ⟨pl, hT⟩, ⟨fl, hD⟩, hM, hRo, x1, x2, x3, x4, x5, g, js, hW, hJ⟩ := c
  exact ⟨⟨b1, by rw [F.1]; exact b2⟩, (F.2 a (by omega)).trans o, hL.fr F (by omega), ⟨sl, hS.fr F (by omega), hs⟩, hH.fr F (by omega), ⟨_, N⟩, ⟨fl, hD.fr F (by omega)⟩, hM.fr F (by omega), hRo.fr F (by omega), x1, x2, x3, x4, x5, g, js, hW.fr F (by omega), hJ.fr F (by omega)⟩
theorem CI.found {fl' : List Lk} {pl' : Int32} (c : CI h a s) (F : Fr (a + 33) ((a + 33) + 7) h h') (N : TP h' (a + 33) s.2.2.2 pl') (N2 : LA h' (a + 35) fl') : CI h' a s := by
  obtain ⟨⟨b1, b2⟩, o, hL, ⟨sl, hS, hs⟩, hH, ⟨pl, hT⟩, ⟨fl, hD⟩, hM, hRo, x1, x2, x3, x4, x5, g, js, hW, hJ⟩ := c
  exact ⟨⟨b1, by rw [F.1]; exact b2⟩, (F.2 a (by omega)).trans o, hL.fr F (by omega), ⟨sl, hS.fr F (by omega), hs⟩, hH.fr F (by omega), ⟨_, N⟩, ⟨_, N2⟩, hM.fr F (by omega), hRo.fr F (by omega), x1, x2, x3, x4, x5, g, js, hW.fr F (by omega), hJ.fr F (by omega)⟩
theorem CI.mom  (c : CI h a s) (F : Fr (a + 40) ((a + 40) + 9) h h') (N : MA h' (a + 40)) : CI h' a s := by
  obtain ⟨⟨b1, b2⟩, o, hL, ⟨sl, hS, hs⟩, hH, ⟨pl, hT⟩, ⟨fl, hD⟩, hM, hRo, x1, x2, x3, x4, x5, g, js, hW, hJ⟩ := c
  exact ⟨⟨b1, by rw [F.1]; exact b2⟩, (F.2 a (by omega)).trans o, hL.fr F (by omega), ⟨sl, hS.fr F (by omega), hs⟩, hH.fr F (by omega), ⟨pl, hT.fr F (by omega)⟩, ⟨fl, hD.fr F (by omega)⟩, N, hRo.fr F (by omega), x1, x2, x3, x4, x5, g, js, hW.fr F (by omega), hJ.fr F (by omega)⟩
theorem CI.rows  (c : CI h a s) (F : Fr (a + 49) ((a + 49) + 1) h h') (N : RA h' (a + 49)) : CI h' a s := by
  obtain ⟨⟨b1, b2⟩, o, hL, ⟨sl, hS, hs⟩, hH, ⟨pl, hT⟩, ⟨fl, hD⟩, hM, hRo, x1, x2, x3, x4, x5, g, js, hW, hJ⟩ := c
  exact ⟨⟨b1, by rw [F.1]; exact b2⟩, (F.2 a (by omega)).trans o, hL.fr F (by omega), ⟨sl, hS.fr F (by omega), hs⟩, hH.fr F (by omega), ⟨pl, hT.fr F (by omega)⟩, ⟨fl, hD.fr F (by omega)⟩, hM.fr F (by omega), N, x1, x2, x3, x4, x5, g, js, hW.fr F (by omega), hJ.fr F (by omega)⟩
theorem CI.way {x1' x2' x3' x4' x5' : Int32} {g' : Nat → Int32} {js' : List (Nat × Nat)} (c : CI h a s) (F : Fr (a + 50) ((a + 50) + 6) h h') (N : HR h' (a + 50) x1' x2' x3' x4' x5' g') (N2 : JA h' (a + 51) 16 js') : CI h' a s := by
  obtain ⟨⟨b1, b2⟩, o, hL, ⟨sl, hS, hs⟩, hH, ⟨pl, hT⟩, ⟨fl, hD⟩, hM, hRo, x1, x2, x3, x4, x5, g, js, hW, hJ⟩ := c
  exact ⟨⟨b1, by rw [F.1]; exact b2⟩, (F.2 a (by omega)).trans o, hL.fr F (by omega), ⟨sl, hS.fr F (by omega), hs⟩, hH.fr F (by omega), ⟨pl, hT.fr F (by omega)⟩, ⟨fl, hD.fr F (by omega)⟩, hM.fr F (by omega), hRo.fr F (by omega), _, _, _, _, _, _, _, N, N2⟩
theorem CI.snap {q : List Lk} (c : CI h a s) (F : Fr (a + 6) (a + 6 + 5) h h') (N : LA h' (a + 6) q) : CI (g_up h' a (.inr (6, [.ref (a + 1), .ref (a + 6), .int 1, .ref (a + 11), .ref (a + 33), .ref (a + 35), .ref (a + 40), .ref (a + 49), .ref (a + 50)]))) a (s.1, s.2.1, some q, s.2.2.2) := by
  obtain ⟨⟨b1, b2⟩, o, hL, -, hH, ⟨pl, hT⟩, ⟨fl, hD⟩, hM, hRo, x1, x2, x3, x4, x5, g, js, hW, hJ⟩ := c
  have G := up_fr h' a (.inr (6, [.ref (a + 1), .ref (a + 6), .int 1, .ref (a + 11), .ref (a + 33), .ref (a + 35), .ref (a + 40), .ref (a + 49), .ref (a + 50)]))
  exact ⟨⟨b1, by rw [g_up_2, F.1]; exact b2⟩, g_up_s h' _ _, (hL.fr F (by omega)).fr G (by omega), ⟨q, N.fr G (by omega), fun z e => by cases e; rfl⟩, (hH.fr F (by omega)).fr G (by omega), ⟨pl, (hT.fr F (by omega)).fr G (by omega)⟩, ⟨fl, (hD.fr F (by omega)).fr G (by omega)⟩, (hM.fr F (by omega)).fr G (by omega), (hRo.fr F (by omega)).fr G (by omega), x1, x2, x3, x4, x5, g, js, (hW.fr F (by omega)).fr G (by omega), (hJ.fr F (by omega)).fr G (by omega)⟩
theorem s_X6_addLink {x y f t : Int32} (hC : CI h a s) (hQ : ∀ h' r s', (r, s') = f_add x y f t s → Fr a (a + 56) h h' → CI h' a s' → Q (some (.int r)) h') : MJ m_X6_addLink 5 0 0 [.ref a, .int x, .int y, .int f, .int t] h Q := by
  have hn := hC.L.len
  refine MJ_of_J (L := [some (.ref a), some (.int x), some (.int y), some (.int f), some (.int t)]) (by decide +kernel) rfl (Nat.le_of_ble_eq_true rfl) rfl ?_
  refine J_iload_n dX6_addLink_0 rfl ?_
  refine J_callS (As := [_]) (rest := []) (M' := m_X6_isPoint) dX6_addLink_1 ml_RX6_61 gm_X6_isPoint sm_yX6_isPoint rfl rfl (Nat.le_of_ble_eq_true rfl) (by decide) ⟨rfl, rfl, by decide, by decide⟩ (s_X6_isPoint (fun r1 hr1 => ?_))
  refine J_if_eq (tgt := 14) dX6_addLink_4 (by decide) (fun c4 => ?_) (fun c4 => ?_)
  · refine J_iconst (x := -1) dX6_addLink_14 (by decide) ?_
    exact J_iret dX6_addLink_15 rfl ⟨rfl, Nat.le_refl _⟩ (hQ h _ s (by unfold f_add; rw [ci_t (fun q => (bI_0 hr1).mp c4 q.1)]) Fr.rf hC)
  · refine J_iload_n dX6_addLink_7 rfl ?_
    refine J_callS (As := [_]) (rest := []) (M' := m_X6_isPoint) dX6_addLink_8 ml_RX6_61 gm_X6_isPoint sm_yX6_isPoint rfl rfl (Nat.le_of_ble_eq_true rfl) (by decide) ⟨rfl, rfl, by decide, by decide⟩ (s_X6_isPoint (fun r2 hr2 => ?_))
    refine J_if_ne (tgt := 16) dX6_addLink_11 (by decide) (fun c11 => ?_) (fun c11 => ?_)
    · refine J_iload_n dX6_addLink_16 rfl ?_
      refine J_iload dX6_addLink_17 rfl ?_
      refine J_callS (As := [_, _]) (rest := []) (M' := m_X6_isLife) dX6_addLink_19 ml_RX6_65 gm_X6_isLife sm_yX6_isLife rfl rfl (Nat.le_of_ble_eq_true rfl) (by decide) ⟨rfl, rfl, by decide, by decide⟩ (s_X6_isLife (fun r3 hr3 => ?_))
      refine J_if_eq (tgt := 30) dX6_addLink_22 (by decide) (fun c22 => ?_) (fun c22 => ?_)
      · refine J_bipush (x := -2) dX6_addLink_30 (by decide) ?_
        exact J_iret dX6_addLink_32 rfl ⟨rfl, Nat.le_refl _⟩ (hQ h _ s (by unfold f_add; rw [ci_f (fun q => q ⟨nn_of hr1 c4, nn_of hr2 c11⟩), ci_t (fun q => (bI_0 hr3).mp c22 q.1)]) Fr.rf hC)
      · refine J_iload_n dX6_addLink_25 rfl ?_
        refine J_iload_n dX6_addLink_26 rfl ?_
        refine J_icmp_ne (tgt := 33) dX6_addLink_27 (by decide) (fun c27 => ?_) (fun c27 => ?_)
        · refine J_aload_n dX6_addLink_33 rfl ?_
          refine J_get (k := 0) dX6_addLink_34 gc_6 fl_RX6_10 (by decide) hC.o hC.bo rfl ?_
          refine J_callV (As := []) (rest := []) (M' := m_X4_room) dX6_addLink_37 ml_RX6_69 gm_X4_room gv_X4_room hC.L.o hC.L.b rfl rfl rfl (Nat.le_of_ble_eq_true rfl) (by decide) ⟨rfl, rfl, by decide, by decide⟩ (s_X4_room hC.L (fun r4 hr4 => ?_))
          subst hr4
          refine J_iconst (x := 1) dX6_addLink_40 (by decide) ?_
          refine J_icmp_ge (tgt := 47) dX6_addLink_41 (by decide) (fun c41 => ?_) (fun c41 => ?_)
          · refine J_aload_n dX6_addLink_47 rfl ?_
            refine J_get (k := 3) dX6_addLink_48 gc_6 fl_RX6_26 (by decide) hC.o hC.bo rfl ?_
            refine J_aload_n dX6_addLink_51 rfl ?_
            refine J_get (k := 0) dX6_addLink_52 gc_6 fl_RX6_10 (by decide) hC.o hC.bo rfl ?_
            refine J_callV (As := [_]) (rest := []) (M' := m_X1_remember) dX6_addLink_55 ml_RX6_73 gm_X1_remember gv_X1_remember hC.H.o hC.H.bo rfl rfl rfl (Nat.le_of_ble_eq_true rfl) (by decide) ⟨rfl, rfl, by decide, by decide⟩ (s_X1_remember hC.H hC.L (by omega) (fun h1 hF1 hH1 => ?_))
            have hC0 := hC
            replace hC := hC.hist hF1 hH1
            obtain ⟨i, hi, rfl⟩ := nn_of hr1 c4
            obtain ⟨j, hj, rfl⟩ := nn_of hr2 c11
            obtain ⟨b, e, he, h64, rfl, rfl⟩ := nn_of hr3 c22
            have hne : i ≠ j := fun q => c27 (by rw [q])
            have c41 : s.1.length < 40 := by
              have c41 : nI 1 ≤ nI (40 - s.1.length) := c41
              rw [nI_leI (by omega) (by omega)] at c41
              omega
            refine J_aload_n dX6_addLink_58 rfl ?_
            refine J_get (k := 0) dX6_addLink_59 gc_6 fl_RX6_10 (by decide) hC.o hC.bo rfl ?_
            refine J_iload_n dX6_addLink_62 rfl ?_
            refine J_iload_n dX6_addLink_63 rfl ?_
            refine J_iload_n dX6_addLink_64 rfl ?_
            refine J_iload dX6_addLink_65 rfl ?_
            refine J_callV (As := [_, _, _, _]) (rest := []) (M' := m_X4_add) dX6_addLink_67 ml_RX6_77 gm_X4_add gv_X4_add hC.L.o hC.L.b rfl rfl rfl (Nat.le_of_ble_eq_true rfl) (by decide) ⟨rfl, rfl, by decide, by decide⟩ (s_X4_add (y := (i, j, b, e)) hC.L ⟨hi, hj, hne, he, h64⟩ c41 (fun h2 hF2 hL2 => ?_))
            replace hC := hC.links hF2 hL2
            refine J_aload_n dX6_addLink_70 rfl ?_
            refine J_get (k := 0) dX6_addLink_71 gc_6 fl_RX6_10 (by decide) hC.o hC.bo rfl ?_
            refine J_callV (As := []) (rest := []) (M' := m_X4_size) dX6_addLink_74 ml_RX6_81 gm_X4_size gv_X4_size hC.L.o hC.L.b rfl rfl rfl (Nat.le_of_ble_eq_true rfl) (by decide) ⟨rfl, rfl, by decide, by decide⟩ (s_X4_size hC.L (fun r5 hr5 => ?_))
            subst hr5
            refine J_iconst (x := 1) dX6_addLink_77 (by decide) ?_
            refine J_isub dX6_addLink_78 ?_
            exact J_iret dX6_addLink_79 rfl ⟨rfl, Nat.le_refl _⟩ (hQ _ _ _ (by unfold f_add; rw [ci_f (fun q => q ⟨nn_of hr1 c4, nn_of hr2 c11⟩), ci_f (fun q => q ⟨nn_of hr3 c22, c27⟩), ci_f (by omega), tN_n (by omega), tN_n (by omega), tN_n (by omega), tN_n (by omega)]; show (nI (s.1 ++ [(i, j, b, e)]).length - 1, _) = _; rw [List.length_append]; exact congrArg (fun z => (z, act s (s.1 ++ [(i, j, b, e)]))) (nI_pred s.1.length)) ((hF1.mono (by omega) (by omega)).tr (hF2.mono (by omega) (by omega))) hC)
          · refine J_bipush (x := -3) dX6_addLink_44 (by decide) ?_
            exact J_iret dX6_addLink_46 rfl ⟨rfl, Nat.le_refl _⟩ (hQ h _ s (by unfold f_add; rw [ci_f (fun q => q ⟨nn_of hr1 c4, nn_of hr2 c11⟩), ci_f (fun q => q ⟨nn_of hr3 c22, c27⟩), ci_t (by have c41 : ¬ nI 1 ≤ nI (40 - s.1.length) := c41; rw [nI_leI (by omega) (by omega)] at c41; omega)]) Fr.rf hC)
        · refine J_bipush (x := -2) dX6_addLink_30 (by decide) ?_
          exact J_iret dX6_addLink_32 rfl ⟨rfl, Nat.le_refl _⟩ (hQ h _ s (by unfold f_add; rw [ci_f (fun q => q ⟨nn_of hr1 c4, nn_of hr2 c11⟩), ci_t (fun q => q.2 c27)]) Fr.rf hC)
    · refine J_iconst (x := -1) dX6_addLink_14 (by decide) ?_
      exact J_iret dX6_addLink_15 rfl ⟨rfl, Nat.le_refl _⟩ (hQ h _ s (by unfold f_add; rw [ci_t (fun q => (bI_0 hr2).mp c11 q.2)]) Fr.rf hC)
theorem s_X6_removeLink {x : Int32} (hC : CI h a s) (hQ : ∀ h' r s', (r, s') = f_rem x s → Fr a (a + 56) h h' → CI h' a s' → Q (some (.int r)) h') : MJ m_X6_removeLink 5 0 0 [.ref a, .int x] h Q := by
  have hn := hC.L.len
  refine MJ_of_J (L := [some (.ref a), some (.int x)]) (by decide +kernel) rfl (Nat.le_of_ble_eq_true rfl) rfl ?_
  refine J_aload_n dX6_removeLink_0 rfl ?_
  refine J_get (k := 0) dX6_removeLink_1 gc_6 fl_RX6_10 (by decide) hC.o hC.bo rfl ?_
  refine J_iload_n dX6_removeLink_4 rfl ?_
  refine J_callV (As := [_]) (rest := []) (M' := m_X4_has) dX6_removeLink_5 ml_RX6_84 gm_X4_has gv_X4_has hC.L.o hC.L.b rfl rfl rfl (Nat.le_of_ble_eq_true rfl) (by decide) ⟨rfl, rfl, by decide, by decide⟩ (s_X4_has hC.L (fun r1 hr1 => ?_))
  refine J_if_ne (tgt := 13) dX6_removeLink_8 (by decide) (fun c8 => ?_) (fun c8 => ?_)
  · obtain ⟨j, hj, rfl⟩ := nn_of hr1 c8
    obtain ⟨y, hy⟩ := get_of hj
    have hyO := hC.L.ok y (List.mem_of_getElem? hy)
    obtain ⟨o1, o2, o3, o4, o5⟩ := hyO
    refine J_aload_n dX6_removeLink_13 rfl ?_
    refine J_get (k := 3) dX6_removeLink_14 gc_6 fl_RX6_26 (by decide) hC.o hC.bo rfl ?_
    refine J_aload_n dX6_removeLink_17 rfl ?_
    refine J_get (k := 0) dX6_removeLink_18 gc_6 fl_RX6_10 (by decide) hC.o hC.bo rfl ?_
    refine J_callV (As := [_]) (rest := []) (M' := m_X1_remember) dX6_removeLink_21 ml_RX6_73 gm_X1_remember gv_X1_remember hC.H.o hC.H.bo rfl rfl rfl (Nat.le_of_ble_eq_true rfl) (by decide) ⟨rfl, rfl, by decide, by decide⟩ (s_X1_remember hC.H hC.L (by omega) (fun h1 hF1 hH1 => ?_))
    have hC0 := hC
    replace hC := hC.hist hF1 hH1
    refine J_aload_n dX6_removeLink_24 rfl ?_
    refine J_get (k := 0) dX6_removeLink_25 gc_6 fl_RX6_10 (by decide) hC.o hC.bo rfl ?_
    refine J_iload_n dX6_removeLink_28 rfl ?_
    refine J_callV (As := [_]) (rest := []) (M' := m_X4_removeAt) dX6_removeLink_29 ml_RX6_87 gm_X4_removeAt gv_X4_removeAt hC.L.o hC.L.b rfl rfl rfl (Nat.le_of_ble_eq_true rfl) (by decide) ⟨rfl, rfl, by decide, by decide⟩ (s_X4_removeAt hC.L hj (fun h2 hF2 hL2 => ?_))
    replace hC := hC.links hF2 hL2
    refine J_aload_n dX6_removeLink_32 rfl ?_
    refine J_get (k := 0) dX6_removeLink_33 gc_6 fl_RX6_10 (by decide) hC.o hC.bo rfl ?_
    refine J_callV (As := []) (rest := []) (M' := m_X4_size) dX6_removeLink_36 ml_RX6_81 gm_X4_size gv_X4_size hC.L.o hC.L.b rfl rfl rfl (Nat.le_of_ble_eq_true rfl) (by decide) ⟨rfl, rfl, by decide, by decide⟩ (s_X4_size hC.L (fun r5 hr5 => ?_))
    subst hr5
    exact J_iret dX6_removeLink_39 rfl ⟨rfl, Nat.le_refl _⟩ (hQ _ _ _ (by unfold f_rem; rw [ci_f (fun q => q (nn_of hr1 c8)), tN_n (by omega)]; show (nI (s.1.eraseIdx j).length, _) = _; rw [List.length_eraseIdx, if_pos hj]; rfl) ((hF1.mono (by omega) (by omega)).tr (hF2.mono (by omega) (by omega))) hC)
  · refine J_iconst (x := -1) dX6_removeLink_11 (by decide) ?_
    exact J_iret dX6_removeLink_12 rfl ⟨rfl, Nat.le_refl _⟩ (hQ h _ s (by unfold f_rem; rw [ci_t ((bI_0 hr1).mp c8)]) Fr.rf hC)
end SFace
