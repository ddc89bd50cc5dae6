/-! the history: four Links objects, whose places in the row are moved about -/
def XR (h : g_H) (a : Nat) (n : Int32) (f : Nat → Option Nat) : Prop := (1 ≤ a ∧ a + 21 ≤ h.2) ∧ h.1 a = .inr (1, [.ref (a + 1), .int n]) ∧ h.1 (a + 1) = .inl (2, 4, .inr (.inr (.inr (.inr f))))
def XV (h : g_H) (a : Nat) (hs : List (List Lk)) (f : Nat → Option Nat) : Prop := ∃ σ : Nat → Nat, (∀ i, i < 4 → σ i < 4 ∧ f i = some (a + 2 + 5 * σ i)) ∧ (∀ i, i < 4 → ∀ j, j < 4 → σ i = σ j → i = j) ∧ ∀ i, i < 4 → ∃ l, LA h (a + 2 + 5 * σ i) l ∧ ∀ q, hs[i]? = some q → l = q
def HA (h : g_H) (a : Nat) (hs : List (List Lk)) : Prop := hs.length ≤ 4 ∧ ∃ f, XR h a (nI hs.length) f ∧ XV h a hs f
section SHist
variable {h h' : g_H} {a b : Nat} {n : Int32} {f : Nat → Option Nat} {ls : List Lk} {hs : List (List Lk)} {Q : Option Value → g_H → Prop}
theorem XR.o (p : XR h a n f) : h.1 a = .inr (1, [.ref (a + 1), .int n]) := p.2.1
theorem XR.bo (p : XR h a n f) : 1 ≤ a ∧ a ≤ h.2 := ⟨p.1.1, by have := p.1.2; omega⟩
theorem XR.c (p : XR h a n f) : h.1 (a + 1) = .inl (2, 4, .inr (.inr (.inr (.inr f)))) := p.2.2
theorem XR.bc (p : XR h a n f) : 1 ≤ a + 1 ∧ a + 1 ≤ h.2 := ⟨by omega, by have := p.1.2; omega⟩
theorem XR.fr {lo hi : Nat} (p : XR h a n f) (F : Fr lo hi h h') (q : a + 2 ≤ lo ∨ hi ≤ a) : XR h' a n f := ⟨⟨p.1.1, by rw [F.1]; exact p.1.2⟩, (F.2 a (by omega)).trans p.o, (F.2 (a + 1) (by omega)).trans p.c⟩
theorem XR.so (p : XR h a n f) (m : Int32) : XR (g_up h a (.inr (1, [.ref (a + 1), .int m]))) a m f := ⟨p.1, g_up_s h _ _, (g_up_n h _ (by omega)).trans p.c⟩
theorem XR.sc (p : XR h a n f) (g : Nat → Option Nat) : XR (g_up h (a + 1) (.inl (2, 4, .inr (.inr (.inr (.inr g)))))) a n g := ⟨p.1, (g_up_n h _ (by omega)).trans p.o, g_up_s h _ _⟩
theorem XV.fr {lo hi : Nat} (p : XV h a hs f) (F : Fr lo hi h h') (q : a + 22 ≤ lo ∨ hi ≤ a + 2) : XV h' a hs f := by
  obtain ⟨σ, p1, p2, p3⟩ := p
  refine ⟨σ, p1, p2, fun i hi => ?_⟩
  obtain ⟨l, q1, q2⟩ := p3 i hi
  have := (p1 i hi).1
  exact ⟨l, q1.fr F (by omega), q2⟩
theorem HA.fr {lo hi : Nat} (p : HA h a hs) (F : Fr lo hi h h') (q : a + 22 ≤ lo ∨ hi ≤ a) : HA h' a hs := by
  obtain ⟨p0, f, p1, p2⟩ := p
  exact ⟨p0, f, p1.fr F (by omega), p2.fr F (by omega)⟩
theorem HA.o (p : HA h a hs) : h.1 a = .inr (1, [.ref (a + 1), .int (nI hs.length)]) := by
  obtain ⟨p0, f, p1, p2⟩ := p
  exact p1.o
theorem HA.bo (p : HA h a hs) : 1 ≤ a ∧ a ≤ h.2 := by
  obtain ⟨p0, f, p1, p2⟩ := p
  exact p1.bo
theorem XV.at (p : XV h a hs f) {i : Nat} (hi : i < 4) : ∃ b l, f i = some b ∧ (a + 2 ≤ b ∧ b + 5 ≤ a + 22) ∧ LA h b l ∧ ∀ q, hs[i]? = some q → l = q := by
  obtain ⟨σ, p1, p2, p3⟩ := p
  obtain ⟨l, q1, q2⟩ := p3 i hi
  have := p1 i hi
  exact ⟨_, l, this.2, by have := this.1; omega, q1, q2⟩
theorem s_X1_size (hH : HA h a hs) (hQ : ∀ r, r = nI hs.length → Q (some (.int r)) h) : MJ m_X1_size 0 0 0 [.ref a] h Q := by
  obtain ⟨hn, f, hP, hV⟩ := hH
  refine MJ_of_J (L := [some (.ref a)]) (by decide +kernel) rfl (Nat.le_of_ble_eq_true rfl) rfl ?_
  refine J_aload_n dX1_size_0 rfl ?_
  refine J_get (k := 1) dX1_size_1 gc_1 fl_RX1_18 (by decide) hP.o hP.bo rfl ?_
  exact J_iret dX1_size_4 rfl ⟨rfl, Nat.le_refl _⟩ (hQ _ rfl)
def shO (k : Nat) (f : Nat → Option Nat) : Nat → Option Nat := fun i => if i + 1 < k then f (i + 1) else f i
theorem shO_1 (f : Nat → Option Nat) : shO 1 f = f := by
  funext i
  unfold shO
  rw [if_neg (by omega)]
theorem shO_k (k : Nat) (f : Nat → Option Nat) : shO k f k = f k := by
  unfold shO
  rw [if_neg (by omega)]
theorem shO_s {k : Nat} (f : Nat → Option Nat) (h : 1 ≤ k) {b : Nat} (hb : f k = some b) : va_up (shO k f) (k - 1) (some b) = shO (k + 1) f := by
  funext i
  unfold va_up shO
  by_cases e : i = k - 1
  · subst e
    rw [if_pos rfl, if_pos (by omega), show k - 1 + 1 = k by omega, hb]
  · rw [if_neg e]
    by_cases q : i + 1 < k
    · rw [if_pos q, if_pos (by omega)]
    · rw [if_neg q, if_neg (by omega)]
theorem XV.drop {b : Nat} (p : XV h a hs f) (hb : f 0 = some b) (hl : hs.length ≤ 4) : XV h a (hs.drop 1) (va_up (shO 4 f) 3 (some b)) := by
  obtain ⟨σ, p1, p2, p3⟩ := p
  have hb0 := (p1 0 (by omega)).2
  rw [hb] at hb0
  have e : ∀ i, i < 4 → (va_up (shO 4 f) 3 (some b)) i = f (if i = 3 then 0 else i + 1) := by
    intro i hi
    unfold va_up shO
    by_cases q : i = 3
    · rw [if_pos q, if_pos q, hb]
    · rw [if_neg q, if_neg q, if_pos (by omega)]
  refine ⟨fun i => σ (if i = 3 then 0 else i + 1), fun i hi => ?_, fun i hi j hj q => ?_, fun i hi => ?_⟩
  · rw [e i hi]
    exact p1 _ (by split <;> omega)
  · have := p2 _ (show (if i = 3 then 0 else i + 1) < 4 by split <;> omega) _ (show (if j = 3 then 0 else j + 1) < 4 by split <;> omega) q
    split at this <;> split at this <;> omega
  · obtain ⟨l, q1, q2⟩ := p3 (if i = 3 then 0 else i + 1) (by split <;> omega)
    refine ⟨l, q1, fun q hq => ?_⟩
    rw [List.getElem?_drop] at hq
    have h4 : 1 + i < hs.length := get_lt hq
    refine q2 q ?_
    rw [if_neg (by omega), Nat.add_comm]
    exact hq
theorem l_X1_dropOldest {n : Int32} {b : Nat} (hV0 : XV h a hs f) (hb : f 0 = some b) (hl : hs.length ≤ 4) (hQ : ∀ h', Fr a (a + 2) h h' → XR h' a (nI 3) (va_up (shO 4 f) 3 (some b)) → Q none h') : ∀ (t k : Nat) (h1 : g_H), 4 - k < t → 1 ≤ k → k ≤ 4 → Fr a (a + 2) h h1 → XR h1 a n (shO k f) → J m_X1_dropOldest 0 0 0 0 0 9 [some (.ref a), some (.ref b), some (.int (nI k))] [] h1 Q := by
  intro t
  induction t with
  | zero => intro k h1 ht; omega
  | succ t ih =>
    intro k h1 ht hk0 hk hF hP
    have ek : nI k - 1 = nI (k - 1) := pk_sub (b := 1) (by omega)
    have hV := hV0.fr hF (by omega)
    refine J_iload_n dX1_dropOldest_9 rfl ?_
    refine J_iconst (x := 4) dX1_dropOldest_10 (by decide) ?_
    refine J_icmp_ge (tgt := 34) dX1_dropOldest_11 (by decide) (fun c11 => ?_) (fun c11 => ?_)
    · have c11 := (nI_leI (a := 4) (b := k) (by omega) (by omega)).mp c11
      obtain rfl : k = 4 := by omega
      obtain ⟨b0, l0, g1, g2, g3, -⟩ := hV.at (show 0 < 4 by omega)
      obtain rfl : b0 = b := by rw [hb] at g1; exact (Option.some.inj g1).symm
      refine J_aload_n dX1_dropOldest_34 rfl ?_
      refine J_get (k := 0) dX1_dropOldest_35 gc_1 fl_RX1_11 (by decide) hP.o hP.bo rfl ?_
      refine J_iconst (x := 3) dX1_dropOldest_38 (by decide) ?_
      refine J_aload_n dX1_dropOldest_39 rfl ?_
      refine J_aast dX1_dropOldest_40 hP.c hP.bc (vp_in_nI (n := 3) (by decide) (by decide)) g3.o g3.b ?_
      replace hP := hP.sc (va_up (shO 4 f) 3 (some b0))
      refine J_aload_n dX1_dropOldest_41 rfl ?_
      refine J_iconst (x := 3) dX1_dropOldest_42 (by decide) ?_
      refine J_put (k := 1) dX1_dropOldest_43 gc_1 fl_RX1_18 (by decide) rfl hP.o hP.bo (Nat.le_of_ble_eq_true rfl) (fun _ => ⟨rfl, rfl⟩) rfl ?_
      replace hP := hP.so (nI 3)
      exact J_vret dX1_dropOldest_46 rfl ⟨rfl, Nat.le_refl _⟩ (hQ _ ((hF.up (by omega) (by omega)).up (by omega) (by omega)) hP)
    · have c11 : k < 4 := Nat.not_le.mp (fun q => c11 ((nI_leI (a := 4) (b := k) (by omega) (by omega)).mpr q))
      obtain ⟨bk, lk, g1, g2, g3, -⟩ := hV.at c11
      refine J_aload_n dX1_dropOldest_14 rfl ?_
      refine J_get (k := 0) dX1_dropOldest_15 gc_1 fl_RX1_11 (by decide) hP.o hP.bo rfl ?_
      refine J_iload_n dX1_dropOldest_18 rfl ?_
      refine J_iconst (x := 1) dX1_dropOldest_19 (by decide) ?_
      refine J_isub dX1_dropOldest_20 ?_
      rw [ek]
      refine J_aload_n dX1_dropOldest_21 rfl ?_
      refine J_get (k := 0) dX1_dropOldest_22 gc_1 fl_RX1_11 (by decide) hP.o hP.bo rfl ?_
      refine J_iload_n dX1_dropOldest_25 rfl ?_
      refine J_aald dX1_dropOldest_26 hP.c hP.bc (vp_in_nI c11 (by decide)) (by rw [nI_clamp (by omega), shO_k]; exact g1) ?_
      refine J_aast dX1_dropOldest_27 hP.c hP.bc (vp_in_nI (show k - 1 < 4 by omega) (by decide)) g3.o g3.b ?_
      rw [nI_clamp (n := k - 1) (by omega), shO_s f hk0 g1]
      replace hP := hP.sc (shO (k + 1) f)
      refine J_iinc (L' := [_, _, _]) dX1_dropOldest_28 rfl (nI_i1 k) (by decide) rfl ?_
      refine J_goto (tgt := 9) dX1_dropOldest_31 (by decide) ?_
      exact ih (k + 1) _ (by omega) (by omega) (by omega) (hF.up (by omega) (by omega)) hP
theorem s_X1_dropOldest {n : Int32} (hP : XR h a n f) (hV : XV h a hs f) (hl : hs.length ≤ 4) (hQ : ∀ h' b, f 0 = some b → Fr a (a + 2) h h' → XR h' a (nI 3) (va_up (shO 4 f) 3 (some b)) → Q none h') : MJ m_X1_dropOldest 0 0 0 [.ref a] h Q := by
  obtain ⟨b, l0, g1, g2, g3, -⟩ := hV.at (show 0 < 4 by omega)
  refine MJ_of_J (L := [some (.ref a), none, none]) (by decide +kernel) rfl (Nat.le_of_ble_eq_true rfl) rfl ?_
  refine J_aload_n dX1_dropOldest_0 rfl ?_
  refine J_get (k := 0) dX1_dropOldest_1 gc_1 fl_RX1_11 (by decide) hP.o hP.bo rfl ?_
  refine J_iconst (x := 0) dX1_dropOldest_4 (by decide) ?_
  refine J_aald dX1_dropOldest_5 hP.c hP.bc (vp_in_nI (n := 0) (by decide) (by decide)) g1 ?_
  refine J_astore_n (L' := [_, _, _]) dX1_dropOldest_6 (by decide) rfl ?_
  refine J_iconst (x := 1) dX1_dropOldest_7 (by decide) ?_
  refine J_istore_n (L' := [_, _, _]) dX1_dropOldest_8 (by decide) rfl ?_
  exact l_X1_dropOldest hV g1 hl (fun h2 F2 P2 => hQ h2 b g1 F2 P2) 4 1 h (by omega) (by omega) (by omega) Fr.rf (by rw [shO_1]; exact hP)
/-- what the history is behind an act -/
def rmb (hs : List (List Lk)) (ls : List Lk) : List (List Lk) := (if hs.length = 4 then hs.drop 1 else hs) ++ [ls]
theorem s_X1_remember (hH : HA h a hs) (hA : LA h b ls) (hd : b + 5 ≤ a ∨ a + 22 ≤ b) (hQ : ∀ h', Fr a (a + 22) h h' → HA h' a (rmb hs ls) → Q none h') : MJ m_X1_remember 4 0 0 [.ref a, .ref b] h Q := by
  have K : ∀ (h1 : g_H) (hs1 : List (List Lk)) (f : Nat → Option Nat), Fr a (a + 22) h h1 → XR h1 a (nI hs1.length) f → XV h1 a hs1 f → hs1.length < 4 → rmb hs ls = hs1 ++ [ls] → J m_X1_remember 4 0 0 0 0 12 [some (.ref a), some (.ref b), none] [] h1 Q := by
    intro h1 hs1 f hF hP hV hl he
    replace hA := hA.fr hF (by omega)
    obtain ⟨σ, p1, p2, p3⟩ := hV
    obtain ⟨l, hG, -⟩ := p3 hs1.length hl
    have hσ := p1 hs1.length hl
    refine J_aload_n dX1_remember_12 rfl ?_
    refine J_get (k := 0) dX1_remember_13 gc_1 fl_RX1_11 (by decide) hP.o hP.bo rfl ?_
    refine J_aload_n dX1_remember_16 rfl ?_
    refine J_get (k := 1) dX1_remember_17 gc_1 fl_RX1_18 (by decide) hP.o hP.bo rfl ?_
    refine J_aald dX1_remember_20 hP.c hP.bc (vp_in_nI hl (by decide)) (by rw [nI_clamp (by omega)]; exact hσ.2) ?_
    refine J_astore_n (L' := [_, _, _]) dX1_remember_21 (by decide) rfl ?_
    refine J_aload_n dX1_remember_22 rfl ?_
    refine J_ifnull dX1_remember_23 ?_
    refine J_aload_n dX1_remember_26 rfl ?_
    refine J_aload_n dX1_remember_27 rfl ?_
    refine J_callV (As := [_]) (rest := []) (M' := m_X4_take) dX1_remember_28 ml_RX1_25 gm_X4_take gv_X4_take hG.o hG.b rfl rfl rfl (Nat.le_of_ble_eq_true rfl) (by decide) ⟨rfl, rfl, by decide, by decide⟩ (s_X4_take hG hA (by omega) (fun h2 hF2 hG2 => ?_))
    replace hP := hP.fr hF2 (by omega)
    refine J_aload_n dX1_remember_31 rfl ?_
    refine J_dup dX1_remember_32 rfl ?_
    refine J_get (k := 1) dX1_remember_33 gc_1 fl_RX1_18 (by decide) hP.o hP.bo rfl ?_
    refine J_iconst (x := 1) dX1_remember_36 (by decide) ?_
    refine J_iadd dX1_remember_37 ?_
    rw [nI_1]
    refine J_put (k := 1) dX1_remember_38 gc_1 fl_RX1_18 (by decide) rfl hP.o hP.bo (Nat.le_of_ble_eq_true rfl) (fun _ => ⟨rfl, rfl⟩) rfl ?_
    replace hP := hP.so (nI (hs1.length + 1))
    have hF3 := up_fr h2 a (.inr (1, [.ref (a + 1), .int (nI (hs1.length + 1))]))
    have hl3 : (hs1 ++ [ls]).length = hs1.length + 1 := by rw [List.length_append]; rfl
    exact J_vret dX1_remember_41 rfl ⟨rfl, Nat.le_refl _⟩ (hQ _ ((hF.tr (hF2.mono (by omega) (by omega))).up (by omega) (by omega)) (by
      rw [he]
      refine ⟨by omega, f, by rw [hl3]; exact hP, σ, p1, p2, fun i hi => ?_⟩
      by_cases e : i = hs1.length
      · subst e
        exact ⟨ls, hG2.fr hF3 (by omega), fun q hq => by rw [List.getElem?_append_right (Nat.le_refl _), Nat.sub_self] at hq; simpa using hq⟩
      · obtain ⟨l2, z1, z2⟩ := p3 i hi
        have n1 : σ i ≠ σ hs1.length := fun z => e (p2 i hi _ hl z)
        have n2 := (p1 i hi).1
        refine ⟨l2, (z1.fr hF2 (by omega)).fr hF3 (by omega), fun q hq => z2 q ?_⟩
        have : i < hs1.length := by have := get_lt hq; omega
        rwa [List.getElem?_append_left this] at hq))
  obtain ⟨hn, f, hP, hV⟩ := hH
  refine MJ_of_J (L := [some (.ref a), some (.ref b), none]) (by decide +kernel) rfl (Nat.le_of_ble_eq_true rfl) rfl ?_
  refine J_aload_n dX1_remember_0 rfl ?_
  refine J_get (k := 1) dX1_remember_1 gc_1 fl_RX1_18 (by decide) hP.o hP.bo rfl ?_
  refine J_iconst (x := 4) dX1_remember_4 (by decide) ?_
  refine J_icmp_lt (tgt := 12) dX1_remember_5 (by decide) (fun c5 => ?_) (fun c5 => ?_)
  · have c5 := (nI_ltI (b := 4) (by omega) (by omega)).mp c5
    exact K h hs f Fr.rf hP hV c5 (by unfold rmb; rw [if_neg (by omega)])
  · have c5 : hs.length = 4 := by
      have c5 : ¬ hs.length < 4 := fun q => c5 ((nI_ltI (b := 4) (by omega) (by omega)).mpr q)
      omega
    refine J_aload_n dX1_remember_8 rfl ?_
    refine J_callV (As := []) (rest := []) (M' := m_X1_dropOldest) dX1_remember_9 ml_RX1_22 gm_X1_dropOldest gv_X1_dropOldest hP.o hP.bo rfl rfl rfl (Nat.le_of_ble_eq_true rfl) (by decide) ⟨rfl, rfl, by decide, by decide⟩ (s_X1_dropOldest hP hV hn (fun h1 b0 g1 hF1 hP1 => ?_))
    have hl1 : (hs.drop 1).length = 3 := by rw [List.length_drop]; omega
    exact K h1 (hs.drop 1) _ (hF1.mono (by omega) (by omega)) (by rw [hl1]; exact hP1) ((hV.drop g1 hn).fr hF1 (by omega)) (by omega) (by unfold rmb; rw [if_pos c5])
theorem s_X1_goBack {q : List Lk} (hH : HA h a (hs ++ [q])) (hA : LA h b ls) (hd : b + 5 ≤ a ∨ a + 22 ≤ b) (hQ : ∀ h1 h2, Fr a (a + 22) h h1 → HA h1 a hs → Fr b (b + 5) h1 h2 → LA h2 b q → Q none h2) : MJ m_X1_goBack 4 0 0 [.ref a, .ref b] h Q := by
  obtain ⟨hn, f, hP, hV⟩ := hH
  have hl3 : (hs ++ [q]).length = hs.length + 1 := by rw [List.length_append]; rfl
  rw [hl3] at hn hP
  obtain ⟨bk, lk, g1, g2, hG, g4⟩ := hV.at (show hs.length < 4 by omega)
  obtain rfl := g4 q (by rw [List.getElem?_append_right (Nat.le_refl _), Nat.sub_self]; rfl)
  have hV2 : XV h a hs f := by
    obtain ⟨σ, p1, p2, p3⟩ := hV
    refine ⟨σ, p1, p2, fun i hi => ?_⟩
    obtain ⟨l, z1, z2⟩ := p3 i hi
    exact ⟨l, z1, fun q2 hq => z2 q2 (by rw [List.getElem?_append_left (get_lt hq)]; exact hq)⟩
  refine MJ_of_J (L := [some (.ref a), some (.ref b), none]) (by decide +kernel) rfl (Nat.le_of_ble_eq_true rfl) rfl ?_
  refine J_aload_n dX1_goBack_0 rfl ?_
  refine J_get (k := 1) dX1_goBack_1 gc_1 fl_RX1_18 (by decide) hP.o hP.bo rfl ?_
  refine J_iconst (x := 1) dX1_goBack_4 (by decide) ?_
  refine J_icmp_ge (tgt := 9) dX1_goBack_5 (by decide) (fun c5 => ?_) (fun c5 => absurd ((nI_leI (a := 1) (by omega) (by omega)).mpr (by omega)) c5)
  refine J_aload_n dX1_goBack_9 rfl ?_
  refine J_dup dX1_goBack_10 rfl ?_
  refine J_get (k := 1) dX1_goBack_11 gc_1 fl_RX1_18 (by decide) hP.o hP.bo rfl ?_
  refine J_iconst (x := 1) dX1_goBack_14 (by decide) ?_
  refine J_isub dX1_goBack_15 ?_
  rw [nI_pred]
  refine J_put (k := 1) dX1_goBack_16 gc_1 fl_RX1_18 (by decide) rfl hP.o hP.bo (Nat.le_of_ble_eq_true rfl) (fun _ => ⟨rfl, rfl⟩) rfl ?_
  replace hP := hP.so (nI hs.length)
  have hF1 := up_fr h a (.inr (1, [.ref (a + 1), .int (nI hs.length)]))
  replace hA := hA.fr hF1 (by omega)
  replace hG := hG.fr hF1 (by omega)
  refine J_aload_n dX1_goBack_19 rfl ?_
  refine J_get (k := 0) dX1_goBack_20 gc_1 fl_RX1_11 (by decide) hP.o hP.bo rfl ?_
  refine J_aload_n dX1_goBack_23 rfl ?_
  refine J_get (k := 1) dX1_goBack_24 gc_1 fl_RX1_18 (by decide) hP.o hP.bo rfl ?_
  refine J_aald dX1_goBack_27 hP.c hP.bc (vp_in_nI (show hs.length < 4 by omega) (by decide)) (by rw [nI_clamp (by omega)]; exact g1) ?_
  refine J_astore_n (L' := [_, _, _]) dX1_goBack_28 (by decide) rfl ?_
  refine J_aload_n dX1_goBack_29 rfl ?_
  refine J_ifnull dX1_goBack_30 ?_
  refine J_aload_n dX1_goBack_33 rfl ?_
  refine J_aload_n dX1_goBack_34 rfl ?_
  refine J_callV (As := [_]) (rest := []) (M' := m_X4_take) dX1_goBack_35 ml_RX1_25 gm_X4_take gv_X4_take hA.o hA.b rfl rfl rfl (Nat.le_of_ble_eq_true rfl) (by decide) ⟨rfl, rfl, by decide, by decide⟩ (s_X4_take hA hG (by omega) (fun h2 hF2 hA2 => ?_))
  exact J_vret dX1_goBack_38 rfl ⟨rfl, Nat.le_refl _⟩ (hQ _ h2 (hF1.mono (by omega) (by omega)) ⟨by omega, f, hP, hV2.fr hF1 (by omega)⟩ hF2 hA2)
end SHist
