/-! the pairs of the links that a condition picks; what is told of single moments -/
def EK (ls : List Lk) (p : Nat → Lk → Bool) : Nat → List (Nat × Nat)
  | 0 => []
  | k + 1 => EK ls p k ++ (match ls[k]? with
    | some y => if p k y = true then [(y.1, y.2.1)] else []
    | none => [])
theorem EK_s {ls : List Lk} {p : Nat → Lk → Bool} {k : Nat} {y : Lk} (h : ls[k]? = some y) : EK ls p (k + 1) = EK ls p k ++ (if p k y = true then [(y.1, y.2.1)] else []) := by
  show EK ls p k ++ (match ls[k]? with | some y => if p k y = true then [(y.1, y.2.1)] else [] | none => []) = _
  rw [h]
theorem EK_mem {ls : List Lk} {p : Nat → Lk → Bool} {e : Nat × Nat} : ∀ {n : Nat}, e ∈ EK ls p n ↔ ∃ (k : Nat) (y : Lk), k < n ∧ ls[k]? = some y ∧ p k y = true ∧ e = (y.1, y.2.1)
  | 0 => ⟨fun h => by simp [EK] at h, fun ⟨k, y, h, _⟩ => absurd h (Nat.not_lt_zero _)⟩
  | n + 1 => by
    cases hy : ls[n]? with
    | none =>
      have e0 : EK ls p (n + 1) = EK ls p n := by
        show EK ls p n ++ (match ls[n]? with | some y => if p n y = true then [(y.1, y.2.1)] else [] | none => []) = _
        rw [hy]; simp
      rw [e0, EK_mem]
      constructor
      · rintro ⟨k, y, h1, h2⟩; exact ⟨k, y, by omega, h2⟩
      · rintro ⟨k, y, h1, h2, h3⟩
        by_cases q : k = n
        · subst q; rw [hy] at h2; cases h2
        · exact ⟨k, y, by omega, h2, h3⟩
    | some z =>
      rw [EK_s hy, List.mem_append, EK_mem]
      constructor
      · rintro (⟨k, y, h1, h2⟩ | h)
        · exact ⟨k, y, by omega, h2⟩
        · by_cases q : p n z = true
          · rw [if_pos q] at h
            exact ⟨n, z, by omega, hy, q, List.mem_singleton.mp h⟩
          · rw [if_neg q] at h; simp at h
      · rintro ⟨k, y, h1, h2, h3, h4⟩
        by_cases q : k = n
        · subst q
          rw [hy] at h2; cases h2
          right
          rw [if_pos h3]; exact List.mem_singleton.mpr h4
        · exact Or.inl ⟨k, y, by omega, h2, h3, h4⟩
theorem EK_lt {ls : List Lk} {p : Nat → Lk → Bool} (hO : ∀ x ∈ ls, okK x) {n : Nat} : ∀ e ∈ EK ls p n, e.1 < 16 ∧ e.2 < 16 := by
  intro e he
  obtain ⟨k, y, h1, h2, h3, rfl⟩ := EK_mem.mp he
  have := hO y (List.mem_of_getElem? h2)
  exact ⟨this.1, this.2.1⟩
/-- the pairs between the two sides of each point -/
def DK (ls : List Lk) (p : Nat → Lk → Bool) : Nat → List (Nat × Nat)
  | 0 => []
  | k + 1 => DK ls p k ++ (match ls[k]? with
    | some y => if p k y = true then [(y.1, 16 + y.2.1), (16 + y.1, y.2.1)] else []
    | none => [])
theorem DK_s {ls : List Lk} {p : Nat → Lk → Bool} {k : Nat} {y : Lk} (h : ls[k]? = some y) : DK ls p (k + 1) = DK ls p k ++ (if p k y = true then [(y.1, 16 + y.2.1), (16 + y.1, y.2.1)] else []) := by
  show DK ls p k ++ (match ls[k]? with | some y => if p k y = true then [(y.1, 16 + y.2.1), (16 + y.1, y.2.1)] else [] | none => []) = _
  rw [h]
theorem DK_mem {ls : List Lk} {p : Nat → Lk → Bool} {e : Nat × Nat} : ∀ {n : Nat}, e ∈ DK ls p n ↔ ∃ (k : Nat) (y : Lk), k < n ∧ ls[k]? = some y ∧ p k y = true ∧ (e = (y.1, 16 + y.2.1) ∨ e = (16 + y.1, y.2.1))
  | 0 => ⟨fun h => by simp [DK] at h, fun ⟨k, y, h, _⟩ => absurd h (Nat.not_lt_zero _)⟩
  | n + 1 => by
    cases hy : ls[n]? with
    | none =>
      have e0 : DK ls p (n + 1) = DK ls p n := by
        show DK ls p n ++ (match ls[n]? with | some y => if p n y = true then [(y.1, 16 + y.2.1), (16 + y.1, y.2.1)] else [] | none => []) = _
        rw [hy]; simp
      rw [e0, DK_mem]
      constructor
      · rintro ⟨k, y, h1, h2⟩; exact ⟨k, y, by omega, h2⟩
      · rintro ⟨k, y, h1, h2, h3⟩
        by_cases q : k = n
        · subst q; rw [hy] at h2; cases h2
        · exact ⟨k, y, by omega, h2, h3⟩
    | some z =>
      rw [DK_s hy, List.mem_append, DK_mem]
      constructor
      · rintro (⟨k, y, h1, h2⟩ | h)
        · exact ⟨k, y, by omega, h2⟩
        · by_cases q : p n z = true
          · rw [if_pos q] at h
            exact ⟨n, z, by omega, hy, q, by simpa using h⟩
          · rw [if_neg q] at h; simp at h
      · rintro ⟨k, y, h1, h2, h3, h4⟩
        by_cases q : k = n
        · subst q
          rw [hy] at h2; cases h2
          right
          rw [if_pos h3]; simpa using h4
        · exact Or.inl ⟨k, y, by omega, h2, h3, h4⟩
theorem DK_lt {ls : List Lk} {p : Nat → Lk → Bool} (hO : ∀ x ∈ ls, okK x) {n : Nat} : ∀ e ∈ DK ls p n, e.1 < 32 ∧ e.2 < 32 := by
  intro e he
  obtain ⟨k, y, h1, h2, h3, h4⟩ := DK_mem.mp he
  have := hO y (List.mem_of_getElem? h2)
  have a := this.1
  have b := this.2.1
  rcases h4 with rfl | rfl
  · exact ⟨by show y.1 < 32; omega, by show 16 + y.2.1 < 32; omega⟩
  · exact ⟨by show 16 + y.1 < 32; omega, by show y.2.1 < 32; omega⟩
/-- the links that live at a moment, but one -/
noncomputable def lvX (x : Int32) (m : Nat) (k : Nat) (y : Lk) : Bool := @decide (¬ nI k = x) (Classical.propDecidable _) && lvB (m : Int) y
def lvA (m : Nat) (_ : Nat) (y : Lk) : Bool := lvB (m : Int) y
theorem lvX_iff {x : Int32} {m k : Nat} {y : Lk} : lvX x m k y = true ↔ (¬ nI k = x ∧ lvB (m : Int) y = true) := by simp [lvX]
theorem lvX_n {m k : Nat} {y : Lk} (hk : k < 2 ^ 31) : lvX (-1) m k y = lvA m k y := by
  unfold lvX lvA
  have : ¬ nI k = -1 := fun e => by
    have h1 := congrArg Int32.toInt e
    rw [nI_toInt hk] at h1
    have h2 : (-1 : Int32).toInt = -1 := by decide
    omega
  simp [this]
/-- joined at a moment -/
def CM (ls : List Lk) (m : Nat) (x y : Nat) : Prop := Cn (EK ls (lvA m) ls.length) x y
/-- joined at a moment without a link -/
def CX (ls : List Lk) (j m : Nat) (x y : Nat) : Prop := Cn (EK ls (lvX (nI j) m) ls.length) x y
theorem CX_n {ls : List Lk} {m : Nat} (hl : ls.length ≤ 40) (x y : Nat) : Cn (EK ls (lvX (-1) m) ls.length) x y ↔ CM ls m x y := by
  refine Cn.set (fun e => ?_) x y
  rw [EK_mem, EK_mem]
  constructor
  · rintro ⟨k, y, h1, h2, h3, h4⟩
    exact ⟨k, y, h1, h2, by rwa [lvX_n (by omega)] at h3, h4⟩
  · rintro ⟨k, y, h1, h2, h3, h4⟩
    exact ⟨k, y, h1, h2, by rwa [lvX_n (by omega)], h4⟩
/-- odd at a moment -/
def OM (ls : List Lk) (m : Nat) : Prop := ∃ x : Nat, x < 16 ∧ Cn (DK ls (lvA m) ls.length) x (16 + x)
/-- needed at a moment -/
def NM (ls : List Lk) (j m : Nat) (y : Lk) : Prop := lvB (m : Int) y = true ∧ ¬ CX ls j m y.1 y.2.1
def maxN (f : Nat → Nat) : Nat → Nat
  | 0 => 0
  | n + 1 => if maxN f n < f n then f n else maxN f n
def minN (f : Nat → Nat) : Nat → Nat
  | 0 => 16
  | n + 1 => if f n < minN f n then f n else minN f n
theorem maxN_c {f g : Nat → Nat} : ∀ {n : Nat}, (∀ k, k < n → f k = g k) → maxN f n = maxN g n
  | 0, _ => rfl
  | n + 1, h => by
    show (if maxN f n < f n then f n else maxN f n) = (if maxN g n < g n then g n else maxN g n)
    rw [maxN_c (fun k hk => h k (Nat.lt_succ_of_lt hk)), h n (Nat.lt_succ_self n)]
theorem maxN_le {f : Nat → Nat} {b : Nat} (hf : ∀ k, f k ≤ b) : ∀ n, maxN f n ≤ b
  | 0 => Nat.zero_le _
  | n + 1 => by
    show (if maxN f n < f n then f n else maxN f n) ≤ b
    split
    · exact hf n
    · exact maxN_le hf n
theorem minN_le (f : Nat → Nat) : ∀ n, minN f n ≤ 16
  | 0 => Nat.le_refl _
  | n + 1 => by
    have := minN_le f n
    show (if f n < minN f n then f n else minN f n) ≤ 16
    split <;> omega
/-- how many points the part of a point has -/
noncomputable def pSz (ls : List Lk) (m p : Nat) : Nat := sumN (fun y => oneI (CM ls m y p)) 16
theorem pSz_le (ls : List Lk) (m p : Nat) : pSz ls m p ≤ 16 := by
  have := sumN_le (f := fun y => oneI (CM ls m y p)) (b := 1) (fun _ => oneI_le _) 16
  unfold pSz; omega
noncomputable def pts (ls : List Lk) (m : Nat) : Nat := nfst (CM ls m) 16
theorem nfst_le (C : Nat → Nat → Prop) (n : Nat) : nfst C n ≤ n := by
  have := sumN_le (f := fun x => oneI (∀ y, y < x → ¬ C y x)) (b := 1) (fun _ => oneI_le _) n
  unfold nfst; omega
/-- an int's bits -/
def BS (r : Int32) (P : Nat → Prop) : Prop := ∀ i : Nat, r.toBitVec.getLsbD i = true ↔ (i < 16 ∧ P i)
theorem BS.uniq {r s : Int32} {P : Nat → Prop} (a : BS r P) (b : BS s P) : r = s := by
  apply Int32.toBitVec_inj.mp
  apply BitVec.eq_of_getLsbD_eq
  intro i hi
  rw [Bool.eq_iff_iff, a i, b i]
theorem BS.one {r : Int32} {P Q : Nat → Prop} {k : Nat} (hk : k < 16) (a : BS r P) (hq : ∀ i, i < 16 → (Q i ↔ (P i ∨ i = k))) : BS (r ||| (1 : Int32) <<< (nI k &&& 31)) Q := by
  have e : ∀ k, k < 16 → ((1 : Int32) <<< (nI k &&& 31)).toBitVec = BitVec.twoPow 32 k := by decide +kernel
  intro i
  rw [Int32.toBitVec_or, BitVec.getLsbD_or, e k hk, BitVec.getLsbD_twoPow, Bool.or_eq_true, a i]
  constructor
  · rintro (⟨h1, h2⟩ | h)
    · exact ⟨h1, (hq i h1).mpr (Or.inl h2)⟩
    · simp at h
      have : i = k := h.2.symm
      exact ⟨by omega, (hq i (by omega)).mpr (Or.inr this)⟩
  · rintro ⟨h1, h2⟩
    rcases (hq i h1).mp h2 with h | h
    · exact Or.inl ⟨h1, h⟩
    · right
      subst h
      simp
      omega
/-! the picture of a Moments object -/
def MA (h : g_H) (a : Nat) : Prop := (1 ≤ a ∧ a + 8 ≤ h.2) ∧ h.1 a = .inr (5, [.ref (a + 1), .ref (a + 5)]) ∧ (∃ js, JA h (a + 1) 16 js) ∧ ∃ js, JA h (a + 5) 32 js
section SMom
variable {h h' : g_H} {a b : Nat} {ls : List Lk} {Q : Option Value → g_H → Prop}
theorem MA.o (p : MA h a) : h.1 a = .inr (5, [.ref (a + 1), .ref (a + 5)]) := p.2.1
theorem MA.bo (p : MA h a) : 1 ≤ a ∧ a ≤ h.2 := ⟨p.1.1, by have := p.1.2; omega⟩
theorem MA.fr {lo hi : Nat} (p : MA h a) (F : Fr lo hi h h') (q : a + 9 ≤ lo ∨ hi ≤ a) : MA h' a := by
  obtain ⟨⟨p1, p2⟩, p3, ⟨j1, p4⟩, j2, p5⟩ := p
  exact ⟨⟨p1, by rw [F.1]; exact p2⟩, (F.2 a (by omega)).trans p3, ⟨j1, p4.fr F (by omega)⟩, j2, p5.fr F (by omega)⟩
theorem MA.s1 {js : List (Nat × Nat)} (p : MA h a) (F : Fr (a + 1) (a + 1 + 4) h h') (J : JA h' (a + 1) 16 js) : MA h' a := by
  obtain ⟨⟨p1, p2⟩, p3, -, j2, p5⟩ := p
  exact ⟨⟨p1, by rw [F.1]; exact p2⟩, (F.2 a (by omega)).trans p3, ⟨js, J⟩, j2, p5.fr F (by omega)⟩
theorem MA.s2 {js : List (Nat × Nat)} (p : MA h a) (F : Fr (a + 5) (a + 5 + 4) h h') (J : JA h' (a + 5) 32 js) : MA h' a := by
  obtain ⟨⟨p1, p2⟩, p3, ⟨j1, p4⟩, -⟩ := p
  exact ⟨⟨p1, by rw [F.1]; exact p2⟩, (F.2 a (by omega)).trans p3, ⟨j1, p4.fr F (by omega)⟩, js, J⟩
theorem l_X5_joinWithout {x : Int32} {m : Nat} (hm : m < 64) (hA0 : LA h b ls) (hd : b + 5 ≤ a ∨ a + 9 ≤ b) (hQ : ∀ h' js, Fr a (a + 9) h h' → MA h' a → JA h' (a + 1) 16 js → RP 16 js (EK ls (lvX x m) ls.length) → Q none h') : ∀ (t k : Nat) (h1 : g_H) (js : List (Nat × Nat)), ls.length - k < t → k ≤ ls.length → Fr a (a + 9) h h1 → MA h1 a → JA h1 (a + 1) 16 js → RP 16 js (EK ls (lvX x m) k) → J m_X5_joinWithout 3 0 0 0 0 11 [some (.ref a), some (.ref b), some (.int x), some (.int (nI m)), some (.int (nI k))] [] h1 Q := by
  intro t
  induction t with
  | zero => intro k h1 js ht; omega
  | succ t ih =>
    intro k h1 js ht hk hF hM hJ hR
    have hA := hA0.fr hF (by omega)
    have hn := hA.len
    have hO := hA.ok
    refine J_iload dX5_joinWithout_11 rfl ?_
    refine J_aload_n dX5_joinWithout_13 rfl ?_
    refine J_callV (As := []) (rest := [_]) (M' := m_X4_size) dX5_joinWithout_14 ml_RX5_26 gm_X4_size gv_X4_size hA.o hA.b rfl rfl rfl (Nat.le_of_ble_eq_true rfl) (by decide) ⟨rfl, rfl, by decide, by decide⟩ (s_X4_size hA (fun r hr => ?_))
    subst hr
    refine J_icmp_ge (tgt := 61) dX5_joinWithout_17 (by decide) (fun c17 => ?_) (fun c17 => ?_)
    · exact J_vret dX5_joinWithout_61 rfl ⟨rfl, Nat.le_refl _⟩ (hQ h1 js hF hM hJ (by have c17 := (nI_leI (by omega) (by omega)).mp c17; rwa [show k = ls.length by omega] at hR))
    · have c17 : k < ls.length := Nat.not_le.mp (fun q => c17 ((nI_leI (by omega) (by omega)).mpr q))
      obtain ⟨y, hy⟩ := get_of c17
      obtain ⟨o1, o2, o3, o4, o5⟩ := hO y (List.mem_of_getElem? hy)
      refine J_iload dX5_joinWithout_20 rfl ?_
      refine J_iload_n dX5_joinWithout_22 rfl ?_
      refine J_icmp_eq (tgt := 55) dX5_joinWithout_23 (by decide) (fun c23 => ?_) (fun c23 => ?_)
      · refine J_iinc (L' := [_, _, _, _, _]) dX5_joinWithout_55 rfl (nI_i1 k) (by decide) rfl ?_
        refine J_goto (tgt := 11) dX5_joinWithout_58 (by decide) ?_
        exact ih (k + 1) h1 js (by omega) (by omega) hF hM hJ (by rw [EK_s hy, if_neg (fun q => (lvX_iff.mp q).1 c23), List.append_nil]; exact hR)
      · refine J_aload_n dX5_joinWithout_26 rfl ?_
        refine J_iload dX5_joinWithout_27 rfl ?_
        refine J_iload_n dX5_joinWithout_29 rfl ?_
        refine J_callV (As := [_, _]) (rest := []) (M' := m_X4_livesAt) dX5_joinWithout_30 ml_RX5_32 gm_X4_livesAt gv_X4_livesAt hA.o hA.b rfl rfl rfl (Nat.le_of_ble_eq_true rfl) (by decide) ⟨rfl, rfl, by decide, by decide⟩ (s_X4_livesAt hA hy (fun r hr => ?_))
        rw [nI_toInt (show m < 2 ^ 31 by omega)] at hr
        refine J_if_eq (tgt := 55) dX5_joinWithout_33 (by decide) (fun c33 => ?_) (fun c33 => ?_)
        · refine J_iinc (L' := [_, _, _, _, _]) dX5_joinWithout_55 rfl (nI_i1 k) (by decide) rfl ?_
          refine J_goto (tgt := 11) dX5_joinWithout_58 (by decide) ?_
          exact ih (k + 1) h1 js (by omega) (by omega) hF hM hJ (by rw [EK_s hy, if_neg (fun q => (bI_0 hr).mp c33 (lvX_iff.mp q).2), List.append_nil]; exact hR)
        · refine J_aload_n dX5_joinWithout_36 rfl ?_
          refine J_get (k := 0) dX5_joinWithout_37 gc_5 fl_RX5_14 (by decide) hM.o hM.bo rfl ?_
          refine J_aload_n dX5_joinWithout_40 rfl ?_
          refine J_iload dX5_joinWithout_41 rfl ?_
          refine J_callV (As := [_]) (rest := [_]) (M' := m_X4_oneOf) dX5_joinWithout_43 ml_RX5_36 gm_X4_oneOf gv_X4_oneOf hA.o hA.b rfl rfl rfl (Nat.le_of_ble_eq_true rfl) (by decide) ⟨rfl, rfl, by decide, by decide⟩ (s_X4_oneOf hA hy (fun r1 hr1 => ?_))
          subst hr1
          refine J_aload_n dX5_joinWithout_46 rfl ?_
          refine J_iload dX5_joinWithout_47 rfl ?_
          refine J_callV (As := [_]) (rest := [_, _]) (M' := m_X4_otherOf) dX5_joinWithout_49 ml_RX5_40 gm_X4_otherOf gv_X4_otherOf hA.o hA.b rfl rfl rfl (Nat.le_of_ble_eq_true rfl) (by decide) ⟨rfl, rfl, by decide, by decide⟩ (s_X4_otherOf hA hy (fun r1 hr1 => ?_))
          subst hr1
          refine J_callV (As := [_, _]) (rest := []) (M' := m_X2_join) dX5_joinWithout_52 ml_RX5_43 gm_X2_join gv_X2_join hJ.o hJ.b rfl rfl rfl (Nat.le_of_ble_eq_true rfl) (by decide) ⟨rfl, rfl, by decide, by decide⟩ (s_X2_join hJ o1 o2 (fun h2 js2 hF2 hJ2 hN2 => ?_))
          refine J_iinc (L' := [_, _, _, _, _]) dX5_joinWithout_55 rfl (nI_i1 k) (by decide) rfl ?_
          refine J_goto (tgt := 11) dX5_joinWithout_58 (by decide) ?_
          exact ih (k + 1) h2 js2 (by omega) (by omega) (hF.tr (hF2.mono (by omega) (by omega))) (hM.s1 hF2 hJ2) hJ2 (by rw [EK_s hy, if_pos (lvX_iff.mpr ⟨c23, nn_of hr c33⟩)]; exact RP.join hJ.w hR o1 o2 (EK_lt hO) hN2)
theorem s_X5_joinWithout {x : Int32} {m : Nat} (hm : m < 64) (hM : MA h a) (hA : LA h b ls) (hd : b + 5 ≤ a ∨ a + 9 ≤ b) (hQ : ∀ h' js, Fr a (a + 9) h h' → MA h' a → JA h' (a + 1) 16 js → RP 16 js (EK ls (lvX x m) ls.length) → Q none h') : MJ m_X5_joinWithout 3 0 0 [.ref a, .ref b, .int x, .int (nI m)] h Q := by
  obtain ⟨js0, hJ⟩ := hM.2.2.1
  refine MJ_of_J (L := [some (.ref a), some (.ref b), some (.int x), some (.int (nI m)), none]) (by decide +kernel) rfl (Nat.le_of_ble_eq_true rfl) rfl ?_
  refine J_aload_n dX5_joinWithout_0 rfl ?_
  refine J_get (k := 0) dX5_joinWithout_1 gc_5 fl_RX5_14 (by decide) hM.o hM.bo rfl ?_
  refine J_iconst (x := 0) dX5_joinWithout_4 (by decide) ?_
  refine J_callV (As := [_]) (rest := []) (M' := m_X2_takeBackTo) dX5_joinWithout_5 ml_RX5_23 gm_X2_takeBackTo gv_X2_takeBackTo hJ.o hJ.b rfl rfl rfl (Nat.le_of_ble_eq_true rfl) (by decide) ⟨rfl, rfl, by decide, by decide⟩ (s_X2_takeBackTo (n := 0) hJ (Nat.zero_le _) (fun h1 hF1 hJ1 => ?_))
  refine J_iconst (x := 0) dX5_joinWithout_8 (by decide) ?_
  refine J_istore (L' := [_, _, _, _, _]) dX5_joinWithout_9 (by decide) rfl ?_
  rw [Nat.sub_zero, List.drop_length] at hJ1
  exact l_X5_joinWithout hm hA hd hQ (ls.length + 1) 0 h1 [] (by omega) (by omega) (hF1.mono (by omega) (by omega)) (hM.s1 hF1 hJ1) hJ1 (RP.nil 16)
theorem s_X5_areJoinedAt {m x y : Nat} (hm : m < 64) (hM : MA h a) (hA : LA h b ls) (hd : b + 5 ≤ a ∨ a + 9 ≤ b) (hx : x < 16) (hy : y < 16) (hQ : ∀ r h', r = bI (CM ls m x y) → Fr a (a + 9) h h' → MA h' a → Q (some (.int r)) h') : MJ m_X5_areJoinedAt 4 0 0 [.ref a, .ref b, .int (nI m), .int (nI x), .int (nI y)] h Q := by
  refine MJ_of_J (L := [some (.ref a), some (.ref b), some (.int (nI m)), some (.int (nI x)), some (.int (nI y))]) (by decide +kernel) rfl (Nat.le_of_ble_eq_true rfl) rfl ?_
  refine J_aload_n dX5_areJoinedAt_0 rfl ?_
  refine J_aload_n dX5_areJoinedAt_1 rfl ?_
  refine J_iconst (x := -1) dX5_areJoinedAt_2 (by decide) ?_
  refine J_iload_n dX5_areJoinedAt_3 rfl ?_
  refine J_callV (As := [_, _, _]) (rest := []) (M' := m_X5_joinWithout) dX5_areJoinedAt_4 ml_RX5_47 gm_X5_joinWithout gv_X5_joinWithout hM.o hM.bo rfl rfl rfl (Nat.le_of_ble_eq_true rfl) (by decide) ⟨rfl, rfl, by decide, by decide⟩ (s_X5_joinWithout hm hM hA hd (fun h1 js hF1 hM1 hJ1 hR1 => ?_))
  replace hM := hM1
  have hR : ∀ u v : Nat, u < 16 → v < 16 → (rt js u = rt js v ↔ CM ls m u v) := fun u v hu hv => (hR1 u v hu hv).trans (CX_n hA.len u v)
  refine J_aload_n dX5_areJoinedAt_7 rfl ?_
  refine J_get (k := 0) dX5_areJoinedAt_8 gc_5 fl_RX5_14 (by decide) hM.o hM.bo rfl ?_
  refine J_iload_n dX5_areJoinedAt_11 rfl ?_
  refine J_iload dX5_areJoinedAt_12 rfl ?_
  refine J_callV (As := [_, _]) (rest := []) (M' := m_X2_areJoined) dX5_areJoinedAt_14 ml_RX5_51 gm_X2_areJoined gv_X2_areJoined hJ1.o hJ1.b rfl rfl rfl (Nat.le_of_ble_eq_true rfl) (by decide) ⟨rfl, rfl, by decide, by decide⟩ (s_X2_areJoined hJ1 hx hy (fun r hr => ?_))
  rw [bI_c (hR x y hx hy)] at hr
  exact J_zret dX5_areJoinedAt_17 rfl (by rw [hr]; exact bI_01 _) ⟨rfl, Nat.le_refl _⟩ (hQ _ _ hr hF1 hM1)
theorem pts_js {js : List (Nat × Nat)} {m : Nat} (w : WJ 16 js) (hR : ∀ u v : Nat, u < 16 → v < 16 → (rt js u = rt js v ↔ CM ls m u v)) : pts ls m + js.length = 16 := by
  have h1 := nfst_rt w
  have h2 : nfst (fun x y => rt js x = rt js y) 16 = pts ls m := nfst_c hR
  omega
theorem s_X5_partsAt {m : Nat} (hm : m < 64) (hM : MA h a) (hA : LA h b ls) (hd : b + 5 ≤ a ∨ a + 9 ≤ b) (hQ : ∀ r h', r = nI (pts ls m) → Fr a (a + 9) h h' → MA h' a → Q (some (.int r)) h') : MJ m_X5_partsAt 4 0 0 [.ref a, .ref b, .int (nI m)] h Q := by
  refine MJ_of_J (L := [some (.ref a), some (.ref b), some (.int (nI m))]) (by decide +kernel) rfl (Nat.le_of_ble_eq_true rfl) rfl ?_
  refine J_aload_n dX5_partsAt_0 rfl ?_
  refine J_aload_n dX5_partsAt_1 rfl ?_
  refine J_iconst (x := -1) dX5_partsAt_2 (by decide) ?_
  refine J_iload_n dX5_partsAt_3 rfl ?_
  refine J_callV (As := [_, _, _]) (rest := []) (M' := m_X5_joinWithout) dX5_partsAt_4 ml_RX5_47 gm_X5_joinWithout gv_X5_joinWithout hM.o hM.bo rfl rfl rfl (Nat.le_of_ble_eq_true rfl) (by decide) ⟨rfl, rfl, by decide, by decide⟩ (s_X5_joinWithout hm hM hA hd (fun h1 js hF1 hM1 hJ1 hR1 => ?_))
  replace hM := hM1
  have hR : ∀ u v : Nat, u < 16 → v < 16 → (rt js u = rt js v ↔ CM ls m u v) := fun u v hu hv => (hR1 u v hu hv).trans (CX_n hA.len u v)
  refine J_bipush (x := 16) dX5_partsAt_7 (by decide) ?_
  refine J_aload_n dX5_partsAt_9 rfl ?_
  refine J_get (k := 0) dX5_partsAt_10 gc_5 fl_RX5_14 (by decide) hM.o hM.bo rfl ?_
  refine J_callV (As := []) (rest := [_]) (M' := m_X2_standing) dX5_partsAt_13 ml_RX5_54 gm_X2_standing gv_X2_standing hJ1.o hJ1.b rfl rfl rfl (Nat.le_of_ble_eq_true rfl) (by decide) ⟨rfl, rfl, by decide, by decide⟩ (s_X2_standing hJ1 (fun r hr => ?_))
  subst hr
  have hp := pts_js hJ1.w hR
  refine J_isub dX5_partsAt_16 ?_
  exact J_iret dX5_partsAt_17 rfl ⟨rfl, Nat.le_refl _⟩ (hQ _ _ (by show nI 16 - _ = _; rw [pk_sub (by omega)]; congr 1; omega) hF1 hM1)
theorem l_X5_lowestOfPartAt {m p : Nat} {js : List (Nat × Nat)} {h1 : g_H} (hp : p < 16) (hM1 : MA h1 a) (hJ1 : JA h1 (a + 1) 16 js) (hR : ∀ u v : Nat, u < 16 → v < 16 → (rt js u = rt js v ↔ CM ls m u v)) (hQ : ∀ r l, r = nI l → l < 16 → CM ls m p l → (∀ y, y < l → ¬ CM ls m p y) → Q (some (.int r)) h1) : ∀ (t k : Nat), p - k < t → k ≤ p → (∀ y, y < k → ¬ CM ls m p y) → J m_X5_lowestOfPartAt 4 0 0 0 0 10 [some (.ref a), some (.ref b), some (.int (nI m)), some (.int (nI p)), some (.int (nI k))] [] h1 Q := by
  intro t
  induction t with
  | zero => intro k ht; omega
  | succ t ih =>
    intro k ht hk hn
    refine J_iload dX5_lowestOfPartAt_10 rfl ?_
    refine J_iload_n dX5_lowestOfPartAt_12 rfl ?_
    refine J_icmp_ge (tgt := 38) dX5_lowestOfPartAt_13 (by decide) (fun c13 => ?_) (fun c13 => ?_)
    · refine J_iload_n dX5_lowestOfPartAt_38 rfl ?_
      exact J_iret dX5_lowestOfPartAt_39 rfl ⟨rfl, Nat.le_refl _⟩ (hQ _ p rfl hp (Cn.rf _) (by have c13 := (nI_leI (by omega) (by omega)).mp c13; rwa [show k = p by omega] at hn))
    · have c13 : k < p := Nat.not_le.mp (fun q => c13 ((nI_leI (by omega) (by omega)).mpr q))
      refine J_aload_n dX5_lowestOfPartAt_16 rfl ?_
      refine J_get (k := 0) dX5_lowestOfPartAt_17 gc_5 fl_RX5_14 (by decide) hM1.o hM1.bo rfl ?_
      refine J_iload_n dX5_lowestOfPartAt_20 rfl ?_
      refine J_iload dX5_lowestOfPartAt_21 rfl ?_
      refine J_callV (As := [_, _]) (rest := []) (M' := m_X2_areJoined) dX5_lowestOfPartAt_23 ml_RX5_51 gm_X2_areJoined gv_X2_areJoined hJ1.o hJ1.b rfl rfl rfl (Nat.le_of_ble_eq_true rfl) (by decide) ⟨rfl, rfl, by decide, by decide⟩ (s_X2_areJoined hJ1 hp (show k < 16 by omega) (fun r hr => ?_))
      rw [bI_c (hR p k hp (by omega))] at hr
      refine J_if_eq (tgt := 32) dX5_lowestOfPartAt_26 (by decide) (fun c26 => ?_) (fun c26 => ?_)
      · refine J_iinc (L' := [_, _, _, _, _]) dX5_lowestOfPartAt_32 rfl (nI_i1 k) (by decide) rfl ?_
        refine J_goto (tgt := 10) dX5_lowestOfPartAt_35 (by decide) ?_
        exact ih (k + 1) (by omega) (by omega) (fun y hy q => by rcases Nat.lt_succ_iff_lt_or_eq.mp hy with z | z; exact hn y z q; subst z; exact (bI_0 hr).mp c26 q)
      · refine J_iload dX5_lowestOfPartAt_29 rfl ?_
        exact J_iret dX5_lowestOfPartAt_31 rfl ⟨rfl, Nat.le_refl _⟩ (hQ _ k rfl (by omega) (nn_of hr c26) hn)
theorem s_X5_lowestOfPartAt {m p : Nat} (hm : m < 64) (hM : MA h a) (hA : LA h b ls) (hd : b + 5 ≤ a ∨ a + 9 ≤ b) (hp : p < 16) (hQ : ∀ r l h', r = nI l → l < 16 → CM ls m p l → (∀ y, y < l → ¬ CM ls m p y) → Fr a (a + 9) h h' → MA h' a → Q (some (.int r)) h') : MJ m_X5_lowestOfPartAt 4 0 0 [.ref a, .ref b, .int (nI m), .int (nI p)] h Q := by
  refine MJ_of_J (L := [some (.ref a), some (.ref b), some (.int (nI m)), some (.int (nI p)), none]) (by decide +kernel) rfl (Nat.le_of_ble_eq_true rfl) rfl ?_
  refine J_aload_n dX5_lowestOfPartAt_0 rfl ?_
  refine J_aload_n dX5_lowestOfPartAt_1 rfl ?_
  refine J_iconst (x := -1) dX5_lowestOfPartAt_2 (by decide) ?_
  refine J_iload_n dX5_lowestOfPartAt_3 rfl ?_
  refine J_callV (As := [_, _, _]) (rest := []) (M' := m_X5_joinWithout) dX5_lowestOfPartAt_4 ml_RX5_47 gm_X5_joinWithout gv_X5_joinWithout hM.o hM.bo rfl rfl rfl (Nat.le_of_ble_eq_true rfl) (by decide) ⟨rfl, rfl, by decide, by decide⟩ (s_X5_joinWithout hm hM hA hd (fun h1 js hF1 hM1 hJ1 hR1 => ?_))
  replace hM := hM1
  have hR : ∀ u v : Nat, u < 16 → v < 16 → (rt js u = rt js v ↔ CM ls m u v) := fun u v hu hv => (hR1 u v hu hv).trans (CX_n hA.len u v)
  refine J_iconst (x := 0) dX5_lowestOfPartAt_7 (by decide) ?_
  refine J_istore (L' := [_, _, _, _, _]) dX5_lowestOfPartAt_8 (by decide) rfl ?_
  exact l_X5_lowestOfPartAt hp hM1 hJ1 hR (fun r l h1 h2 h3 h4 => hQ r l _ h1 h2 h3 h4 hF1 hM1) (p + 1) 0 (by omega) (by omega) (fun y hy => by omega)
theorem s_X5_partSizeAt {m p : Nat} (hm : m < 64) (hM : MA h a) (hA : LA h b ls) (hd : b + 5 ≤ a ∨ a + 9 ≤ b) (hp : p < 16) (hQ : ∀ r h', r = nI (pSz ls m p) → Fr a (a + 9) h h' → MA h' a → Q (some (.int r)) h') : MJ m_X5_partSizeAt 4 0 0 [.ref a, .ref b, .int (nI m), .int (nI p)] h Q := by
  refine MJ_of_J (L := [some (.ref a), some (.ref b), some (.int (nI m)), some (.int (nI p))]) (by decide +kernel) rfl (Nat.le_of_ble_eq_true rfl) rfl ?_
  refine J_aload_n dX5_partSizeAt_0 rfl ?_
  refine J_aload_n dX5_partSizeAt_1 rfl ?_
  refine J_iconst (x := -1) dX5_partSizeAt_2 (by decide) ?_
  refine J_iload_n dX5_partSizeAt_3 rfl ?_
  refine J_callV (As := [_, _, _]) (rest := []) (M' := m_X5_joinWithout) dX5_partSizeAt_4 ml_RX5_47 gm_X5_joinWithout gv_X5_joinWithout hM.o hM.bo rfl rfl rfl (Nat.le_of_ble_eq_true rfl) (by decide) ⟨rfl, rfl, by decide, by decide⟩ (s_X5_joinWithout hm hM hA hd (fun h1 js hF1 hM1 hJ1 hR1 => ?_))
  replace hM := hM1
  have hR : ∀ u v : Nat, u < 16 → v < 16 → (rt js u = rt js v ↔ CM ls m u v) := fun u v hu hv => (hR1 u v hu hv).trans (CX_n hA.len u v)
  have hps : ∀ p, p < 16 → sumN (fun y => oneI (rt js y = rt js p)) 16 = pSz ls m p := fun p hp => sumN_c (fun y hy => oneI_c (hR y p hy hp))
  refine J_aload_n dX5_partSizeAt_7 rfl ?_
  refine J_get (k := 0) dX5_partSizeAt_8 gc_5 fl_RX5_14 (by decide) hM.o hM.bo rfl ?_
  refine J_iload_n dX5_partSizeAt_11 rfl ?_
  refine J_callV (As := [_]) (rest := []) (M' := m_X2_partSize) dX5_partSizeAt_12 ml_RX5_57 gm_X2_partSize gv_X2_partSize hJ1.o hJ1.b rfl rfl rfl (Nat.le_of_ble_eq_true rfl) (by decide) ⟨rfl, rfl, by decide, by decide⟩ (s_X2_partSize hJ1 hp (fun r hr => ?_))
  rw [hps p hp] at hr
  exact J_iret dX5_partSizeAt_15 rfl ⟨rfl, Nat.le_refl _⟩ (hQ _ _ hr hF1 hM1)
theorem l_X5_partBitsAt {m p : Nat} {js : List (Nat × Nat)} {h1 : g_H} (hp : p < 16) (hM1 : MA h1 a) (hJ1 : JA h1 (a + 1) 16 js) (hR : ∀ u v : Nat, u < 16 → v < 16 → (rt js u = rt js v ↔ CM ls m u v)) (hQ : ∀ r, BS r (fun i => CM ls m p i) → Q (some (.int r)) h1) : ∀ (t k : Nat) (s : Int32), 16 - k < t → k ≤ 16 → BS s (fun i => i < k ∧ CM ls m p i) → J m_X5_partBitsAt 4 0 0 0 0 13 [some (.ref a), some (.ref b), some (.int (nI m)), some (.int (nI p)), some (.int s), some (.int (nI k))] [] h1 Q := by
  intro t
  induction t with
  | zero => intro k s ht; omega
  | succ t ih =>
    intro k s ht hk hs
    refine J_iload dX5_partBitsAt_13 rfl ?_
    refine J_bipush (x := 16) dX5_partBitsAt_15 (by decide) ?_
    refine J_icmp_ge (tgt := 48) dX5_partBitsAt_17 (by decide) (fun c17 => ?_) (fun c17 => ?_)
    · refine J_iload dX5_partBitsAt_48 rfl ?_
      exact J_iret dX5_partBitsAt_50 rfl ⟨rfl, Nat.le_refl _⟩ (hQ _ (by have c17 := (nI_leI (a := 16) (b := k) (by omega) (by omega)).mp c17; intro i; rw [hs i]; exact ⟨fun ⟨q1, q2, q3⟩ => ⟨q1, q3⟩, fun ⟨q1, q3⟩ => ⟨q1, by omega, q3⟩⟩))
    · have c17 : k < 16 := Nat.not_le.mp (fun q => c17 ((nI_leI (a := 16) (b := k) (by omega) (by omega)).mpr q))
      refine J_aload_n dX5_partBitsAt_20 rfl ?_
      refine J_get (k := 0) dX5_partBitsAt_21 gc_5 fl_RX5_14 (by decide) hM1.o hM1.bo rfl ?_
      refine J_iload_n dX5_partBitsAt_24 rfl ?_
      refine J_iload dX5_partBitsAt_25 rfl ?_
      refine J_callV (As := [_, _]) (rest := []) (M' := m_X2_areJoined) dX5_partBitsAt_27 ml_RX5_51 gm_X2_areJoined gv_X2_areJoined hJ1.o hJ1.b rfl rfl rfl (Nat.le_of_ble_eq_true rfl) (by decide) ⟨rfl, rfl, by decide, by decide⟩ (s_X2_areJoined hJ1 hp c17 (fun r hr => ?_))
      rw [bI_c (hR p k hp (by omega))] at hr
      refine J_if_eq (tgt := 42) dX5_partBitsAt_30 (by decide) (fun c30 => ?_) (fun c30 => ?_)
      · refine J_iinc (L' := [_, _, _, _, _, _]) dX5_partBitsAt_42 rfl (nI_i1 k) (by decide) rfl ?_
        refine J_goto (tgt := 13) dX5_partBitsAt_45 (by decide) ?_
        exact ih (k + 1) s (by omega) (by omega) (fun i => (hs i).trans ⟨fun ⟨q1, q2, q3⟩ => ⟨q1, by omega, q3⟩, fun ⟨q1, q2, q3⟩ => ⟨q1, by rcases Nat.lt_succ_iff_lt_or_eq.mp q2 with z | z; exact z; subst z; exact absurd q3 ((bI_0 hr).mp c30), q3⟩⟩)
      · refine J_iload dX5_partBitsAt_33 rfl ?_
        refine J_iconst (x := 1) dX5_partBitsAt_35 (by decide) ?_
        refine J_iload dX5_partBitsAt_36 rfl ?_
        refine J_ishl dX5_partBitsAt_38 ?_
        refine J_ior dX5_partBitsAt_39 ?_
        refine J_istore (L' := [_, _, _, _, _, _]) dX5_partBitsAt_40 (by decide) rfl ?_
        refine J_iinc (L' := [_, _, _, _, _, _]) dX5_partBitsAt_42 rfl (nI_i1 k) (by decide) rfl ?_
        refine J_goto (tgt := 13) dX5_partBitsAt_45 (by decide) ?_
        exact ih (k + 1) _ (by omega) (by omega) (hs.one c17 (fun i hi => ⟨fun ⟨q2, q3⟩ => by rcases Nat.lt_succ_iff_lt_or_eq.mp q2 with z | z; exact Or.inl ⟨z, q3⟩; exact Or.inr z, fun q => by rcases q with ⟨q2, q3⟩ | rfl; exact ⟨by omega, q3⟩; exact ⟨by omega, nn_of hr c30⟩⟩))
theorem s_X5_partBitsAt {m p : Nat} (hm : m < 64) (hM : MA h a) (hA : LA h b ls) (hd : b + 5 ≤ a ∨ a + 9 ≤ b) (hp : p < 16) (hQ : ∀ r h', BS r (fun i => CM ls m p i) → Fr a (a + 9) h h' → MA h' a → Q (some (.int r)) h') : MJ m_X5_partBitsAt 4 0 0 [.ref a, .ref b, .int (nI m), .int (nI p)] h Q := by
  refine MJ_of_J (L := [some (.ref a), some (.ref b), some (.int (nI m)), some (.int (nI p)), none, none]) (by decide +kernel) rfl (Nat.le_of_ble_eq_true rfl) rfl ?_
  refine J_aload_n dX5_partBitsAt_0 rfl ?_
  refine J_aload_n dX5_partBitsAt_1 rfl ?_
  refine J_iconst (x := -1) dX5_partBitsAt_2 (by decide) ?_
  refine J_iload_n dX5_partBitsAt_3 rfl ?_
  refine J_callV (As := [_, _, _]) (rest := []) (M' := m_X5_joinWithout) dX5_partBitsAt_4 ml_RX5_47 gm_X5_joinWithout gv_X5_joinWithout hM.o hM.bo rfl rfl rfl (Nat.le_of_ble_eq_true rfl) (by decide) ⟨rfl, rfl, by decide, by decide⟩ (s_X5_joinWithout hm hM hA hd (fun h1 js hF1 hM1 hJ1 hR1 => ?_))
  replace hM := hM1
  have hR : ∀ u v : Nat, u < 16 → v < 16 → (rt js u = rt js v ↔ CM ls m u v) := fun u v hu hv => (hR1 u v hu hv).trans (CX_n hA.len u v)
  refine J_iconst (x := 0) dX5_partBitsAt_7 (by decide) ?_
  refine J_istore (L' := [_, _, _, _, _, _]) dX5_partBitsAt_8 (by decide) rfl ?_
  refine J_iconst (x := 0) dX5_partBitsAt_10 (by decide) ?_
  refine J_istore (L' := [_, _, _, _, _, _]) dX5_partBitsAt_11 (by decide) rfl ?_
  exact l_X5_partBitsAt hp hM1 hJ1 hR (fun r h1 => hQ r _ h1 hF1 hM1) 17 0 0 (by omega) (by omega) (fun i => by simp)
theorem nI_max {a b : Nat} (ha : a < 2 ^ 31) (hb : b < 2 ^ 31) : (if nI a < nI b then nI b else nI a) = nI (if a < b then b else a) := by
  by_cases q : a < b
  · rw [if_pos q, if_pos ((nI_ltI ha hb).mpr q)]
  · rw [if_neg q, if_neg (fun z => q ((nI_ltI ha hb).mp z))]
theorem nI_min {a b : Nat} (ha : a < 2 ^ 31) (hb : b < 2 ^ 31) : (if nI b < nI a then nI b else nI a) = nI (if b < a then b else a) := by
  by_cases q : b < a
  · rw [if_pos q, if_pos ((nI_ltI hb ha).mpr q)]
  · rw [if_neg q, if_neg (fun z => q ((nI_ltI hb ha).mp z))]
theorem l_X5_greatestPartAt {m : Nat} {js : List (Nat × Nat)} {h1 : g_H} (hM1 : MA h1 a) (hJ1 : JA h1 (a + 1) 16 js) (hps : ∀ p, p < 16 → sumN (fun y => oneI (rt js y = rt js p)) 16 = pSz ls m p) (hQ : ∀ r, r = nI (maxN (pSz ls m) 16) → Q (some (.int r)) h1) : ∀ (t k c : Nat), 16 - k < t → k ≤ 16 → c = maxN (pSz ls m) k → J m_X5_greatestPartAt 4 0 0 0 0 12 [some (.ref a), some (.ref b), some (.int (nI m)), some (.int (nI c)), some (.int (nI k))] [] h1 Q := by
  intro t
  induction t with
  | zero => intro k c ht; omega
  | succ t ih =>
    intro k c ht hk hc
    have hc16 : c ≤ 16 := by rw [hc]; exact maxN_le (pSz_le ls m) k
    have hp16 := pSz_le ls m k
    refine J_iload dX5_greatestPartAt_12 rfl ?_
    refine J_bipush (x := 16) dX5_greatestPartAt_14 (by decide) ?_
    refine J_icmp_ge (tgt := 39) dX5_greatestPartAt_16 (by decide) (fun c16 => ?_) (fun c16 => ?_)
    · refine J_iload_n dX5_greatestPartAt_39 rfl ?_
      exact J_iret dX5_greatestPartAt_40 rfl ⟨rfl, Nat.le_refl _⟩ (hQ _ (by have c16 := (nI_leI (a := 16) (b := k) (by omega) (by omega)).mp c16; rw [hc, show k = 16 by omega]))
    · have c16 : k < 16 := Nat.not_le.mp (fun q => c16 ((nI_leI (a := 16) (b := k) (by omega) (by omega)).mpr q))
      refine J_iload_n dX5_greatestPartAt_19 rfl ?_
      refine J_aload_n dX5_greatestPartAt_20 rfl ?_
      refine J_get (k := 0) dX5_greatestPartAt_21 gc_5 fl_RX5_14 (by decide) hM1.o hM1.bo rfl ?_
      refine J_iload dX5_greatestPartAt_24 rfl ?_
      refine J_callV (As := [_]) (rest := [_]) (M' := m_X2_partSize) dX5_greatestPartAt_26 ml_RX5_57 gm_X2_partSize gv_X2_partSize hJ1.o hJ1.b rfl rfl rfl (Nat.le_of_ble_eq_true rfl) (by decide) ⟨rfl, rfl, by decide, by decide⟩ (s_X2_partSize hJ1 c16 (fun r hr => ?_))
      rw [hps k c16] at hr
      subst hr
      refine J_mmax dX5_greatestPartAt_29 ml_RX5_60 gw_max (by decide) (Nat.le_of_ble_eq_true rfl) ⟨Nat.le_refl _, Nat.le_refl _⟩ ?_
      rw [nI_max (by omega) (by omega)]
      refine J_istore_n (L' := [_, _, _, _, _]) dX5_greatestPartAt_32 (by decide) rfl ?_
      refine J_iinc (L' := [_, _, _, _, _]) dX5_greatestPartAt_33 rfl (nI_i1 k) (by decide) rfl ?_
      refine J_goto (tgt := 12) dX5_greatestPartAt_36 (by decide) ?_
      exact ih (k + 1) _ (by omega) (by omega) (by rw [hc]; rfl)
theorem s_X5_greatestPartAt {m : Nat} (hm : m < 64) (hM : MA h a) (hA : LA h b ls) (hd : b + 5 ≤ a ∨ a + 9 ≤ b) (hQ : ∀ r h', r = nI (maxN (pSz ls m) 16) → Fr a (a + 9) h h' → MA h' a → Q (some (.int r)) h') : MJ m_X5_greatestPartAt 4 0 0 [.ref a, .ref b, .int (nI m)] h Q := by
  refine MJ_of_J (L := [some (.ref a), some (.ref b), some (.int (nI m)), none, none]) (by decide +kernel) rfl (Nat.le_of_ble_eq_true rfl) rfl ?_
  refine J_aload_n dX5_greatestPartAt_0 rfl ?_
  refine J_aload_n dX5_greatestPartAt_1 rfl ?_
  refine J_iconst (x := -1) dX5_greatestPartAt_2 (by decide) ?_
  refine J_iload_n dX5_greatestPartAt_3 rfl ?_
  refine J_callV (As := [_, _, _]) (rest := []) (M' := m_X5_joinWithout) dX5_greatestPartAt_4 ml_RX5_47 gm_X5_joinWithout gv_X5_joinWithout hM.o hM.bo rfl rfl rfl (Nat.le_of_ble_eq_true rfl) (by decide) ⟨rfl, rfl, by decide, by decide⟩ (s_X5_joinWithout hm hM hA hd (fun h1 js hF1 hM1 hJ1 hR1 => ?_))
  replace hM := hM1
  have hR : ∀ u v : Nat, u < 16 → v < 16 → (rt js u = rt js v ↔ CM ls m u v) := fun u v hu hv => (hR1 u v hu hv).trans (CX_n hA.len u v)
  have hps : ∀ p, p < 16 → sumN (fun y => oneI (rt js y = rt js p)) 16 = pSz ls m p := fun p hp => sumN_c (fun y hy => oneI_c (hR y p hy hp))
  refine J_iconst (x := 0) dX5_greatestPartAt_7 (by decide) ?_
  refine J_istore_n (L' := [_, _, _, _, _]) dX5_greatestPartAt_8 (by decide) rfl ?_
  refine J_iconst (x := 0) dX5_greatestPartAt_9 (by decide) ?_
  refine J_istore (L' := [_, _, _, _, _]) dX5_greatestPartAt_10 (by decide) rfl ?_
  exact l_X5_greatestPartAt hM1 hJ1 hps (fun r h1 => hQ r _ h1 hF1 hM1) 17 0 0 (by omega) (by omega) rfl
noncomputable def alN (ls : List Lk) (m : Nat) (k : Nat) : Nat := oneI (pSz ls m k = 1)
theorem l_X5_linklessPointsAt {m : Nat} {js : List (Nat × Nat)} {h1 : g_H} (hM1 : MA h1 a) (hJ1 : JA h1 (a + 1) 16 js) (hps : ∀ p, p < 16 → sumN (fun y => oneI (rt js y = rt js p)) 16 = pSz ls m p) (hQ : ∀ r, r = nI (sumN (alN ls m) 16) → Q (some (.int r)) h1) : ∀ (t k c : Nat), 16 - k < t → k ≤ 16 → c = sumN (alN ls m) k → J m_X5_linklessPointsAt 4 0 0 0 0 12 [some (.ref a), some (.ref b), some (.int (nI m)), some (.int (nI c)), some (.int (nI k))] [] h1 Q := by
  intro t
  induction t with
  | zero => intro k c ht; omega
  | succ t ih =>
    intro k c ht hk hc
    have hp16 := pSz_le ls m k
    refine J_iload dX5_linklessPointsAt_12 rfl ?_
    refine J_bipush (x := 16) dX5_linklessPointsAt_14 (by decide) ?_
    refine J_icmp_ge (tgt := 41) dX5_linklessPointsAt_16 (by decide) (fun c16 => ?_) (fun c16 => ?_)
    · refine J_iload_n dX5_linklessPointsAt_41 rfl ?_
      exact J_iret dX5_linklessPointsAt_42 rfl ⟨rfl, Nat.le_refl _⟩ (hQ _ (by have c16 := (nI_leI (a := 16) (b := k) (by omega) (by omega)).mp c16; rw [hc, show k = 16 by omega]))
    · have c16 : k < 16 := Nat.not_le.mp (fun q => c16 ((nI_leI (a := 16) (b := k) (by omega) (by omega)).mpr q))
      refine J_aload_n dX5_linklessPointsAt_19 rfl ?_
      refine J_get (k := 0) dX5_linklessPointsAt_20 gc_5 fl_RX5_14 (by decide) hM1.o hM1.bo rfl ?_
      refine J_iload dX5_linklessPointsAt_23 rfl ?_
      refine J_callV (As := [_]) (rest := []) (M' := m_X2_partSize) dX5_linklessPointsAt_25 ml_RX5_57 gm_X2_partSize gv_X2_partSize hJ1.o hJ1.b rfl rfl rfl (Nat.le_of_ble_eq_true rfl) (by decide) ⟨rfl, rfl, by decide, by decide⟩ (s_X2_partSize hJ1 c16 (fun r hr => ?_))
      rw [hps k c16] at hr
      subst hr
      refine J_iconst (x := 1) dX5_linklessPointsAt_28 (by decide) ?_
      refine J_icmp_ne (tgt := 35) dX5_linklessPointsAt_29 (by decide) (fun c29 => ?_) (fun c29 => ?_)
      · refine J_iinc (L' := [_, _, _, _, _]) dX5_linklessPointsAt_35 rfl (nI_i1 k) (by decide) rfl ?_
        refine J_goto (tgt := 12) dX5_linklessPointsAt_38 (by decide) ?_
        exact ih (k + 1) _ (by omega) (by omega) (by rw [hc]; show _ = sumN (alN ls m) k + oneI (pSz ls m k = 1); rw [oneI_f (fun q => c29 (by rw [q]; rfl))]; omega)
      · refine J_iinc (L' := [_, _, _, _, _]) dX5_linklessPointsAt_32 rfl (nI_i1 c) (by decide) rfl ?_
        refine J_iinc (L' := [_, _, _, _, _]) dX5_linklessPointsAt_35 rfl (nI_i1 k) (by decide) rfl ?_
        refine J_goto (tgt := 12) dX5_linklessPointsAt_38 (by decide) ?_
        exact ih (k + 1) _ (by omega) (by omega) (by rw [hc]; show _ = sumN (alN ls m) k + oneI (pSz ls m k = 1); rw [oneI_t ((nI_eq (b := 1) (by omega) (by omega)).mp c29)])
theorem s_X5_linklessPointsAt {m : Nat} (hm : m < 64) (hM : MA h a) (hA : LA h b ls) (hd : b + 5 ≤ a ∨ a + 9 ≤ b) (hQ : ∀ r h', r = nI (sumN (alN ls m) 16) → Fr a (a + 9) h h' → MA h' a → Q (some (.int r)) h') : MJ m_X5_linklessPointsAt 4 0 0 [.ref a, .ref b, .int (nI m)] h Q := by
  refine MJ_of_J (L := [some (.ref a), some (.ref b), some (.int (nI m)), none, none]) (by decide +kernel) rfl (Nat.le_of_ble_eq_true rfl) rfl ?_
  refine J_aload_n dX5_linklessPointsAt_0 rfl ?_
  refine J_aload_n dX5_linklessPointsAt_1 rfl ?_
  refine J_iconst (x := -1) dX5_linklessPointsAt_2 (by decide) ?_
  refine J_iload_n dX5_linklessPointsAt_3 rfl ?_
  refine J_callV (As := [_, _, _]) (rest := []) (M' := m_X5_joinWithout) dX5_linklessPointsAt_4 ml_RX5_47 gm_X5_joinWithout gv_X5_joinWithout hM.o hM.bo rfl rfl rfl (Nat.le_of_ble_eq_true rfl) (by decide) ⟨rfl, rfl, by decide, by decide⟩ (s_X5_joinWithout hm hM hA hd (fun h1 js hF1 hM1 hJ1 hR1 => ?_))
  replace hM := hM1
  have hR : ∀ u v : Nat, u < 16 → v < 16 → (rt js u = rt js v ↔ CM ls m u v) := fun u v hu hv => (hR1 u v hu hv).trans (CX_n hA.len u v)
  have hps : ∀ p, p < 16 → sumN (fun y => oneI (rt js y = rt js p)) 16 = pSz ls m p := fun p hp => sumN_c (fun y hy => oneI_c (hR y p hy hp))
  refine J_iconst (x := 0) dX5_linklessPointsAt_7 (by decide) ?_
  refine J_istore_n (L' := [_, _, _, _, _]) dX5_linklessPointsAt_8 (by decide) rfl ?_
  refine J_iconst (x := 0) dX5_linklessPointsAt_9 (by decide) ?_
  refine J_istore (L' := [_, _, _, _, _]) dX5_linklessPointsAt_10 (by decide) rfl ?_
  exact l_X5_linklessPointsAt hM1 hJ1 hps (fun r h1 => hQ r _ h1 hF1 hM1) 17 0 0 (by omega) (by omega) rfl
end SMom
