/-! what one object tells: the spans around a moment -/
section Well
variable {ls : List Lk}
theorem cv_up {m d : Nat} (hm : m < 64) (hd : d < 6) {y : Lk} (h : cvB (sb m d) (sl d) y = true) : cvB (sb m (d + 1)) (sl (d + 1)) y = true := by
  have f2 := sb_f2 m hm d hd
  rw [cvB_iff] at h ⊢
  omega
theorem pS_dn {m d : Nat} (hm : m < 64) (hd : d < 6) : pS ls m (d + 1) ≤ pS ls m d := by
  refine rk_mono (fun e he => ?_)
  obtain ⟨k, y, h1, h2, h3, h4⟩ := EK_mem.mp he
  exact EK_mem.mpr ⟨k, y, h1, h2, cv_up hm hd h3, h4⟩
theorem stand_s {m : Nat} (hm : m < 64) : ∀ d, d < 7 → sumN (mdN ls m) (d + 1) + pS ls m d = 16
  | 0, _ => by
    have h1 : pU ls m 0 = 16 := nfst_nil
    have h2 : pS ls m 0 ≤ 16 := nfst_le _ _
    show 0 + (pU ls m 0 - pS ls m 0) + pS ls m 0 = 16
    omega
  | d + 1, hd => by
    have h1 := stand_s hm d (by omega)
    have h2 := pS_dn (ls := ls) hm (show d < 6 by omega)
    have h3 : mdN ls m (d + 1) = pS ls m d - pS ls m (d + 1) := rfl
    show sumN (mdN ls m) (d + 1) + mdN ls m (d + 1) + pS ls m (d + 1) = 16
    omega
theorem sb_6 : ∀ m, m < 64 → sb m 6 = m := by decide +kernel
theorem pS_6 {m : Nat} (hm : m < 64) : pS ls m 6 = pts ls m := by
  have e : cvP m 6 = lvA m := by
    funext k y
    show cvB (sb m 6) (sl 6) y = lvB (m : Int) y
    unfold cvB lvB
    rw [decide_eq_decide, sb_6 m hm, show sl 6 = 1 by rfl]
    omega
  show nfst (Cn (EK ls (cvP m 6) ls.length)) 16 = nfst (Cn (EK ls (lvA m) ls.length)) 16
  rw [e]
theorem stand {m : Nat} (hm : m < 64) : sumN (mdN ls m) 7 + pts ls m = 16 := by
  have := stand_s (ls := ls) hm 6 (by omega)
  rwa [pS_6 hm] at this
theorem stand_le {m : Nat} (hm : m < 64) : sumN (mdN ls m) 7 ≤ mx2 (stN ls) 64 := by
  have h1 := mx2_ge (f := stN ls) (show 6 < 7 by omega) (sb_6 m hm) hm
  have h2 := stand (ls := ls) hm
  have h3 : stN ls m 6 = 16 - pts ls m := by unfold stN; rw [pS_6 hm]
  omega
theorem cnt_sum {p : Nat → Lk → Bool} {q : Lk → Bool} {n : Nat} : ∀ {l : List Lk}, (∀ y ∈ l, sumN (fun d => if p d y = true then 1 else 0) n = if q y = true then 1 else 0) → sumN (fun d => l.countP (p d)) n = l.countP q
  | [], _ => sumN_z (fun _ _ => rfl)
  | y :: l, h => by
    have h1 := cnt_sum (l := l) (fun z hz => h z (List.mem_cons_of_mem _ hz))
    have h2 := h y List.mem_cons_self
    have e : sumN (fun d => (y :: l).countP (p d)) n = sumN (fun d => l.countP (p d) + if p d y = true then 1 else 0) n := sumN_c (fun d _ => List.countP_cons)
    rw [e, sumN_add (fun d => l.countP (p d)) (fun d => if p d y = true then 1 else 0), h1, h2]
    exact List.countP_cons.symm
theorem one_depth {m : Nat} (hm : m < 64) (y : Lk) : ∀ d, d < 7 → sumN (fun d => if ldB (sb m d) d y = true then 1 else 0) (d + 1) = if cvB (sb m d) (sl d) y = true then 1 else 0
  | 0, _ => by
    have e : ldB (sb m 0) 0 y = cvB (sb m 0) (sl 0) y := by
      show (cvB (sb m 0) (sl 0) y && (decide (0 = 0) || !cvB (sb (sb m 0) (0 - 1)) (sl (0 - 1)) y)) = _
      simp
    show 0 + (if ldB (sb m 0) 0 y = true then 1 else 0) = _
    rw [e, Nat.zero_add]
  | d + 1, hd => by
    have h1 := one_depth hm y d (by omega)
    have e : ldB (sb m (d + 1)) (d + 1) y = (cvB (sb m (d + 1)) (sl (d + 1)) y && !cvB (sb m d) (sl d) y) := by
      show (cvB (sb m (d + 1)) (sl (d + 1)) y && (decide (d + 1 = 0) || !cvB (sb (sb m (d + 1)) (d + 1 - 1)) (sl (d + 1 - 1)) y)) = _
      rw [Nat.add_sub_cancel, sb_f1 m hm d (by omega)]
      simp
    have h2 := cv_up (y := y) hm (show d < 6 by omega)
    show sumN (fun d => if ldB (sb m d) d y = true then 1 else 0) (d + 1) + (if ldB (sb m (d + 1)) (d + 1) y = true then 1 else 0) = _
    rw [h1, e]
    cases q1 : cvB (sb m d) (sl d) y with
    | true => rw [h2 q1]; rfl
    | false => cases q2 : cvB (sb m (d + 1)) (sl (d + 1)) y <;> rfl
theorem laid_one {m : Nat} (hm : m < 64) : sumN (lcN ls m) 7 = ls.countP (lvB (m : Int)) := by
  refine cnt_sum (p := fun d y => ldB (sb m d) d y) (fun y _ => ?_)
  rw [one_depth hm y 6 (by omega)]
  have e : cvB (sb m 6) (sl 6) y = lvB (m : Int) y := by
    unfold cvB lvB
    rw [decide_eq_decide, sb_6 m hm, show sl 6 = 1 by rfl]
    omega
  rw [e]
/-! needed links, idle links -/
noncomputable def pNd (ls : List Lk) (m k : Nat) (y : Lk) : Bool := @decide (NM ls k m y) (Classical.propDecidable _)
theorem pNd_iff {m k : Nat} {y : Lk} : pNd ls m k y = true ↔ NM ls k m y := by simp [pNd]
theorem need_s (hO : ∀ x ∈ ls, okK x) (h4 : ls.length ≤ 40) {m : Nat} : ∀ k, k ≤ ls.length → sumN (nlN ls m) k + nfst (Cn (EK ls (pNd ls m) k)) 16 = 16
  | 0, _ => by
    show 0 + nfst (Cn []) 16 = 16
    rw [nfst_nil]
  | k + 1, hk => by
    have h1 := need_s hO h4 (m := m) k (by omega)
    obtain ⟨y, hy⟩ := get_of (show k < ls.length by omega)
    have ok := hO y (List.mem_of_getElem? hy)
    show sumN (nlN ls m) k + nlN ls m k + _ = 16
    rw [EK_s hy, nlN_of hy]
    by_cases q : NM ls k m y
    · rw [if_pos (pNd_iff.mpr q), oneI_t q, nfst_set cons_set]
      have h2 := rk_cons (E := EK ls (pNd ls m) k) (EK_lt hO) ok.1 ok.2.1
      have h3 : ¬ Cn (EK ls (pNd ls m) k) y.1 y.2.1 := fun z => q.2 (z.mono (fun e he => by
        obtain ⟨j, w, g1, g2, g3, g4⟩ := EK_mem.mp he
        exact EK_mem.mpr ⟨j, w, by omega, g2, lvX_iff.mpr ⟨fun z => absurd ((nI_eq (by omega) (by omega)).mp z) (by omega), (pNd_iff.mp g3).1⟩, g4⟩))
      rw [oneI_t h3] at h2
      omega
    · rw [if_neg (fun z => q (pNd_iff.mp z)), oneI_f q, List.append_nil]
      omega
theorem need_le (hO : ∀ x ∈ ls, okK x) (h4 : ls.length ≤ 40) {m : Nat} (hm : m < 64) : sumN (nlN ls m) ls.length ≤ sumN (mdN ls m) 7 := by
  have h1 := need_s hO h4 (m := m) ls.length (Nat.le_refl _)
  have h2 := stand (ls := ls) hm
  have h3 : pts ls m ≤ nfst (Cn (EK ls (pNd ls m) ls.length)) 16 := rk_mono (fun e he => by
    obtain ⟨j, w, g1, g2, g3, g4⟩ := EK_mem.mp he
    exact EK_mem.mpr ⟨j, w, g1, g2, (pNd_iff.mp g3).1, g4⟩)
  omega
theorem forest : ∀ {E : List (Nat × Nat)}, (∀ e ∈ E, e.1 < 16 ∧ e.2 < 16) → 16 ≤ E.length + nfst (Cn E) 16 ∧ (E.length + nfst (Cn E) 16 = 16 → ∃ c : Nat → Prop, ∀ e ∈ E, (c e.1 ↔ ¬ c e.2))
  | [], _ => ⟨by rw [nfst_nil]; exact Nat.le_refl _, fun _ => ⟨fun _ => True, fun e he => by simp at he⟩⟩
  | (x, y) :: E, hE => by
    have hE' : ∀ e ∈ E, e.1 < 16 ∧ e.2 < 16 := fun e he => hE e (List.mem_cons_of_mem _ he)
    have hx : x < 16 := (hE (x, y) List.mem_cons_self).1
    have hy : y < 16 := (hE (x, y) List.mem_cons_self).2
    obtain ⟨g1, g2⟩ := forest hE'
    have h1 := rk_cons hE' hx hy
    have h2 := oneI_le (¬ Cn E x y)
    have L : ((x, y) :: E).length = E.length + 1 := rfl
    refine ⟨by omega, fun hq => ?_⟩
    have hn : ¬ Cn E x y := fun z => by
      rw [oneI_f (fun w => w z)] at h1
      omega
    obtain ⟨c, hc⟩ := g2 (by omega)
    rcases Classical.em (c x ↔ ¬ c y) with k | k
    · refine ⟨c, fun e he => ?_⟩
      rcases List.mem_cons.mp he with rfl | he
      · exact k
      · exact hc e he
    · refine ⟨fun v => (Cn E x v ∧ ¬ c v) ∨ (¬ Cn E x v ∧ c v), fun e he => ?_⟩
      rcases List.mem_cons.mp he with rfl | he
      · show (Cn E x x ∧ ¬ c x) ∨ (¬ Cn E x x ∧ c x) ↔ ¬ ((Cn E x y ∧ ¬ c y) ∨ (¬ Cn E x y ∧ c y))
        have r := Cn.rf (E := E) x
        rcases Classical.em (c x) with a | a <;> rcases Classical.em (c y) with b | b <;> simp [a, b, hn, r] <;> simp [a, b] at k
      · have h3 : Cn E x e.1 ↔ Cn E x e.2 := ⟨fun z => z.tr (Cn.ed he), fun z => z.tr (Cn.ed he).sm⟩
        have h4 := hc e he
        rcases Classical.em (Cn E x e.2) with a | a <;> rcases Classical.em (c e.2) with b | b <;> simp [a, b, h3, h4]
theorem EK_cnt {m : Nat} : ∀ k, k ≤ ls.length → (EK ls (lvA m) k).length = (ls.take k).countP (lvB (m : Int))
  | 0, _ => by rw [List.take_zero]; rfl
  | k + 1, hk => by
    obtain ⟨y, hy⟩ := get_of (show k < ls.length by omega)
    rw [EK_s hy, List.length_append, EK_cnt k (by omega), take_succ_cnt _ hy]
    show _ + (if lvB (m : Int) y = true then [(y.1, y.2.1)] else []).length = _
    split <;> rfl
theorem odd_idle (hO : ∀ x ∈ ls, okK x) {m : Nat} (h : OM ls m) : 17 ≤ ls.countP (lvB (m : Int)) + pts ls m := by
  obtain ⟨g1, g2⟩ := forest (E := EK ls (lvA m) ls.length) (EK_lt hO)
  have e1 := EK_cnt (ls := ls) (m := m) ls.length (Nat.le_refl _)
  rw [List.take_length] at e1
  have e2 : nfst (Cn (EK ls (lvA m) ls.length)) 16 = pts ls m := rfl
  rw [e1, e2] at g1 g2
  rcases Nat.lt_or_ge 16 (ls.countP (lvB (m : Int)) + pts ls m) with q | q
  · exact q
  · obtain ⟨c, hc⟩ := g2 (by omega)
    obtain ⟨x, hx, hC⟩ := h
    have := hC (fun v => (v < 16 ∧ c v) ∨ (16 ≤ v ∧ ¬ c (v - 16))) (fun e he => by
      obtain ⟨k, y, h1, h2, h3, h4⟩ := DK_mem.mp he
      have ok := hO y (List.mem_of_getElem? h2)
      have hy := hc (y.1, y.2.1) (EK_mem.mpr ⟨k, y, h1, h2, h3, rfl⟩)
      have hy : c y.1 ↔ ¬ c y.2.1 := hy
      rcases h4 with rfl | rfl
      · show (y.1 < 16 ∧ c y.1) ∨ (16 ≤ y.1 ∧ ¬ c (y.1 - 16)) ↔ (16 + y.2.1 < 16 ∧ c (16 + y.2.1)) ∨ (16 ≤ 16 + y.2.1 ∧ ¬ c (16 + y.2.1 - 16))
        rw [show 16 + y.2.1 - 16 = y.2.1 by omega]
        constructor
        · rintro (⟨-, z⟩ | ⟨z, -⟩)
          · exact Or.inr ⟨by omega, hy.mp z⟩
          · exact absurd ok.1 (by omega)
        · rintro (⟨z, -⟩ | ⟨-, z⟩)
          · exact absurd z (by omega)
          · exact Or.inl ⟨ok.1, hy.mpr z⟩
      · show (16 + y.1 < 16 ∧ c (16 + y.1)) ∨ (16 ≤ 16 + y.1 ∧ ¬ c (16 + y.1 - 16)) ↔ (y.2.1 < 16 ∧ c y.2.1) ∨ (16 ≤ y.2.1 ∧ ¬ c (y.2.1 - 16))
        rw [show 16 + y.1 - 16 = y.1 by omega]
        constructor
        · rintro (⟨z, -⟩ | ⟨-, z⟩)
          · exact absurd z (by omega)
          · exact Or.inl ⟨ok.2.1, Classical.not_not.mp (fun w => z (hy.mpr w))⟩
        · rintro (⟨-, z⟩ | ⟨z, -⟩)
          · exact Or.inr ⟨by omega, fun w => hy.mp w z⟩
          · exact absurd ok.2.1 (by omega))
    have h1 : (x < 16 ∧ c x) ∨ (16 ≤ x ∧ ¬ c (x - 16)) ↔ (16 + x < 16 ∧ c (16 + x)) ∨ (16 ≤ 16 + x ∧ ¬ c (16 + x - 16)) := this
    rw [show 16 + x - 16 = x by omega] at h1
    rcases Classical.em (c x) with z | z
    · rcases h1.mp (Or.inl ⟨hx, z⟩) with ⟨w, -⟩ | ⟨-, w⟩
      · omega
      · exact absurd z w
    · rcases h1.mpr (Or.inr ⟨by omega, z⟩) with ⟨-, w⟩ | ⟨w, -⟩
      · exact absurd w z
      · omega
/-! parts -/
theorem pts_0 {m : Nat} (h : ls.countP (lvB (m : Int)) = 0) : pts ls m = 16 := by
  have e : EK ls (lvA m) ls.length = [] := by
    have e1 := EK_cnt (ls := ls) (m := m) ls.length (Nat.le_refl _)
    rw [List.take_length, h] at e1
    exact List.length_eq_zero_iff.mp e1
  show nfst (Cn (EK ls (lvA m) ls.length)) 16 = 16
  rw [e]; exact nfst_nil
theorem cnt_flt {m : Int} : (ls.filter (fun x => !lvB m x)).countP (lvB m) = 0 := by
  rw [List.countP_eq_zero]
  intro a ha
  have := (List.mem_filter.mp ha).2
  intro z
  rw [z] at this
  exact absurd this (by decide)
theorem al_mx {m : Nat} : sumN (alN ls m) 16 + maxN (pSz ls m) 16 ≤ 16 + (if maxN (pSz ls m) 16 = 1 then 1 else 0) := by
  have h1 : sumN (alN ls m) 16 ≤ 1 * 16 := sumN_le (fun _ => oneI_le _) 16
  by_cases q : maxN (pSz ls m) 16 = 1
  · rw [if_pos q]; omega
  · rw [if_neg q]
    rcases Nat.eq_zero_or_pos (maxN (pSz ls m) 16) with z | z
    · omega
    · obtain ⟨p, hp, e⟩ := maxN_at z
      have h2 : sumN (fun y => alN ls m y + oneI (CM ls m y p)) 16 ≤ sumN (fun _ => 1) 16 := sumN_mono (fun y hy => by
        rcases Classical.em (CM ls m y p) with c | c
        · have e2 : pSz ls m y = pSz ls m p := sumN_c (fun k _ => oneI_c ⟨fun w => w.tr c, fun w => w.tr c.sm⟩)
          have e3 : alN ls m y = 0 := oneI_f (fun w => q (by rw [← e, ← e2]; exact w))
          rw [e3, oneI_t c]; exact Nat.le_refl _
        · rw [oneI_f c]; exact oneI_le _)
      rw [sumN_add (alN ls m) (fun y => oneI (CM ls m y p)), sumN_one] at h2
      have e4 : sumN (fun y => oneI (CM ls m y p)) 16 = maxN (pSz ls m) 16 := e
      omega
theorem lw_spec {m p : Nat} (hp : p < 16) : lwN ls m p < 16 ∧ CM ls m p (lwN ls m p) ∧ ∀ y, y < lwN ls m p → ¬ CM ls m p y := by
  obtain ⟨l, h1, h2, h3⟩ := least_of (fun y => CM ls m p y) p (Cn.rf p)
  exact Classical.epsilon_spec (p := fun l => l < 16 ∧ CM ls m p l ∧ ∀ y, y < l → ¬ CM ls m p y) ⟨l, by omega, h1, h3⟩
theorem lw_eq {m p q : Nat} (hp : p < 16) (hq : q < 16) : lwN ls m p = lwN ls m q ↔ CM ls m p q := by
  have s1 := lw_spec (ls := ls) (m := m) hp
  have s2 := lw_spec (ls := ls) (m := m) hq
  constructor
  · intro e
    exact s1.2.1.tr (by rw [e]; exact s2.2.1.sm)
  · intro c
    exact (lwN_of s1.1 (c.sm.tr s1.2.1) (fun y hy z => s1.2.2 y hy (c.tr z)))
theorem BS_ex (P : Nat → Prop) : ∀ k, k ≤ 16 → ∃ r, BS r (fun i => i < k ∧ P i)
  | 0, _ => ⟨0, fun i => ⟨fun h => by simp at h, fun h => absurd h.2.1 (Nat.not_lt_zero _)⟩⟩
  | k + 1, hk => by
    obtain ⟨r, hr⟩ := BS_ex P k (by omega)
    rcases Classical.em (P k) with q | q
    · exact ⟨_, BS.one (k := k) (by omega) hr (fun i hi => ⟨fun z => by
        rcases Nat.lt_or_ge i k with w | w
        · exact Or.inl ⟨w, z.2⟩
        · exact Or.inr (by omega), fun z => by
        rcases z with z | z
        · exact ⟨by omega, z.2⟩
        · subst z; exact ⟨by omega, q⟩⟩)⟩
    · refine ⟨r, fun i => (hr i).trans ⟨fun z => ⟨z.1, by omega, z.2.2⟩, fun z => ⟨z.1, ?_, z.2.2⟩⟩⟩
      rcases Nat.lt_or_ge i k with w | w
      · exact w
      · have := z.2.1
        obtain rfl : i = k := by omega
        exact absurd z.2.2 q
theorem bt_spec (m p : Nat) : BS (btN ls m p) (fun i => CM ls m p i) := by
  obtain ⟨r, hr⟩ := BS_ex (fun i => CM ls m p i) 16 (Nat.le_refl _)
  exact Classical.epsilon_spec (p := fun r => BS r (fun i => CM ls m p i)) ⟨r, fun i => (hr i).trans ⟨fun z => ⟨z.1, z.2.2⟩, fun z => ⟨z.1, z.1, z.2⟩⟩⟩
theorem BS_bit {r : Int32} {P : Nat → Prop} (h : BS r P) {i : Nat} (hi : i < 16) : (r >>> (nI i &&& 31)) &&& 1 = bI (P i) := by
  have hk := h i
  have e0 : ∀ i, i < 16 → (nI i &&& 31) = nI i := by decide +kernel
  rw [e0 i hi]
  have e1 : ((r >>> nI i) &&& 1).toBitVec = if r.toBitVec.getLsbD i = true then 1#32 else 0#32 := by
    rw [Int32.toBitVec_and, Int32.toBitVec_shiftRight]
    have e2 : ((nI i).toBitVec.smod 32).toNat = i := by
      have : ∀ i, i < 16 → ((nI i).toBitVec.smod 32).toNat = i := by decide +kernel
      exact this i hi
    apply BitVec.eq_of_getLsbD_eq
    intro j hj
    rw [BitVec.getLsbD_and]
    show ((r.toBitVec.sshiftRight' ((nI i).toBitVec.smod 32)).getLsbD j && (1#32).getLsbD j) = _
    unfold BitVec.sshiftRight'
    rw [e2]
    by_cases j0 : j = 0
    · subst j0
      rw [BitVec.getLsbD_sshiftRight]
      have a1 : i < 32 := by omega
      by_cases q : r.toBitVec.getLsbD i = true
      · simp [q, a1]
      · have q2 : r.toBitVec.getLsbD i = false := Bool.eq_false_iff.mpr q
        rw [if_neg q, Nat.add_zero, q2, if_pos a1]; simp
    · have : (1#32).getLsbD j = false := by simp [BitVec.getLsbD_one, j0]
      rw [this, Bool.and_false]
      split <;> simp [BitVec.getLsbD_one, j0]
  by_cases q : r.toBitVec.getLsbD i = true
  · rw [if_pos q] at e1
    have : P i := (hk.mp q).2
    have e3 : bI (P i) = 1 := by unfold bI; exact if_pos this
    rw [e3]
    exact Int32.toBitVec_inj.mp e1
  · rw [if_neg q] at e1
    have : ¬ P i := fun z => q (hk.mpr ⟨hi, z⟩)
    have e3 : bI (P i) = 0 := by unfold bI; exact if_neg this
    rw [e3]
    exact Int32.toBitVec_inj.mp e1
/-! how long a link is needed, at how many spans it is laid -/
theorem cnt_rng (b e : Nat) : ∀ n, sumN (fun m => if b ≤ m ∧ m < e then 1 else 0) n ≤ e - b ∧ sumN (fun m => if b ≤ m ∧ m < e then 1 else 0) n ≤ n - b
  | 0 => ⟨Nat.zero_le _, Nat.zero_le _⟩
  | n + 1 => by
    have h := cnt_rng b e n
    show sumN _ n + (if b ≤ n ∧ n < e then 1 else 0) ≤ e - b ∧ sumN _ n + (if b ≤ n ∧ n < e then 1 else 0) ≤ n + 1 - b
    split
    · rename_i q
      omega
    · omega
theorem nm_le (k : Nat) (y : Lk) : sumN (nmN ls k y) 64 ≤ y.2.2.2 - y.2.2.1 := by
  refine Nat.le_trans (sumN_mono (fun m _ => ?_)) (cnt_rng y.2.2.1 y.2.2.2 64).1
  rcases Classical.em (NM ls k m y) with q | q
  · have := lvB_iff.mp q.1
    rw [if_pos (by omega)]
    exact oneI_le _
  · show oneI (NM ls k m y) ≤ _
    rw [oneI_f q]; exact Nat.zero_le _
end Well
