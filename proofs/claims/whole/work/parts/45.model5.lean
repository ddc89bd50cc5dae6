def DB (ls : List Lk) (x : Int64) : List (Nat × Nat) := DK ls (fun k _ => b6 x k) ls.length
def UP (o o' : Int32) (c : Prop) (v : Nat) : Prop := ∀ i, b5 o' i = true ↔ (b5 o i = true ∨ (c ∧ i = v))
theorem UP.no {o : Int32} {c : Prop} {v : Nat} (h : ¬ c) : UP o (o ||| 0) c v := fun i => by
  rw [or0_5]
  exact ⟨Or.inl, fun q => q.elim id (fun z => absurd z.1 h)⟩
theorem UP.yes {o : Int32} {c : Prop} {v : Nat} (h : c) (hv : v < 16) : UP o (o ||| ((1 : Int32) <<< (nI v &&& 31))) c v := fun i => by
  rw [b5_or, Bool.or_eq_true, b5_p hv]
  exact ⟨fun q => q.elim Or.inl (fun z => Or.inr ⟨h, z⟩), fun q => q.elim Or.inl (fun z => Or.inr z.2)⟩
theorem b5_and1 {s : Int32} {u : Nat} (hu : u < 16) : s &&& ((1 : Int32) <<< (nI u &&& 31)) = 0 ↔ ¬ b5 s u = true := by
  constructor
  · intro e q
    have := b5_and s ((1 : Int32) <<< (nI u &&& 31)) u
    rw [e, b5_0, q, (b5_p hu u).mpr rfl] at this
    cases this
  · intro q
    refine b5_ext (fun i => ?_)
    rw [b5_and, b5_0]
    by_cases z : i = u
    · subst z
      simp only [Bool.not_eq_true] at q
      rw [q]; rfl
    · have : ¬ b5 ((1 : Int32) <<< (nI u &&& 31)) i = true := fun w => z ((b5_p hu i).mp w)
      simp only [Bool.not_eq_true] at this
      rw [this, Bool.and_false]
def CLo (ls : List Lk) (x : Int64) (e o : Int32) : Prop := ∀ (j : Nat) (y : Lk), ls[j]? = some y → b6 x j = true → ((b5 e y.1 = true ↔ b5 o y.2.1 = true) ∧ (b5 o y.1 = true ↔ b5 e y.2.1 = true))
def TB (e o : Int32) (z : Nat) : Prop := (z < 16 ∧ b5 e z = true) ∨ (16 ≤ z ∧ b5 o (z - 16) = true)
theorem TB_e {e o : Int32} {z : Nat} (hz : z < 16) : TB e o z ↔ b5 e z = true := ⟨fun q => q.elim (fun w => w.2) (fun w => by omega), fun q => Or.inl ⟨hz, q⟩⟩
theorem TB_o {e o : Int32} {z : Nat} : TB e o (16 + z) ↔ b5 o z = true := ⟨fun q => q.elim (fun w => by omega) (fun w => by have := w.2; rwa [Nat.add_sub_cancel_left] at this), fun q => Or.inr ⟨by omega, by rw [Nat.add_sub_cancel_left]; exact q⟩⟩
theorem TB_cl {ls : List Lk} {x : Int64} {e o : Int32} (hok : ∀ y ∈ ls, okK y) (h : CLo ls x e o) : ∀ d ∈ DB ls x, TB e o d.1 ↔ TB e o d.2 := by
  intro d hd
  obtain ⟨k, y, h1, h2, h3, h4⟩ := DK_mem.mp hd
  obtain ⟨o1, o2, -⟩ := hok y (List.mem_of_getElem? h2)
  have hc := h k y h2 h3
  rcases h4 with rfl | rfl
  · show TB e o y.1 ↔ TB e o (16 + y.2.1)
    rw [TB_e o1, TB_o]; exact hc.1
  · show TB e o (16 + y.1) ↔ TB e o y.2.1
    rw [TB_e o2, TB_o]; exact hc.2
def io (z : Nat) : Nat := if z < 16 then 16 + z else z - 16
theorem io_e {z : Nat} (h : z < 16) : io z = 16 + z := if_pos h
theorem io_o (z : Nat) : io (16 + z) = z := by unfold io; rw [if_neg (by omega)]; omega
theorem DB_inv {ls : List Lk} {x : Int64} (hok : ∀ y ∈ ls, okK y) {u v : Nat} (h : Cn (DB ls x) u v) : Cn (DB ls x) (io u) (io v) := by
  intro S hS
  refine h (fun z => S (io z)) (fun d hd => ?_)
  obtain ⟨k, y, h1, h2, h3, h4⟩ := DK_mem.mp hd
  obtain ⟨o1, o2, -⟩ := hok y (List.mem_of_getElem? h2)
  rcases h4 with rfl | rfl
  · show S (io y.1) ↔ S (io (16 + y.2.1))
    rw [io_e o1, io_o]
    exact hS (16 + y.1, y.2.1) (DK_mem.mpr ⟨k, y, h1, h2, h3, Or.inr rfl⟩)
  · show S (io (16 + y.1)) ↔ S (io y.2.1)
    rw [io_e o2, io_o]
    exact hS (y.1, 16 + y.2.1) (DK_mem.mpr ⟨k, y, h1, h2, h3, Or.inl rfl⟩)
def RG (G : Nat → Prop) (e o : Int32) : Prop := (∀ i, b5 e i = true → i < 16 ∧ G i) ∧ (∀ i, b5 o i = true → i < 16 ∧ G (16 + i))
def SB (t t' e o : Int32) : Prop := (∀ i, b5 t i = true → b5 e i = true) ∧ (∀ i, b5 t' i = true → b5 o i = true)
def RJ (ls : List Lk) (x : Int64) (G : Nat → Prop) (t t' e o : Int32) (k : Nat) : Prop := RG G e o ∧ SB t t' e o ∧ ((e = t ∧ o = t' ∧ ∀ (j : Nat) (y : Lk), j < k → ls[j]? = some y → b6 x j = true → ((b5 t y.1 = true ↔ b5 t' y.2.1 = true) ∧ (b5 t' y.1 = true ↔ b5 t y.2.1 = true))) ∨ cd5 t + cd5 t' < cd5 e + cd5 o)
theorem RJ.step {ls : List Lk} {x : Int64} {G : Nat → Prop} {t t' e o o1 o2 e1 e2 : Int32} {k : Nat} {y : Lk} (hG : ∀ d ∈ DB ls x, G d.1 ↔ G d.2) (h : RJ ls x G t t' e o k) (hy : ls[k]? = some y) (hk : k < ls.length) (hu : y.1 < 16) (hv : y.2.1 < 16)
    (u1 : UP o o1 (b6 x k = true ∧ b5 e y.1 = true) y.2.1) (u2 : UP o1 o2 (b6 x k = true ∧ b5 e y.2.1 = true) y.1) (u3 : UP e e1 (b6 x k = true ∧ b5 o2 y.1 = true) y.2.1) (u4 : UP e1 e2 (b6 x k = true ∧ b5 o2 y.2.1 = true) y.1) : RJ ls x G t t' e2 o2 (k + 1) := by
  obtain ⟨⟨g1, g2⟩, ⟨s1, s2⟩, h3⟩ := h
  have hE : b6 x k = true → (G y.1 ↔ G (16 + y.2.1)) ∧ (G (16 + y.1) ↔ G y.2.1) := fun hb => ⟨hG (y.1, 16 + y.2.1) (DK_mem.mpr ⟨k, y, hk, hy, hb, Or.inl rfl⟩), hG (16 + y.1, y.2.1) (DK_mem.mpr ⟨k, y, hk, hy, hb, Or.inr rfl⟩)⟩
  have k1 : ∀ i, b5 o1 i = true → i < 16 ∧ G (16 + i) := by
    intro i q
    rcases (u1 i).mp q with z | ⟨⟨z1, z2⟩, rfl⟩
    · exact g2 i z
    · exact ⟨hv, (hE z1).1.mp (g1 _ z2).2⟩
  have k2 : ∀ i, b5 o2 i = true → i < 16 ∧ G (16 + i) := by
    intro i q
    rcases (u2 i).mp q with z | ⟨⟨z1, z2⟩, rfl⟩
    · exact k1 i z
    · exact ⟨hu, (hE z1).2.mpr (g1 _ z2).2⟩
  have k3 : ∀ i, b5 e1 i = true → i < 16 ∧ G i := by
    intro i q
    rcases (u3 i).mp q with z | ⟨⟨z1, z2⟩, rfl⟩
    · exact g1 i z
    · exact ⟨hv, (hE z1).2.mp (k2 _ z2).2⟩
  have k4 : ∀ i, b5 e2 i = true → i < 16 ∧ G i := by
    intro i q
    rcases (u4 i).mp q with z | ⟨⟨z1, z2⟩, rfl⟩
    · exact k3 i z
    · exact ⟨hu, (hE z1).1.mpr (k2 _ z2).2⟩
  have m1 : ∀ i, b5 o i = true → b5 o2 i = true := fun i q => (u2 i).mpr (Or.inl ((u1 i).mpr (Or.inl q)))
  have m2 : ∀ i, b5 e i = true → b5 e2 i = true := fun i q => (u4 i).mpr (Or.inl ((u3 i).mpr (Or.inl q)))
  refine ⟨⟨k4, k2⟩, ⟨fun i q => m2 i (s1 i q), fun i q => m1 i (s2 i q)⟩, ?_⟩
  by_cases c : e = e2 ∧ o = o2
  · obtain ⟨rfl, rfl⟩ := c
    rcases h3 with ⟨rfl, rfl, h3⟩ | h3
    · refine Or.inl ⟨rfl, rfl, fun j z hj hz hb => ?_⟩
      by_cases ej : j = k
      · subst ej
        rw [hy] at hz; cases hz
        exact ⟨⟨fun q => (u2 _).mpr (Or.inl ((u1 _).mpr (Or.inr ⟨⟨hb, q⟩, rfl⟩))), fun q => (u4 _).mpr (Or.inr ⟨⟨hb, q⟩, rfl⟩)⟩, ⟨fun q => (u4 _).mpr (Or.inl ((u3 _).mpr (Or.inr ⟨⟨hb, q⟩, rfl⟩))), fun q => (u2 _).mpr (Or.inr ⟨⟨hb, q⟩, rfl⟩)⟩⟩
      · exact h3 j z (by omega) hz hb
    · exact Or.inr h3
  · right
    have n1 : cd5 t + cd5 t' ≤ cd5 e + cd5 o := Nat.add_le_add (cd5_mono s1) (cd5_mono s2)
    have n2 := cd5_mono m1
    have n3 := cd5_mono m2
    by_cases q : e = e2
    · have := cd5_lt m1 (fun z => c ⟨q, z⟩) (fun i z => (k2 i z).1)
      omega
    · have := cd5_lt m2 q (fun i z => (k4 i z).1)
      omega
theorem RJ.fin {ls : List Lk} {x : Int64} {G : Nat → Prop} {e o : Int32} (h : RJ ls x G e o e o ls.length) : CLo ls x e o := by
  intro j y hy hb
  rcases h.2.2 with ⟨-, -, h3⟩ | h3
  · exact h3 j y (get_lt hy) hy hb
  · omega
def OI (ls : List Lk) (x : Int64) (e o : Int32) (p : Nat) : Prop := (∀ i, b5 e i = true → i < 16) ∧ (∀ i, b5 o i = true → i < 16) ∧ CLo ls x e o ∧ (∀ q, q < p → b5 e q = true ∨ b5 o q = true) ∧ (∀ i, b5 e i = true → b5 o i = true → Cn (DB ls x) i (16 + i))
theorem OI.nil (ls : List Lk) (x : Int64) : OI ls x 0 0 0 := by
  have n : ∀ i, ¬ b5 0 i = true := fun i => by rw [b5_0]; exact Bool.noConfusion
  exact ⟨fun i q => absurd q (n i), fun i q => absurd q (n i), fun j y _ _ => ⟨⟨fun q => absurd q (n _), fun q => absurd q (n _)⟩, ⟨fun q => absurd q (n _), fun q => absurd q (n _)⟩⟩, fun q hq => by omega, fun i q => absurd q (n i)⟩
theorem OI.fin {ls : List Lk} {x : Int64} {e o : Int32} (hok : ∀ y ∈ ls, okK y) (h : OI ls x e o 16) : e &&& o = 0 ↔ ¬ ∃ z : Nat, z < 16 ∧ Cn (DB ls x) z (16 + z) := by
  obtain ⟨h1, h2, h3, h4, h5⟩ := h
  constructor
  · rintro e0 ⟨z, hz, hc⟩
    have hT := hc (TB e o) (TB_cl hok h3)
    rw [TB_e hz, TB_o] at hT
    have hb : b5 e z = true ∧ b5 o z = true := by
      rcases h4 z hz with q | q
      · exact ⟨q, hT.mp q⟩
      · exact ⟨hT.mpr q, q⟩
    have := b5_and e o z
    rw [e0, b5_0, hb.1, hb.2] at this
    cases this
  · intro hn
    refine b5_ext (fun i => ?_)
    rw [b5_and, b5_0]
    by_cases q : b5 e i = true
    · by_cases r : b5 o i = true
      · exact absurd ⟨i, h1 i q, h5 i q r⟩ hn
      · simp only [Bool.not_eq_true] at r
        rw [r, Bool.and_false]
    · simp only [Bool.not_eq_true] at q
      rw [q]; rfl
def Gp (ls : List Lk) (x : Int64) (e o : Int32) (p : Nat) (z : Nat) : Prop := TB e o z ∨ Cn (DB ls x) p z
theorem Gp_cl {ls : List Lk} {x : Int64} {e o : Int32} {p : Nat} (hok : ∀ y ∈ ls, okK y) (h : CLo ls x e o) : ∀ d ∈ DB ls x, Gp ls x e o p d.1 ↔ Gp ls x e o p d.2 := fun d hd => by
  have h1 := TB_cl hok h d hd
  have h2 : Cn (DB ls x) d.1 d.2 := Cn.ed hd
  exact ⟨fun q => q.elim (fun z => Or.inl (h1.mp z)) (fun z => Or.inr (z.tr h2)), fun q => q.elim (fun z => Or.inl (h1.mpr z)) (fun z => Or.inr (z.tr h2.sm))⟩
theorem OI.skip {ls : List Lk} {x : Int64} {e o : Int32} {p : Nat} (h : OI ls x e o p) (hp : b5 (e ||| o) p = true) : OI ls x e o (p + 1) := by
  obtain ⟨h1, h2, h3, h4, h5⟩ := h
  rw [b5_or, Bool.or_eq_true] at hp
  refine ⟨h1, h2, h3, fun q hq => ?_, h5⟩
  rcases Nat.lt_succ_iff_lt_or_eq.mp hq with z | rfl
  · exact h4 q z
  · exact hp
theorem OI.next {ls : List Lk} {x : Int64} {e o e' o' : Int32} {p : Nat} (hok : ∀ y ∈ ls, okK y) (hp : p < 16) (h : OI ls x e o p) (hn : ¬ b5 (e ||| o) p = true) (hg : RG (Gp ls x e o p) e' o') (hs : SB (e ||| ((1 : Int32) <<< (nI p &&& 31))) o e' o') (hc : CLo ls x e' o') : OI ls x e' o' (p + 1) := by
  obtain ⟨h1, h2, h3, h4, h5⟩ := h
  obtain ⟨s1, s2⟩ := hs
  have s3 : ∀ i, b5 e i = true → b5 e' i = true := fun i q => s1 i (by rw [b5_or, q]; rfl)
  have s4 : b5 e' p = true := s1 p (by rw [b5_or, Bool.or_eq_true]; exact Or.inr ((b5_p hp p).mpr rfl))
  have no : ¬ TB e o (16 + p) := fun q => hn (by rw [b5_or, Bool.or_eq_true]; exact Or.inr (TB_o.mp q))
  refine ⟨fun i q => (hg.1 i q).1, fun i q => (hg.2 i q).1, hc, fun q hq => ?_, fun i q r => ?_⟩
  · rcases Nat.lt_succ_iff_lt_or_eq.mp hq with z | rfl
    · exact (h4 q z).imp (s3 q) (s2 q)
    · exact Or.inl s4
  · obtain ⟨hi, a1⟩ := hg.1 i q
    obtain ⟨-, a2⟩ := hg.2 i r
    have hT := TB_cl hok h3
    rcases a1 with a1 | a1
    · rcases a2 with a2 | a2
      · exact h5 i ((TB_e hi).mp a1) (TB_o.mp a2)
      · have := DB_inv hok a2
        rw [io_e hp, io_o] at this
        exact absurd ((this _ hT).mpr a1) no
    · rcases a2 with a2 | a2
      · have := DB_inv hok a1
        rw [io_e hp, io_e hi] at this
        exact absurd ((this _ hT).mpr a2) no
      · exact a1.sm.tr a2
section SMod5
variable {h h' : g_H} {a : Nat} {ls : List Lk} {Q : Option Value → g_H → Prop}
theorem g1_X7_isOdd {x : Int64} {e o t t' pp kk : Int32} {u v : Nat} {P : Prop} (hu : u < 16) (hv : v < 16) (K : ∀ z, UP o z (P ∧ b5 e u = true) v → J m_X7_isOdd 0 0 0 0 0 131 [some (.ref a), some (.long x), none, some (.int e), some (.int z), some (.int pp), some (.int 1), some (.int t), some (.int t'), some (.int kk), some (.int ((1 : Int32) <<< (nI u &&& 31))), some (.int ((1 : Int32) <<< (nI v &&& 31))), some (.int (bI P))] [] h Q) : J m_X7_isOdd 0 0 0 0 0 108 [some (.ref a), some (.long x), none, some (.int e), some (.int o), some (.int pp), some (.int 1), some (.int t), some (.int t'), some (.int kk), some (.int ((1 : Int32) <<< (nI u &&& 31))), some (.int ((1 : Int32) <<< (nI v &&& 31))), some (.int (bI P))] [] h Q := by
  refine J_iload dX7_isOdd_108 rfl ?_
  refine J_iload dX7_isOdd_110 rfl ?_
  refine J_if_eq (tgt := 127) dX7_isOdd_112 (by decide) (fun c112 => ?_) (fun c112 => ?_)
  · refine J_iconst (x := 0) dX7_isOdd_127 (by decide) ?_
    refine J_ior dX7_isOdd_128 ?_
    refine J_istore (L' := [_, _, _, _, _, _, _, _, _, _, _, _, _]) dX7_isOdd_129 (by decide) rfl ?_
    exact K _ (UP.no (fun q => (bI_0 rfl).mp c112 q.1))
  · refine J_iload_n dX7_isOdd_115 rfl ?_
    refine J_iload dX7_isOdd_116 rfl ?_
    refine J_iand dX7_isOdd_118 ?_
    refine J_if_eq (tgt := 127) dX7_isOdd_119 (by decide) (fun c119 => ?_) (fun c119 => ?_)
    · refine J_iconst (x := 0) dX7_isOdd_127 (by decide) ?_
      refine J_ior dX7_isOdd_128 ?_
      refine J_istore (L' := [_, _, _, _, _, _, _, _, _, _, _, _, _]) dX7_isOdd_129 (by decide) rfl ?_
      exact K _ (UP.no (fun q => (b5_and1 hu).mp c119 q.2))
    · refine J_iload dX7_isOdd_122 rfl ?_
      refine J_goto (tgt := 128) dX7_isOdd_124 (by decide) ?_
      refine J_ior dX7_isOdd_128 ?_
      refine J_istore (L' := [_, _, _, _, _, _, _, _, _, _, _, _, _]) dX7_isOdd_129 (by decide) rfl ?_
      exact K _ (UP.yes ⟨nn_of rfl c112, Classical.not_not.mp (fun q => c119 ((b5_and1 hu).mpr q))⟩ hv)
theorem g2_X7_isOdd {x : Int64} {e o t t' pp kk : Int32} {u v : Nat} {P : Prop} (hu : u < 16) (hv : v < 16) (K : ∀ z, UP o z (P ∧ b5 e v = true) u → J m_X7_isOdd 0 0 0 0 0 154 [some (.ref a), some (.long x), none, some (.int e), some (.int z), some (.int pp), some (.int 1), some (.int t), some (.int t'), some (.int kk), some (.int ((1 : Int32) <<< (nI u &&& 31))), some (.int ((1 : Int32) <<< (nI v &&& 31))), some (.int (bI P))] [] h Q) : J m_X7_isOdd 0 0 0 0 0 131 [some (.ref a), some (.long x), none, some (.int e), some (.int o), some (.int pp), some (.int 1), some (.int t), some (.int t'), some (.int kk), some (.int ((1 : Int32) <<< (nI u &&& 31))), some (.int ((1 : Int32) <<< (nI v &&& 31))), some (.int (bI P))] [] h Q := by
  refine J_iload dX7_isOdd_131 rfl ?_
  refine J_iload dX7_isOdd_133 rfl ?_
  refine J_if_eq (tgt := 150) dX7_isOdd_135 (by decide) (fun c135 => ?_) (fun c135 => ?_)
  · refine J_iconst (x := 0) dX7_isOdd_150 (by decide) ?_
    refine J_ior dX7_isOdd_151 ?_
    refine J_istore (L' := [_, _, _, _, _, _, _, _, _, _, _, _, _]) dX7_isOdd_152 (by decide) rfl ?_
    exact K _ (UP.no (fun q => (bI_0 rfl).mp c135 q.1))
  · refine J_iload_n dX7_isOdd_138 rfl ?_
    refine J_iload dX7_isOdd_139 rfl ?_
    refine J_iand dX7_isOdd_141 ?_
    refine J_if_eq (tgt := 150) dX7_isOdd_142 (by decide) (fun c142 => ?_) (fun c142 => ?_)
    · refine J_iconst (x := 0) dX7_isOdd_150 (by decide) ?_
      refine J_ior dX7_isOdd_151 ?_
      refine J_istore (L' := [_, _, _, _, _, _, _, _, _, _, _, _, _]) dX7_isOdd_152 (by decide) rfl ?_
      exact K _ (UP.no (fun q => (b5_and1 hv).mp c142 q.2))
    · refine J_iload dX7_isOdd_145 rfl ?_
      refine J_goto (tgt := 151) dX7_isOdd_147 (by decide) ?_
      refine J_ior dX7_isOdd_151 ?_
      refine J_istore (L' := [_, _, _, _, _, _, _, _, _, _, _, _, _]) dX7_isOdd_152 (by decide) rfl ?_
      exact K _ (UP.yes ⟨nn_of rfl c135, Classical.not_not.mp (fun q => c142 ((b5_and1 hv).mpr q))⟩ hu)
theorem g3_X7_isOdd {x : Int64} {e o t t' pp kk : Int32} {u v : Nat} {P : Prop} (hu : u < 16) (hv : v < 16) (K : ∀ z, UP e z (P ∧ b5 o u = true) v → J m_X7_isOdd 0 0 0 0 0 176 [some (.ref a), some (.long x), none, some (.int z), some (.int o), some (.int pp), some (.int 1), some (.int t), some (.int t'), some (.int kk), some (.int ((1 : Int32) <<< (nI u &&& 31))), some (.int ((1 : Int32) <<< (nI v &&& 31))), some (.int (bI P))] [] h Q) : J m_X7_isOdd 0 0 0 0 0 154 [some (.ref a), some (.long x), none, some (.int e), some (.int o), some (.int pp), some (.int 1), some (.int t), some (.int t'), some (.int kk), some (.int ((1 : Int32) <<< (nI u &&& 31))), some (.int ((1 : Int32) <<< (nI v &&& 31))), some (.int (bI P))] [] h Q := by
  refine J_iload_n dX7_isOdd_154 rfl ?_
  refine J_iload dX7_isOdd_155 rfl ?_
  refine J_if_eq (tgt := 173) dX7_isOdd_157 (by decide) (fun c157 => ?_) (fun c157 => ?_)
  · refine J_iconst (x := 0) dX7_isOdd_173 (by decide) ?_
    refine J_ior dX7_isOdd_174 ?_
    refine J_istore_n (L' := [_, _, _, _, _, _, _, _, _, _, _, _, _]) dX7_isOdd_175 (by decide) rfl ?_
    exact K _ (UP.no (fun q => (bI_0 rfl).mp c157 q.1))
  · refine J_iload dX7_isOdd_160 rfl ?_
    refine J_iload dX7_isOdd_162 rfl ?_
    refine J_iand dX7_isOdd_164 ?_
    refine J_if_eq (tgt := 173) dX7_isOdd_165 (by decide) (fun c165 => ?_) (fun c165 => ?_)
    · refine J_iconst (x := 0) dX7_isOdd_173 (by decide) ?_
      refine J_ior dX7_isOdd_174 ?_
      refine J_istore_n (L' := [_, _, _, _, _, _, _, _, _, _, _, _, _]) dX7_isOdd_175 (by decide) rfl ?_
      exact K _ (UP.no (fun q => (b5_and1 hu).mp c165 q.2))
    · refine J_iload dX7_isOdd_168 rfl ?_
      refine J_goto (tgt := 174) dX7_isOdd_170 (by decide) ?_
      refine J_ior dX7_isOdd_174 ?_
      refine J_istore_n (L' := [_, _, _, _, _, _, _, _, _, _, _, _, _]) dX7_isOdd_175 (by decide) rfl ?_
      exact K _ (UP.yes ⟨nn_of rfl c157, Classical.not_not.mp (fun q => c165 ((b5_and1 hu).mpr q))⟩ hv)
theorem g4_X7_isOdd {x : Int64} {e o t t' pp kk : Int32} {u v : Nat} {P : Prop} (hu : u < 16) (hv : v < 16) (K : ∀ z, UP e z (P ∧ b5 o v = true) u → J m_X7_isOdd 0 0 0 0 0 198 [some (.ref a), some (.long x), none, some (.int z), some (.int o), some (.int pp), some (.int 1), some (.int t), some (.int t'), some (.int kk), some (.int ((1 : Int32) <<< (nI u &&& 31))), some (.int ((1 : Int32) <<< (nI v &&& 31))), some (.int (bI P))] [] h Q) : J m_X7_isOdd 0 0 0 0 0 176 [some (.ref a), some (.long x), none, some (.int e), some (.int o), some (.int pp), some (.int 1), some (.int t), some (.int t'), some (.int kk), some (.int ((1 : Int32) <<< (nI u &&& 31))), some (.int ((1 : Int32) <<< (nI v &&& 31))), some (.int (bI P))] [] h Q := by
  refine J_iload_n dX7_isOdd_176 rfl ?_
  refine J_iload dX7_isOdd_177 rfl ?_
  refine J_if_eq (tgt := 195) dX7_isOdd_179 (by decide) (fun c179 => ?_) (fun c179 => ?_)
  · refine J_iconst (x := 0) dX7_isOdd_195 (by decide) ?_
    refine J_ior dX7_isOdd_196 ?_
    refine J_istore_n (L' := [_, _, _, _, _, _, _, _, _, _, _, _, _]) dX7_isOdd_197 (by decide) rfl ?_
    exact K _ (UP.no (fun q => (bI_0 rfl).mp c179 q.1))
  · refine J_iload dX7_isOdd_182 rfl ?_
    refine J_iload dX7_isOdd_184 rfl ?_
    refine J_iand dX7_isOdd_186 ?_
    refine J_if_eq (tgt := 195) dX7_isOdd_187 (by decide) (fun c187 => ?_) (fun c187 => ?_)
    · refine J_iconst (x := 0) dX7_isOdd_195 (by decide) ?_
      refine J_ior dX7_isOdd_196 ?_
      refine J_istore_n (L' := [_, _, _, _, _, _, _, _, _, _, _, _, _]) dX7_isOdd_197 (by decide) rfl ?_
      exact K _ (UP.no (fun q => (b5_and1 hv).mp c187 q.2))
    · refine J_iload dX7_isOdd_190 rfl ?_
      refine J_goto (tgt := 196) dX7_isOdd_192 (by decide) ?_
      refine J_ior dX7_isOdd_196 ?_
      refine J_istore_n (L' := [_, _, _, _, _, _, _, _, _, _, _, _, _]) dX7_isOdd_197 (by decide) rfl ?_
      exact K _ (UP.yes ⟨nn_of rfl c179, Classical.not_not.mp (fun q => c187 ((b5_and1 hv).mpr q))⟩ hu)
theorem lA_X7_isOdd {x : Int64} {t t' pp : Int32} {G : Nat → Prop} (hV : VQ h a ls) (hG : ∀ d ∈ DB ls x, G d.1 ↔ G d.2) (K : ∀ e o kk, RJ ls x G t t' e o ls.length → J m_X7_isOdd 0 0 0 0 0 204 [some (.ref a), some (.long x), none, some (.int e), some (.int o), some (.int pp), some (.int 1), some (.int t), some (.int t'), some (.int kk), none, none, none] [] h Q) : ∀ (n k : Nat) (e o : Int32), ls.length - k < n → k ≤ ls.length → RJ ls x G t t' e o k → J m_X7_isOdd 0 0 0 0 0 52 [some (.ref a), some (.long x), none, some (.int e), some (.int o), some (.int pp), some (.int 1), some (.int t), some (.int t'), some (.int (nI k)), none, none, none] [] h Q := by
  intro n
  induction n with
  | zero => intro k e o hn; omega
  | succ n ih =>
    intro k e o hn hk hR
    obtain ⟨fs, f, ⟨bd1, bd2⟩, hO, hA, hAL, hn40, hok⟩ := hV
    have hB : 1 ≤ a ∧ a ≤ h.2 := ⟨bd1, by omega⟩
    have hB1 : 1 ≤ a + 1 ∧ a + 1 ≤ h.2 := ⟨by omega, bd2⟩
    refine J_iload dX7_isOdd_52 rfl ?_
    refine J_aload_n dX7_isOdd_54 rfl ?_
    refine J_get (k := 0) dX7_isOdd_55 gc_7 fl_RX7_7 (by decide) hO hB rfl ?_
    refine J_iconst (x := 0) dX7_isOdd_58 (by decide) ?_
    refine J_iald dX7_isOdd_59 hA hB1 (vp_in_nI (n := 0) (by decide) (by decide)) ?_
    rw [show (0 : Int32).toNatClampNeg = 0 from rfl, hAL.1]
    refine J_icmp_ge (tgt := 204) dX7_isOdd_60 (by decide) (fun c60 => ?_) (fun c60 => ?_)
    · have c60 := (nI_leI (by omega) (by omega)).mp c60
      obtain rfl : k = ls.length := by omega
      exact K e o _ hR
    · have c60 : k < ls.length := Nat.not_le.mp (fun q => c60 ((nI_leI (by omega) (by omega)).mpr q))
      obtain ⟨y, hy⟩ := get_of c60
      obtain ⟨v1, v2, v3, v4⟩ := hAL.2 k y hy
      obtain ⟨o1, o2, o3, o4, o5⟩ := hok y (List.mem_of_getElem? hy)
      have K2 : J m_X7_isOdd 0 0 0 0 0 108 [some (.ref a), some (.long x), none, some (.int e), some (.int o), some (.int pp), some (.int 1), some (.int t), some (.int t'), some (.int (nI k)), some (.int ((1 : Int32) <<< (nI y.1 &&& 31))), some (.int ((1 : Int32) <<< (nI y.2.1 &&& 31))), some (.int (bI (b6 x k = true)))] [] h Q := by
        refine g1_X7_isOdd o1 o2 (fun z1 u1 => ?_)
        refine g2_X7_isOdd o1 o2 (fun z2 u2 => ?_)
        refine g3_X7_isOdd o1 o2 (fun z3 u3 => ?_)
        refine g4_X7_isOdd o1 o2 (fun z4 u4 => ?_)
        refine J_iinc (L' := [_, _, _, _, _, _, _, _, _, _, _, _, _]) dX7_isOdd_198 rfl (nI_i1 k) (by decide) rfl ?_
        refine J_goto (tgt := 52) dX7_isOdd_201 (by decide) ?_
        refine J_drop [10, 11, 12] rfl ?_
        exact ih (k + 1) _ _ (by omega) (by omega) (hR.step hG hy c60 o1 o2 u1 u2 u3 u4)
      refine J_iconst (x := 1) dX7_isOdd_63 (by decide) ?_
      refine J_aload_n dX7_isOdd_64 rfl ?_
      refine J_get (k := 0) dX7_isOdd_65 gc_7 fl_RX7_7 (by decide) hO hB rfl ?_
      refine J_iconst (x := 1) dX7_isOdd_68 (by decide) ?_
      refine J_iload dX7_isOdd_69 rfl ?_
      refine J_iadd dX7_isOdd_71 ?_
      rw [show (1 : Int32) + nI k = nI (1 + k) from nI_add 1 k]
      refine J_iald dX7_isOdd_72 hA hB1 (vp_in_nI (by omega) (by decide)) ?_
      rw [nI_clamp (n := 1 + k) (by omega), v1]
      refine J_ishl dX7_isOdd_73 ?_
      refine J_istore (L' := [_, _, _, _, _, _, _, _, _, _, _, _, _]) dX7_isOdd_74 (by decide) rfl ?_
      refine J_iconst (x := 1) dX7_isOdd_76 (by decide) ?_
      refine J_aload_n dX7_isOdd_77 rfl ?_
      refine J_get (k := 0) dX7_isOdd_78 gc_7 fl_RX7_7 (by decide) hO hB rfl ?_
      refine J_bipush (x := 41) dX7_isOdd_81 (by decide) ?_
      refine J_iload dX7_isOdd_83 rfl ?_
      refine J_iadd dX7_isOdd_85 ?_
      rw [show (41 : Int32) + nI k = nI (41 + k) from nI_add 41 k]
      refine J_iald dX7_isOdd_86 hA hB1 (vp_in_nI (by omega) (by decide)) ?_
      rw [nI_clamp (n := 41 + k) (by omega), v2]
      refine J_ishl dX7_isOdd_87 ?_
      refine J_istore (L' := [_, _, _, _, _, _, _, _, _, _, _, _, _]) dX7_isOdd_88 (by decide) rfl ?_
      refine J_lload_n dX7_isOdd_90 rfl ?_
      refine J_iload dX7_isOdd_91 rfl ?_
      refine J_lshr dX7_isOdd_93 ?_
      refine J_lconst (x := 1) dX7_isOdd_94 (by decide) ?_
      refine J_land dX7_isOdd_95 ?_
      refine J_lconst (x := 1) dX7_isOdd_96 (by decide) ?_
      refine J_lcmp dX7_isOdd_97 ?_
      refine J_if_ne (tgt := 105) dX7_isOdd_98 (by decide) (fun c98 => ?_) (fun c98 => ?_)
      · refine J_iconst (x := 0) dX7_isOdd_105 (by decide) ?_
        refine J_istore (L' := [_, _, _, _, _, _, _, _, _, _, _, _, _]) dX7_isOdd_106 (by decide) rfl ?_
        rw [bI_f (fun q => c98 (lgc_eq.mpr ((b6_t (by omega) x).mpr q)))] at K2
        exact K2
      · refine J_iconst (x := 1) dX7_isOdd_101 (by decide) ?_
        refine J_goto (tgt := 106) dX7_isOdd_102 (by decide) ?_
        refine J_istore (L' := [_, _, _, _, _, _, _, _, _, _, _, _, _]) dX7_isOdd_106 (by decide) rfl ?_
        rw [bI_t ((b6_t (by omega) x).mp (lgc_eq.mp c98))] at K2
        exact K2
theorem lB_X7_isOdd {x : Int64} {e0 o0 pp : Int32} {G : Nat → Prop} (hV : VQ h a ls) (hG : ∀ d ∈ DB ls x, G d.1 ↔ G d.2) (K : ∀ e o, RG G e o → SB e0 o0 e o → CLo ls x e o → J m_X7_isOdd 0 0 0 0 0 227 [some (.ref a), some (.long x), none, some (.int e), some (.int o), some (.int pp), none, none, none, none, none, none, none] [] h Q) : ∀ (n : Nat) (e o : Int32), 32 - (cd5 e + cd5 o) < n → RG G e o → SB e0 o0 e o → J m_X7_isOdd 0 0 0 0 0 37 [some (.ref a), some (.long x), none, some (.int e), some (.int o), some (.int pp), some (.int 1), none, none, none, none, none, none] [] h Q := by
  intro n
  induction n with
  | zero => intro e o hn; omega
  | succ n ih =>
    intro e o hn hg hs
    refine J_iload dX7_isOdd_37 rfl ?_
    refine J_if_eq (tgt := 227) dX7_isOdd_39 (by decide) (fun c39 => absurd c39 (by decide)) (fun c39 => ?_)
    refine J_iload_n dX7_isOdd_42 rfl ?_
    refine J_istore (L' := [_, _, _, _, _, _, _, _, _, _, _, _, _]) dX7_isOdd_43 (by decide) rfl ?_
    refine J_iload dX7_isOdd_45 rfl ?_
    refine J_istore (L' := [_, _, _, _, _, _, _, _, _, _, _, _, _]) dX7_isOdd_47 (by decide) rfl ?_
    refine J_iconst (x := 0) dX7_isOdd_49 (by decide) ?_
    refine J_istore (L' := [_, _, _, _, _, _, _, _, _, _, _, _, _]) dX7_isOdd_50 (by decide) rfl ?_
    refine lA_X7_isOdd (t := e) (t' := o) hV hG (fun e2 o2 k2 hR2 => ?_) (ls.length + 1) 0 e o (by omega) (by omega) ⟨hg, ⟨fun _ q => q, fun _ q => q⟩, Or.inl ⟨rfl, rfl, fun j y hj => by omega⟩⟩
    refine J_iload_n dX7_isOdd_204 rfl ?_
    refine J_iload dX7_isOdd_205 rfl ?_
    refine J_icmp_ne (tgt := 217) dX7_isOdd_207 (by decide) (fun c207 => ?_) (fun c207 => ?_)
    · refine J_iconst (x := 1) dX7_isOdd_217 (by decide) ?_
      refine J_goto (tgt := 222) dX7_isOdd_218 (by decide) ?_
      refine J_istore (L' := [_, _, _, _, _, _, _, _, _, _, _, _, _]) dX7_isOdd_222 (by decide) rfl ?_
      refine J_goto (tgt := 37) dX7_isOdd_224 (by decide) ?_
      refine J_drop [7, 8, 9] rfl ?_
      exact ih e2 o2 (by have h16 := cd5_le e2; have h17 := cd5_le o2; rcases hR2.2.2 with ⟨z1, z2, -⟩ | z; exact absurd z1 c207; omega) hR2.1 ⟨fun i q => hR2.2.1.1 i (hs.1 i q), fun i q => hR2.2.1.2 i (hs.2 i q)⟩
    · refine J_iload dX7_isOdd_210 rfl ?_
      refine J_iload dX7_isOdd_212 rfl ?_
      refine J_icmp_eq (tgt := 221) dX7_isOdd_214 (by decide) (fun c214 => ?_) (fun c214 => ?_)
      · refine J_iconst (x := 0) dX7_isOdd_221 (by decide) ?_
        refine J_istore (L' := [_, _, _, _, _, _, _, _, _, _, _, _, _]) dX7_isOdd_222 (by decide) rfl ?_
        refine J_goto (tgt := 37) dX7_isOdd_224 (by decide) ?_
        refine J_iload dX7_isOdd_37 rfl ?_
        refine J_if_eq (tgt := 227) dX7_isOdd_39 (by decide) (fun c39 => ?_) (fun c39 => absurd rfl c39)
        refine J_drop [6, 7, 8, 9] rfl ?_
        exact K e2 o2 hR2.1 ⟨fun i q => hR2.2.1.1 i (hs.1 i q), fun i q => hR2.2.1.2 i (hs.2 i q)⟩ (by rw [← c207, ← c214] at hR2; exact hR2.fin)
      · refine J_iconst (x := 1) dX7_isOdd_217 (by decide) ?_
        refine J_goto (tgt := 222) dX7_isOdd_218 (by decide) ?_
        refine J_istore (L' := [_, _, _, _, _, _, _, _, _, _, _, _, _]) dX7_isOdd_222 (by decide) rfl ?_
        refine J_goto (tgt := 37) dX7_isOdd_224 (by decide) ?_
        refine J_drop [7, 8, 9] rfl ?_
        exact ih e2 o2 (by have h16 := cd5_le e2; have h17 := cd5_le o2; rcases hR2.2.2 with ⟨z1, z2, -⟩ | z; exact absurd z2 c214; omega) hR2.1 ⟨fun i q => hR2.2.1.1 i (hs.1 i q), fun i q => hR2.2.1.2 i (hs.2 i q)⟩
theorem lC_X7_isOdd {x : Int64} (hV : VQ h a ls) (hQ : ∀ r, r = bI (∃ z : Nat, z < 16 ∧ Cn (DB ls x) z (16 + z)) → Q (some (.int r)) h) : ∀ (n p : Nat) (e o : Int32), 16 - p < n → p ≤ 16 → OI ls x e o p → J m_X7_isOdd 0 0 0 0 0 8 [some (.ref a), some (.long x), none, some (.int e), some (.int o), some (.int (nI p)), none, none, none, none, none, none, none] [] h Q := by
  intro n
  induction n with
  | zero => intro p e o hn; omega
  | succ n ih =>
    intro p e o hn hp hI
    have hok := hV.ok
    have K2 : p < 16 → ∀ e o, OI ls x e o (p + 1) → J m_X7_isOdd 0 0 0 0 0 227 [some (.ref a), some (.long x), none, some (.int e), some (.int o), some (.int (nI p)), none, none, none, none, none, none, none] [] h Q := by
      intro hp e o hI
      refine J_iinc (L' := [_, _, _, _, _, _, _, _, _, _, _, _, _]) dX7_isOdd_227 rfl (nI_i1 p) (by decide) rfl ?_
      refine J_goto (tgt := 8) dX7_isOdd_230 (by decide) ?_
      exact ih (p + 1) e o (by omega) (by omega) hI
    refine J_iload dX7_isOdd_8 rfl ?_
    refine J_bipush (x := 16) dX7_isOdd_10 (by decide) ?_
    refine J_icmp_ge (tgt := 233) dX7_isOdd_12 (by decide) (fun c12 => ?_) (fun c12 => ?_)
    · have c12 := (nI_leI (a := 16) (b := p) (by omega) (by omega)).mp c12
      obtain rfl : p = 16 := by omega
      have hf := OI.fin hok hI
      refine J_iload_n dX7_isOdd_233 rfl ?_
      refine J_iload dX7_isOdd_234 rfl ?_
      refine J_iand dX7_isOdd_236 ?_
      refine J_if_eq (tgt := 244) dX7_isOdd_237 (by decide) (fun c237 => ?_) (fun c237 => ?_)
      · refine J_iconst (x := 0) dX7_isOdd_244 (by decide) ?_
        exact J_zret dX7_isOdd_245 rfl (by first | exact Or.inl rfl | exact Or.inr rfl) ⟨rfl, Nat.le_refl _⟩ (hQ _ (bI_f (hf.mp c237)).symm)
      · refine J_iconst (x := 1) dX7_isOdd_240 (by decide) ?_
        refine J_goto (tgt := 245) dX7_isOdd_241 (by decide) ?_
        exact J_zret dX7_isOdd_245 rfl (by first | exact Or.inl rfl | exact Or.inr rfl) ⟨rfl, Nat.le_refl _⟩ (hQ _ (bI_t (Classical.not_not.mp (fun q => c237 (hf.mpr q)))).symm)
    · have c12 : p < 16 := Nat.not_le.mp (fun q => c12 ((nI_leI (a := 16) (b := p) (by omega) (by omega)).mpr q))
      refine J_iload_n dX7_isOdd_15 rfl ?_
      refine J_iload dX7_isOdd_16 rfl ?_
      refine J_ior dX7_isOdd_18 ?_
      refine J_iload dX7_isOdd_19 rfl ?_
      refine J_ishr dX7_isOdd_21 ?_
      refine J_iconst (x := 1) dX7_isOdd_22 (by decide) ?_
      refine J_iand dX7_isOdd_23 ?_
      refine J_if_ne (tgt := 227) dX7_isOdd_24 (by decide) (fun c24 => ?_) (fun c24 => ?_)
      · exact K2 c12 e o (hI.skip (Classical.not_not.mp (fun q => c24 ((b5_t0 (by omega) _).mpr q))))
      · refine J_iload_n dX7_isOdd_27 rfl ?_
        refine J_iconst (x := 1) dX7_isOdd_28 (by decide) ?_
        refine J_iload dX7_isOdd_29 rfl ?_
        refine J_ishl dX7_isOdd_31 ?_
        refine J_ior dX7_isOdd_32 ?_
        refine J_istore_n (L' := [_, _, _, _, _, _, _, _, _, _, _, _, _]) dX7_isOdd_33 (by decide) rfl ?_
        refine J_iconst (x := 1) dX7_isOdd_34 (by decide) ?_
        refine J_istore (L' := [_, _, _, _, _, _, _, _, _, _, _, _, _]) dX7_isOdd_35 (by decide) rfl ?_
        have hun := (b5_t0 (by omega) _).mp c24
        refine lB_X7_isOdd (e0 := e ||| ((1 : Int32) <<< (nI p &&& 31))) (o0 := o) hV (Gp_cl (p := p) hok hI.2.2.1) (fun e2 o2 g1 g2 g3 => K2 c12 e2 o2 (hI.next hok c12 hun g1 g2 g3)) 33 _ _ (by omega) ⟨fun i q => ?_, fun i q => ⟨hI.2.1 i q, Or.inl (TB_o.mpr q)⟩⟩ ⟨fun _ q => q, fun _ q => q⟩
        rw [b5_or, Bool.or_eq_true, b5_p c12] at q
        rcases q with q | rfl
        · exact ⟨hI.1 i q, Or.inl ((TB_e (hI.1 i q)).mpr q)⟩
        · exact ⟨c12, Or.inr (Cn.rf _)⟩
theorem s_X7_isOdd {x : Int64} (hV : VQ h a ls) (hQ : ∀ r, r = bI (∃ z : Nat, z < 16 ∧ Cn (DB ls x) z (16 + z)) → Q (some (.int r)) h) : MJ m_X7_isOdd 0 0 0 [.ref a, .long x] h Q := by
  refine MJ_of_J (L := [some (.ref a), some (.long x), none, none, none, none, none, none, none, none, none, none, none]) (by decide +kernel) rfl (Nat.le_of_ble_eq_true rfl) rfl ?_
  refine J_iconst (x := 0) dX7_isOdd_0 (by decide) ?_
  refine J_istore_n (L' := [_, _, _, _, _, _, _, _, _, _, _, _, _]) dX7_isOdd_1 (by decide) rfl ?_
  refine J_iconst (x := 0) dX7_isOdd_2 (by decide) ?_
  refine J_istore (L' := [_, _, _, _, _, _, _, _, _, _, _, _, _]) dX7_isOdd_3 (by decide) rfl ?_
  refine J_iconst (x := 0) dX7_isOdd_5 (by decide) ?_
  refine J_istore (L' := [_, _, _, _, _, _, _, _, _, _, _, _, _]) dX7_isOdd_6 (by decide) rfl ?_
  exact lC_X7_isOdd hV hQ 17 0 0 0 (by omega) (by omega) (OI.nil ls x)
theorem lst_OM {x : Int64} {m : Nat} (hs : LSt x ls (lvB (m : Int)) ls.length) : (∃ z : Nat, z < 16 ∧ Cn (DB ls x) z (16 + z)) ↔ OM ls m := by
  have hE : ∀ u v, Cn (DB ls x) u v ↔ Cn (DK ls (lvA m) ls.length) u v := fun u v => Cn.set (fun e => by
    unfold DB
    rw [DK_mem, DK_mem]
    constructor
    · rintro ⟨k, y, h1, h2, h3, h4⟩
      obtain ⟨z, g1, g2, g3⟩ := (hs k).mp h3
      rw [h2] at g2; cases g2
      exact ⟨k, y, h1, h2, g3, h4⟩
    · rintro ⟨k, y, h1, h2, h3, h4⟩
      exact ⟨k, y, h1, h2, (hs k).mpr ⟨y, h1, h2, h3⟩, h4⟩) u v
  exact ⟨fun ⟨z, h1, h2⟩ => ⟨z, h1, (hE _ _).mp h2⟩, fun ⟨z, h1, h2⟩ => ⟨z, h1, (hE _ _).mpr h2⟩⟩
end SMod5
