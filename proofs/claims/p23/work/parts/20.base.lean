/-! numbers, frames, the picture of a Links object: a list of links -/
noncomputable def bI (P : Prop) : Int32 := @ite Int32 P (Classical.propDecidable P) 1 0
theorem bI_t {P : Prop} (h : P) : bI P = 1 := by unfold bI; exact if_pos h
theorem bI_f {P : Prop} (h : ¬ P) : bI P = 0 := by unfold bI; exact if_neg h
theorem bI_01 (P : Prop) : bI P = 0 ∨ bI P = 1 := (Classical.em P).elim (fun h => Or.inr (bI_t h)) (fun h => Or.inl (bI_f h))
theorem bI_0 {P : Prop} {r : Int32} (e : r = bI P) : r = 0 ↔ ¬ P := by
  subst e
  rcases Classical.em P with h | h
  · rw [bI_t h]; simp [h]
  · rw [bI_f h]; simp [h]
theorem bI_c {P Q : Prop} (h : P ↔ Q) : bI P = bI Q := congrArg bI (propext h)
def IX (x : Int32) (n : Nat) : Prop := ∃ j : Nat, j < n ∧ x = nI j
theorem IX_n0 {x : Int32} {n : Nat} (hn : n < 2 ^ 31) (h : x < 0) : ¬ IX x n := by
  rintro ⟨j, hj, rfl⟩
  exact nI_pos (by omega) h
theorem IX_nn {x : Int32} {n : Nat} (hn : n < 2 ^ 31) (h : nI n ≤ x) : ¬ IX x n := by
  rintro ⟨j, hj, rfl⟩
  exact nI_ge hj hn h
theorem IX_of {x : Int32} {n : Nat} (hn : n < 2 ^ 31) (h0 : ¬ x < 0) (h : ¬ nI n ≤ x) : IX x n := by
  rcases pk_ix x hn with q | q | q
  · exact absurd q h0
  · exact absurd q h
  · exact q
theorem nI_i1 (a : Nat) : nI a + Int32.ofInt 1 = nI (a + 1) := nI_1 a
theorem nI_im1 (a : Nat) : nI (a + 1) + Int32.ofInt (-1) = nI a := pk_m1 a
theorem nI_lit (n : Nat) : Int32.ofNat n = nI n := rfl
def Fr (lo hi : Nat) (h h' : g_H) : Prop := h'.2 = h.2 ∧ ∀ k : Nat, k < lo ∨ hi ≤ k → h'.1 k = h.1 k
theorem Fr.rf {lo hi : Nat} {h : g_H} : Fr lo hi h h := ⟨rfl, fun _ _ => rfl⟩
theorem Fr.tr {lo hi : Nat} {h h1 h2 : g_H} (a : Fr lo hi h h1) (b : Fr lo hi h1 h2) : Fr lo hi h h2 := ⟨b.1.trans a.1, fun k q => (b.2 k q).trans (a.2 k q)⟩
theorem Fr.mono {lo hi lo' hi' : Nat} {h h1 : g_H} (a : Fr lo hi h h1) (h2 : lo' ≤ lo) (h3 : hi ≤ hi') : Fr lo' hi' h h1 := ⟨a.1, fun k q => a.2 k (by omega)⟩
theorem Fr.up {lo hi k : Nat} {h h1 : g_H} {c : g_C} (a : Fr lo hi h h1) (h2 : lo ≤ k) (h3 : k < hi) : Fr lo hi h (g_up h1 k c) := ⟨a.1, fun j q => by rw [g_up_n h1 c (by omega)]; exact a.2 j q⟩
def LR (h : g_H) (a : Nat) (n : Int32) (f1 f2 f3 f4 : Nat → Int32) : Prop := (1 ≤ a ∧ a + 4 ≤ h.2) ∧ h.1 a = .inr (4, [.ref (a + 1), .ref (a + 2), .ref (a + 3), .ref (a + 4), .int n]) ∧ h.1 (a + 1) = .inl (0, 40, .inl f1) ∧ h.1 (a + 2) = .inl (0, 40, .inl f2) ∧ h.1 (a + 3) = .inl (0, 40, .inl f3) ∧ h.1 (a + 4) = .inl (0, 40, .inl f4)
section LRs
variable {h h' : g_H} {a : Nat} {n : Int32} {f1 f2 f3 f4 : Nat → Int32}
theorem LR.o (p : LR h a n f1 f2 f3 f4) : h.1 a = .inr (4, [.ref (a + 1), .ref (a + 2), .ref (a + 3), .ref (a + 4), .int n]) := p.2.1
theorem LR.b (p : LR h a n f1 f2 f3 f4) : 1 ≤ a ∧ a ≤ h.2 := ⟨p.1.1, by have := p.1.2; omega⟩
theorem LR.c1 (p : LR h a n f1 f2 f3 f4) : h.1 (a + 1) = .inl (0, 40, .inl f1) := p.2.2.1
theorem LR.c2 (p : LR h a n f1 f2 f3 f4) : h.1 (a + 2) = .inl (0, 40, .inl f2) := p.2.2.2.1
theorem LR.c3 (p : LR h a n f1 f2 f3 f4) : h.1 (a + 3) = .inl (0, 40, .inl f3) := p.2.2.2.2.1
theorem LR.c4 (p : LR h a n f1 f2 f3 f4) : h.1 (a + 4) = .inl (0, 40, .inl f4) := p.2.2.2.2.2
theorem LR.b1 (p : LR h a n f1 f2 f3 f4) : 1 ≤ a + 1 ∧ a + 1 ≤ h.2 := ⟨by omega, by have := p.1.2; omega⟩
theorem LR.b2 (p : LR h a n f1 f2 f3 f4) : 1 ≤ a + 2 ∧ a + 2 ≤ h.2 := ⟨by omega, by have := p.1.2; omega⟩
theorem LR.b3 (p : LR h a n f1 f2 f3 f4) : 1 ≤ a + 3 ∧ a + 3 ≤ h.2 := ⟨by omega, by have := p.1.2; omega⟩
theorem LR.b4 (p : LR h a n f1 f2 f3 f4) : 1 ≤ a + 4 ∧ a + 4 ≤ h.2 := ⟨by omega, by have := p.1.2; omega⟩
theorem LR.fr {lo hi : Nat} (p : LR h a n f1 f2 f3 f4) (F : Fr lo hi h h') (q : a + 5 ≤ lo ∨ hi ≤ a) : LR h' a n f1 f2 f3 f4 :=
  ⟨⟨p.1.1, by rw [F.1]; exact p.1.2⟩, (F.2 a (by omega)).trans p.o, (F.2 (a + 1) (by omega)).trans p.c1, (F.2 (a + 2) (by omega)).trans p.c2, (F.2 (a + 3) (by omega)).trans p.c3, (F.2 (a + 4) (by omega)).trans p.c4⟩
theorem LR.s1 (p : LR h a n f1 f2 f3 f4) (g : Nat → Int32) : LR (g_up h (a + 1) (.inl (0, 40, .inl g))) a n g f2 f3 f4 :=
  ⟨p.1, (g_up_n h _ (by omega)).trans p.o, g_up_s h _ _, (g_up_n h _ (by omega)).trans p.c2, (g_up_n h _ (by omega)).trans p.c3, (g_up_n h _ (by omega)).trans p.c4⟩
theorem LR.s2 (p : LR h a n f1 f2 f3 f4) (g : Nat → Int32) : LR (g_up h (a + 2) (.inl (0, 40, .inl g))) a n f1 g f3 f4 :=
  ⟨p.1, (g_up_n h _ (by omega)).trans p.o, (g_up_n h _ (by omega)).trans p.c1, g_up_s h _ _, (g_up_n h _ (by omega)).trans p.c3, (g_up_n h _ (by omega)).trans p.c4⟩
theorem LR.s3 (p : LR h a n f1 f2 f3 f4) (g : Nat → Int32) : LR (g_up h (a + 3) (.inl (0, 40, .inl g))) a n f1 f2 g f4 :=
  ⟨p.1, (g_up_n h _ (by omega)).trans p.o, (g_up_n h _ (by omega)).trans p.c1, (g_up_n h _ (by omega)).trans p.c2, g_up_s h _ _, (g_up_n h _ (by omega)).trans p.c4⟩
theorem LR.s4 (p : LR h a n f1 f2 f3 f4) (g : Nat → Int32) : LR (g_up h (a + 4) (.inl (0, 40, .inl g))) a n f1 f2 f3 g :=
  ⟨p.1, (g_up_n h _ (by omega)).trans p.o, (g_up_n h _ (by omega)).trans p.c1, (g_up_n h _ (by omega)).trans p.c2, (g_up_n h _ (by omega)).trans p.c3, g_up_s h _ _⟩
theorem LR.sn (p : LR h a n f1 f2 f3 f4) (m : Int32) : LR (g_up h a (.inr (4, [.ref (a + 1), .ref (a + 2), .ref (a + 3), .ref (a + 4), .int m]))) a m f1 f2 f3 f4 :=
  ⟨p.1, g_up_s h _ _, (g_up_n h _ (by omega)).trans p.c1, (g_up_n h _ (by omega)).trans p.c2, (g_up_n h _ (by omega)).trans p.c3, (g_up_n h _ (by omega)).trans p.c4⟩
end LRs
abbrev Lk : Type := Nat × Nat × Nat × Nat
def LV (ls : List Lk) (f1 f2 f3 f4 : Nat → Int32) : Prop := ∀ (k : Nat) (x : Lk), ls[k]? = some x → f1 k = nI x.1 ∧ f2 k = nI x.2.1 ∧ f3 k = nI x.2.2.1 ∧ f4 k = nI x.2.2.2
def okK (x : Lk) : Prop := x.1 < 16 ∧ x.2.1 < 16 ∧ x.1 ≠ x.2.1 ∧ x.2.2.1 < x.2.2.2 ∧ x.2.2.2 ≤ 64
def LA (h : g_H) (a : Nat) (ls : List Lk) : Prop := ∃ f1 f2 f3 f4 : Nat → Int32, LR h a (nI ls.length) f1 f2 f3 f4 ∧ LV ls f1 f2 f3 f4 ∧ ls.length ≤ 40 ∧ ∀ x ∈ ls, okK x
theorem LA.fr {h h' : g_H} {a lo hi : Nat} {ls : List Lk} (p : LA h a ls) (F : Fr lo hi h h') (q : a + 5 ≤ lo ∨ hi ≤ a) : LA h' a ls := by
  obtain ⟨f1, f2, f3, f4, p1, p2⟩ := p
  exact ⟨f1, f2, f3, f4, p1.fr F q, p2⟩
theorem LA.o {h : g_H} {a : Nat} {ls : List Lk} (p : LA h a ls) : h.1 a = .inr (4, [.ref (a + 1), .ref (a + 2), .ref (a + 3), .ref (a + 4), .int (nI ls.length)]) := by
  obtain ⟨f1, f2, f3, f4, p1, p2⟩ := p
  exact p1.o
theorem LA.b {h : g_H} {a : Nat} {ls : List Lk} (p : LA h a ls) : 1 ≤ a ∧ a ≤ h.2 := by
  obtain ⟨f1, f2, f3, f4, p1, p2⟩ := p
  exact p1.b
theorem LA.bd {h : g_H} {a : Nat} {ls : List Lk} (p : LA h a ls) : 1 ≤ a ∧ a + 4 ≤ h.2 := by
  obtain ⟨f1, f2, f3, f4, p1, p2⟩ := p
  exact p1.1
theorem LA.len {h : g_H} {a : Nat} {ls : List Lk} (p : LA h a ls) : ls.length ≤ 40 := by
  obtain ⟨f1, f2, f3, f4, p1, p2, p3, p4⟩ := p
  exact p3
theorem LA.ok {h : g_H} {a : Nat} {ls : List Lk} (p : LA h a ls) : ∀ x ∈ ls, okK x := by
  obtain ⟨f1, f2, f3, f4, p1, p2, p3, p4⟩ := p
  exact p4
theorem get_lt {α : Type} {l : List α} {j : Nat} {y : α} (h : l[j]? = some y) : j < l.length := (List.getElem?_eq_some_iff.mp h).1
theorem get_of {α : Type} {l : List α} {j : Nat} (h : j < l.length) : ∃ y, l[j]? = some y := ⟨l[j], List.getElem?_eq_getElem h⟩
theorem take_succ_cnt {α : Type} {l : List α} {k : Nat} {y : α} (p : α → Bool) (h : l[k]? = some y) : (l.take (k + 1)).countP p = (l.take k).countP p + if p y = true then 1 else 0 := by
  rw [List.take_succ, h, List.countP_append]
  simp [List.countP_cons]
/-- whether a link lives at a moment -/
def lvB (m : Int) (x : Lk) : Bool := decide ((x.2.2.1 : Int) ≤ m ∧ m < (x.2.2.2 : Int))
theorem lvB_iff {m : Int} {x : Lk} : lvB m x = true ↔ (x.2.2.1 : Int) ≤ m ∧ m < (x.2.2.2 : Int) := by simp [lvB]
theorem nI_leT {a : Nat} {x : Int32} (h : a < 2 ^ 31) : nI a ≤ x ↔ (a : Int) ≤ x.toInt := by rw [Int32.le_iff_toInt_le, nI_toInt h]
theorem nI_leT' {a : Nat} {x : Int32} (h : a < 2 ^ 31) : x ≤ nI a ↔ x.toInt ≤ (a : Int) := by rw [Int32.le_iff_toInt_le, nI_toInt h]
theorem nI_ltT {a : Nat} {x : Int32} (h : a < 2 ^ 31) : nI a < x ↔ (a : Int) < x.toInt := by rw [Int32.lt_iff_toInt_lt, nI_toInt h]
theorem nI_ltT' {a : Nat} {x : Int32} (h : a < 2 ^ 31) : x < nI a ↔ x.toInt < (a : Int) := by rw [Int32.lt_iff_toInt_lt, nI_toInt h]
