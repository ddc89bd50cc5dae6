/-! texts: a list of characters' numbers; what is read of it, purely -/
def dg (tx : List Nat) (i : Nat) : Option Nat := match tx[i]? with
  | some c => if 48 ≤ c ∧ c ≤ 57 then some (c - 48) else none
  | none => none
/-- a number up to another one, from a place on: it, and the place behind it -/
def rN (tx : List Nat) (gr p : Nat) : Option (Nat × Nat) := match dg tx p with
  | none => none
  | some v => match dg tx (p + 1) with
    | none => some (v, p + 1)
    | some x => if v = 0 ∨ gr < 10 * v + x then some (v, p + 1) else some (10 * v + x, p + 2)
theorem dg_lt {tx : List Nat} {i v : Nat} (h : dg tx i = some v) : v ≤ 9 ∧ i < tx.length := by
  unfold dg at h
  cases hc : tx[i]? with
  | none => rw [hc] at h; cases h
  | some c =>
    rw [hc] at h
    dsimp only at h
    split at h
    · cases h
      exact ⟨by omega, get_lt hc⟩
    · cases h
theorem rN_b {tx : List Nat} {gr p v q : Nat} (hg : 9 ≤ gr) (h : rN tx gr p = some (v, q)) : v ≤ gr ∧ p + 1 ≤ q ∧ q ≤ tx.length := by
  unfold rN at h
  cases h1 : dg tx p with
  | none => rw [h1] at h; cases h
  | some v1 =>
    rw [h1] at h
    dsimp only at h
    have b1 := dg_lt h1
    cases h2 : dg tx (p + 1) with
    | none =>
      rw [h2] at h
      cases h
      exact ⟨by omega, by omega, by omega⟩
    | some x =>
      rw [h2] at h
      dsimp only at h
      have b2 := dg_lt h2
      split at h
      · cases h
        exact ⟨by omega, by omega, by omega⟩
      · rename_i hc
        cases h
        exact ⟨by omega, by omega, by omega⟩
/-- a link, from a place on: it and the place behind it, or the place of the fault -/
def rL (tx : List Nat) (p : Nat) : Option Lk × Nat := match rN tx 15 p with
  | none => (none, p)
  | some (one, p1) => if ¬ tx[p1]? = some 45 then (none, p1) else match rN tx 15 (p1 + 1) with
    | none => (none, p1 + 1)
    | some (ot, p2) => if ot = one then (none, p2 - 1) else if ¬ tx[p2]? = some 64 then (none, p2) else match rN tx 63 (p2 + 1) with
      | none => (none, p2 + 1)
      | some (fr, p3) => if ¬ tx[p3]? = some 58 then (none, p3) else match rN tx 64 (p3 + 1) with
        | none => (none, p3 + 1)
        | some (to, p4) => if to ≤ fr then (none, p4 - 1) else (some (one, ot, fr, to), p4)
/-- the text: its links, and the fault -/
def rT (tx : List Nat) : Nat → Nat → List Lk → List Lk × Option Nat
  | 0, p, acc => (acc, some p)
  | n + 1, p, acc => match rL tx p with
    | (none, q) => (acc, some q)
    | (some y, q) => if q = tx.length then (acc ++ [y], none) else if tx[q]? = some 44 then rT tx n (q + 1) (acc ++ [y]) else (acc ++ [y], some q)
theorem rL_ok {tx : List Nat} {p q : Nat} {y : Lk} (h : rL tx p = (some y, q)) : okK y ∧ p + 7 ≤ q ∧ q ≤ tx.length := by
  unfold rL at h
  cases h1 : rN tx 15 p with
  | none => rw [h1] at h; simp at h
  | some r1 =>
    obtain ⟨one, p1⟩ := r1
    rw [h1] at h
    dsimp only at h
    have b1 := rN_b (by omega) h1
    by_cases c1 : tx[p1]? = some 45
    · rw [if_neg (fun z => z c1)] at h
      cases h2 : rN tx 15 (p1 + 1) with
      | none => rw [h2] at h; simp at h
      | some r2 =>
        obtain ⟨ot, p2⟩ := r2
        rw [h2] at h
        dsimp only at h
        have b2 := rN_b (by omega) h2
        by_cases c2 : ot = one
        · rw [if_pos c2] at h; simp at h
        · rw [if_neg c2] at h
          by_cases c3 : tx[p2]? = some 64
          · rw [if_neg (fun z => z c3)] at h
            cases h3 : rN tx 63 (p2 + 1) with
            | none => rw [h3] at h; simp at h
            | some r3 =>
              obtain ⟨fr, p3⟩ := r3
              rw [h3] at h
              dsimp only at h
              have b3 := rN_b (by omega) h3
              by_cases c4 : tx[p3]? = some 58
              · rw [if_neg (fun z => z c4)] at h
                cases h4 : rN tx 64 (p3 + 1) with
                | none => rw [h4] at h; simp at h
                | some r4 =>
                  obtain ⟨to, p4⟩ := r4
                  rw [h4] at h
                  dsimp only at h
                  have b4 := rN_b (by omega) h4
                  by_cases c5 : to ≤ fr
                  · rw [if_pos c5] at h; simp at h
                  · rw [if_neg c5] at h
                    simp only [Prod.mk.injEq, Option.some.injEq] at h
                    obtain ⟨rfl, rfl⟩ := h
                    exact ⟨⟨by show one < 16; omega, by show ot < 16; omega, fun z => c2 z.symm, by show fr < to; omega, by show to ≤ 64; omega⟩, by omega, by omega⟩
              · rw [if_pos c4] at h; simp at h
          · rw [if_pos c3] at h; simp at h
    · rw [if_pos c1] at h; simp at h
def TR (h : g_H) (a : Nat) (n p : Int32) (g : Nat → Int32) : Prop := (1 ≤ a ∧ a + 1 ≤ h.2) ∧ h.1 a = .inr (3, [.ref (a + 1), .int n, .int p]) ∧ h.1 (a + 1) = .inl (1, 60, .inl g)
def TV (tx : List Nat) (g : Nat → Int32) : Prop := ∀ (i c : Nat), tx[i]? = some c → g i = nI c
/-- a text object: its characters, the place of the reading -/
def TP (h : g_H) (a : Nat) (tx : List Nat) (p : Int32) : Prop := ∃ g, TR h a (nI tx.length) p g ∧ TV tx g ∧ tx.length ≤ 60 ∧ ∀ c ∈ tx, c < 65536
section SText
variable {h h' : g_H} {a : Nat} {n p : Int32} {g : Nat → Int32} {tx : List Nat} {acc : List Lk} {Q : Option Value → g_H → Prop}
theorem TR.o (q : TR h a n p g) : h.1 a = .inr (3, [.ref (a + 1), .int n, .int p]) := q.2.1
theorem TR.bo (q : TR h a n p g) : 1 ≤ a ∧ a ≤ h.2 := ⟨q.1.1, by have := q.1.2; omega⟩
theorem TR.c (q : TR h a n p g) : h.1 (a + 1) = .inl (1, 60, .inl g) := q.2.2
theorem TR.bc (q : TR h a n p g) : 1 ≤ a + 1 ∧ a + 1 ≤ h.2 := ⟨by omega, q.1.2⟩
theorem TR.fr {lo hi : Nat} (q : TR h a n p g) (F : Fr lo hi h h') (z : a + 2 ≤ lo ∨ hi ≤ a) : TR h' a n p g := ⟨⟨q.1.1, by rw [F.1]; exact q.1.2⟩, (F.2 a (by omega)).trans q.o, (F.2 (a + 1) (by omega)).trans q.c⟩
theorem TR.so (q : TR h a n p g) (m r : Int32) : TR (g_up h a (.inr (3, [.ref (a + 1), .int m, .int r]))) a m r g := ⟨q.1, g_up_s h _ _, (g_up_n h _ (by omega)).trans q.c⟩
theorem TR.sc (q : TR h a n p g) (f : Nat → Int32) : TR (g_up h (a + 1) (.inl (1, 60, .inl f))) a n p f := ⟨q.1, (g_up_n h _ (by omega)).trans q.o, g_up_s h _ _⟩
theorem TP.fr {lo hi : Nat} (q : TP h a tx p) (F : Fr lo hi h h') (z : a + 2 ≤ lo ∨ hi ≤ a) : TP h' a tx p := by
  obtain ⟨g, q1, q2⟩ := q
  exact ⟨g, q1.fr F z, q2⟩
theorem TP.o (q : TP h a tx p) : h.1 a = .inr (3, [.ref (a + 1), .int (nI tx.length), .int p]) := by
  obtain ⟨g, q1, q2⟩ := q
  exact q1.o
theorem TP.bo (q : TP h a tx p) : 1 ≤ a ∧ a ≤ h.2 := by
  obtain ⟨g, q1, q2⟩ := q
  exact q1.bo
theorem TP.len (q : TP h a tx p) : tx.length ≤ 60 := by
  obtain ⟨g, q1, q2, q3, q4⟩ := q
  exact q3
theorem TP.so (q : TP h a tx p) (r : Int32) : TP (g_up h a (.inr (3, [.ref (a + 1), .int (nI tx.length), .int r]))) a tx r := by
  obtain ⟨g, q1, q2⟩ := q
  exact ⟨g, q1.so _ r, q2⟩
theorem s_X3_length (hP : TP h a tx p) (hQ : ∀ r, r = nI tx.length → Q (some (.int r)) h) : MJ m_X3_length 0 0 0 [.ref a] h Q := by
  refine MJ_of_J (L := [some (.ref a)]) (by decide +kernel) rfl (Nat.le_of_ble_eq_true rfl) rfl ?_
  refine J_aload_n dX3_length_0 rfl ?_
  refine J_get (k := 1) dX3_length_1 gc_3 fl_RX3_15 (by decide) hP.o hP.bo rfl ?_
  exact J_iret dX3_length_4 rfl ⟨rfl, Nat.le_refl _⟩ (hQ _ rfl)
theorem nar_c {c : Nat} (hc : c < 65536) : vp_nar .char (nI c) = nI c := by
  unfold vp_nar
  rw [(pk_charN hc).1]
theorem TV.push {c : Nat} (hV : TV tx g) : TV (tx ++ [c]) (upd g tx.length (nI c)) := by
  intro i d hi
  unfold upd
  by_cases e : i < tx.length
  · rw [List.getElem?_append_left e] at hi
    rw [if_neg (by omega)]
    exact hV i d hi
  · have e2 : i = tx.length := by
      have := get_lt hi
      simp at this
      omega
    subst e2
    rw [List.getElem?_append_right (Nat.le_refl _), Nat.sub_self] at hi
    simp at hi
    rw [if_pos rfl, hi]
/-- an answer: a number, or -1 -/
def oI (o : Option Nat) : Int32 := match o with
  | none => -1
  | some v => nI v
end SText
