theorem whole_start {p : Program} {e : Env} {s : State} {m : MethodId} {below : List Frame} {meth : Method} {c : Code} (l : Launch) (hflags : l.flags = flags0) {b L : Nat} {xs : Nat → Int32} (hL : L ≤ 2560) (C0 : lw_At p s m meth c b L xs) : W p l e room_1 s m #[Value.ref b] below meth c s.heap [] 0 0 (lw_Z below #[Value.ref b] s) (entryFrame m ([Value.ref b] : List Value).toArray 4) := by
  obtain ⟨hexec, hcode, hret, hml, hown, hts, hX, hbl, hlocks, hgv⟩ := C0
  obtain ⟨D, cA, hK⟩ := lw_world hts
  intro T hT X
  have hroom := X.room
  refine w_room (R := g_rm 9 62 2691) (by decide) ?_ T hT X
  rw [lg_entry_eq]
  have hl0 := lv_entry [Value.ref b] (n := 4) (by decide)
  refine s_law (N := L) (xs := xs) hL (h := (fun _ => .inr (0, []), 0)) rfl l D cA (fun k => match k with | 0 => b | k + 1 => s.heap.size + k) s.heap.size (fun k => rfl) p e s m #[Value.ref b] below meth c (lw_Z below #[Value.ref b] s) s.heap [] _ ⟨hexec, hcode, hml, hown, fun w hw => hts w (List.mem_filter.mp hw).1, fun e => absurd e (by decide), fun sc e => by cases e; exact ⟨hX, hbl, by show ¬ s.heap.size ≤ b; omega⟩⟩ (Nat.le_refl _) rfl hK ?_ (fun k q hq => by cases hq) va_S.rf (lv_less hl0 (fun q hq => by simpa [g_ll] using hq))
  intro r st h' pc' H' locs' ls' hQ hr hT' hS' hE'
  rcases hr with ⟨rfl, -, -, -⟩ | ⟨y, rfl, rfl, -, hd⟩ | ⟨y, rfl, -, -, -⟩
  · cases hQ
  · cases hQ
    exact va_forget hS'.2.2 (W.widen (by decide) (by decide) (w_room2 hroom (lw_ret hexec hcode hret hlocks hd)))
  · cases hQ
