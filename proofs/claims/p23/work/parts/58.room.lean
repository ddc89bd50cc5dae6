theorem w_hasRoom {s : State} {pl : Platform} {R R' : Room} (hr : R.frames ≤ R'.frames ∧ R.cells ≤ R'.cells ∧ R.slots ≤ R'.slots ∧ R.locals ≤ R'.locals) (h : s.hasRoom pl R' = true) : s.hasRoom pl R = true := by
  obtain ⟨r1, r2, r3, r4⟩ := hr
  simp only [State.hasRoom, Bool.and_eq_true, decide_eq_true_eq] at h ⊢
  obtain ⟨⟨⟨⟨a0, a1, a2, a3, a4, a5⟩, a6⟩, a7⟩, a8⟩ := h
  exact ⟨⟨⟨⟨by omega, by omega, by omega, by omega, by omega, a5⟩, by omega⟩, by omega⟩, a8⟩
theorem w_room {p : Program} {l : Launch} {e : Env} {R R' : Room} {s : State} {m : MethodId} {args : Array Value} {below : List Frame} {meth : Method} {c : Code} {H : Heap} {locs : List Loc} {cells slots : Nat} {Z : State → Prop} {g : JFrame} (hr : R.frames ≤ R'.frames ∧ R.cells ≤ R'.cells ∧ R.slots ≤ R'.slots ∧ R.locals ≤ R'.locals) (k : W p l e R s m args below meth c H locs cells slots Z g) : W p l e R' s m args below meth c H locs cells slots Z g :=
  fun T hT X => k T hT ⟨X.admits, X.cas, X.clock, X.frames, w_hasRoom hr X.room, X.hears, X.method, X.code, X.here, X.tail, X.warmed, X.limits, X.bytes, X.same⟩
theorem w_room2 {p : Program} {l : Launch} {e : Env} {R R' : Room} {s : State} {m : MethodId} {args : Array Value} {below : List Frame} {meth : Method} {c : Code} {H : Heap} {locs : List Loc} {cells slots : Nat} {Z : State → Prop} {g : JFrame} (hroom : s.hasRoom e.platform R' = true) (k : W p l e R' s m args below meth c H locs cells slots Z g) : W p l e R s m args below meth c H locs cells slots Z g :=
  fun T hT X => k T hT ⟨X.admits, X.cas, X.clock, X.frames, hroom, X.hears, X.method, X.code, X.here, X.tail, X.warmed, X.limits, X.bytes, X.same⟩
