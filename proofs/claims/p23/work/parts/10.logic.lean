/-! THE LOGIC J: one world for the whole run: cell number k >= 1 stands at the address base + (k - 1); number 0 is the script. -/
abbrev g_C : Type := (Nat × vp_A) ⊕ (Nat × List Value)
abbrev g_H : Type := (Nat → g_C) × Nat
abbrev g_M : Type := MethodName × ByteArray × Nat × Option FieldType × Option (Nat × (Nat → Int32))
def g_cv (ad : Nat → Nat) (v : Value) : Value := match v with
  | .ref k => .ref (ad k)
  | v => v
def g_ca (ad : Nat → Nat) (a : vp_A) : vp_A := (a.1, match a.2 with
  | .inr (.inr (.inr (.inr f))) => .inr (.inr (.inr (.inr (fun j => (f j).map ad))))
  | x => x)
def g_ce (cA : Nat → ClassId) (ad : Nat → Nat) (c : g_C) : va_E := match c with
  | .inl (k, a) => .inl (cA k, g_ca ad a)
  | .inr (ci, fs) => .inr (ci, fs.map (g_cv ad))
def g_ws (cA : Nat → ClassId) (ad : Nat → Nat) (h : g_H) : va_W := (List.range h.2).map (fun k => (ad (k + 1), g_ce cA ad (h.1 (k + 1))))
def g_up (h : g_H) (k : Nat) (c : g_C) : g_H := (fun j => if j = k then c else h.1 j, h.2)
def g_push (h : g_H) (c : g_C) : g_H := (fun j => if j = h.2 + 1 then c else h.1 j, h.2 + 1)
theorem g_up_s (h : g_H) (k : Nat) (c : g_C) : (g_up h k c).1 k = c := by simp [g_up]
theorem g_up_n (h : g_H) {k j : Nat} (c : g_C) (hj : j ≠ k) : (g_up h k c).1 j = h.1 j := by simp [g_up, hj]
theorem g_up_2 (h : g_H) (k : Nat) (c : g_C) : (g_up h k c).2 = h.2 := rfl
theorem g_push_s (h : g_H) (c : g_C) : (g_push h c).1 (h.2 + 1) = c := by simp [g_push]
theorem g_push_n (h : g_H) {j : Nat} (c : g_C) (hj : j ≠ h.2 + 1) : (g_push h c).1 j = h.1 j := by simp [g_push, hj]
theorem g_push_2 (h : g_H) (c : g_C) : (g_push h c).2 = h.2 + 1 := rfl
theorem g_ws_get (cA : Nat → ClassId) (ad : Nat → Nat) (h : g_H) {a : Nat} (h1 : 1 ≤ a) (h2 : a ≤ h.2) : (g_ws cA ad h)[a - 1]? = some (ad a, g_ce cA ad (h.1 a)) := by
  unfold g_ws
  rw [List.getElem?_map, List.getElem?_range (by omega)]
  simp only [Option.map_some]
  rw [Nat.sub_add_cancel h1]
theorem g_ws_set (cA : Nat → ClassId) (ad : Nat → Nat) (h : g_H) {a : Nat} (h1 : 1 ≤ a) (h2 : a ≤ h.2) (c : g_C) : (g_ws cA ad h).set (a - 1) (ad a, g_ce cA ad c) = g_ws cA ad (g_up h a c) := by
  apply List.ext_getElem?
  intro i
  unfold g_ws
  rw [List.getElem?_set, List.length_map, List.length_range, List.getElem?_map, List.getElem?_map]
  by_cases hi : i < h.2
  · rw [List.getElem?_range hi, List.getElem?_range (show i < (g_up h a c).2 from hi)]
    by_cases e : a - 1 = i
    · subst e
      have e2 : a - 1 + 1 = a := by omega
      simp [g_up, e2]
      omega
    · have e2 : ¬ i + 1 = a := by omega
      simp [g_up, e, e2]
  · have e : ¬ a - 1 = i := by omega
    have n1 : (List.range h.2)[i]? = none := by simp; omega
    have n2 : (List.range (g_up h a c).2)[i]? = none := by show (List.range h.2)[i]? = none; exact n1
    rw [n1, n2, if_neg e]
    rfl
theorem g_ws_push (cA : Nat → ClassId) (ad : Nat → Nat) (h : g_H) (c : g_C) : g_ws cA ad (g_push h c) = g_ws cA ad h ++ [(ad (h.2 + 1), g_ce cA ad c)] := by
  unfold g_ws
  rw [g_push_2, List.range_succ, List.map_append]
  congr 1
  · apply List.map_congr_left
    intro k hk
    have : k < h.2 := List.mem_range.mp hk
    rw [g_push_n h c (by omega)]
  · simp [g_push]
theorem g_D {cA : Nat → ClassId} {ad : Nat → Nat} {base : Nat} (hAd : ∀ k, ad (k + 1) = base + k) (h : g_H) : va_D (fun q => base ≤ q) (g_ws cA ad h) := by
  have key : ∀ (k : Nat) (q : Nat × va_E), (g_ws cA ad h)[k]? = some q → q.1 = base + k := by
    intro k q hk
    unfold g_ws at hk
    rw [List.getElem?_map, Option.map_eq_some_iff] at hk
    obtain ⟨a, ha, rfl⟩ := hk
    rw [List.getElem?_eq_some_iff] at ha
    obtain ⟨h1, h2⟩ := ha
    simp at h2
    show ad (a + 1) = _
    rw [hAd, h2]
  refine ⟨fun i j p q hi hj e => ?_, fun k q hk => ?_⟩
  · have a1 := key i p hi
    have a2 := key j q hj
    omega
  · have a1 := key k q hk
    show base ≤ q.1
    omega
def g_tys (cA : Nat → ClassId) : List (ClassId × FieldType) := [(cA 0, .int), (cA 1, .char), (cA 2, .object "LivedLinks$Links")]
def g_K (D : va_G) (cA : Nat → ClassId) (U : State) : Prop := va_K D classes (g_tys cA) U ∧ va_AO "LivedLinks$Links" U ∧ ∀ q ∈ lw_nest, va_Nw (.methodLinkNest q.1 q.2.1 q.2.2.1 q.2.2.2) U
theorem g_K.moved {D : va_G} {cA : Nat → ClassId} {s U : State} (hW : s.WarmedH U.vm) (h : g_K D cA s) : g_K D cA U := ⟨va_K.moved hW.alike h.1, va_AO.moved hW.alike h.2.1, fun q hq => va_Nw.warmM hW (h.2.2 q hq)⟩
theorem g_K.same {D : va_G} {cA : Nat → ClassId} {u U : State} (e : u.vm = U.vm) (h : g_K D cA u) : g_K D cA U := ⟨va_K.moved (e ▸ Vm.Alike.refl u.vm) h.1, va_AO.moved (e ▸ Vm.Alike.refl u.vm) h.2.1, fun q hq => va_Nw.same rfl e (h.2.2 q hq)⟩
def g_T (D : va_G) (cA : Nat → ClassId) (ad : Nat → Nat) (h : g_H) (H : Heap) : Prop := va_P D classes (g_ws cA ad h) H
/-! the locals: a list by places; 'none' is a place of which nothing is said -/
def g_ll (ad : Nat → Nat) : Nat → List (Option Value) → List (Nat × Value)
  | _, [] => []
  | i, none :: r => g_ll ad (i + 1) r
  | i, some v :: r => (i, g_cv ad v) :: g_ll ad (i + 1) r
theorem g_ll_mem (ad : Nat → Nat) (L : List (Option Value)) : ∀ (i : Nat) (q : Nat × Value), q ∈ g_ll ad i L ↔ ∃ (k : Nat) (v : Value), L[k]? = some (some v) ∧ q = (i + k, g_cv ad v) := by
  induction L with
  | nil => intro i q; simp [g_ll]
  | cons x r ih =>
    intro i q
    cases x with
    | none =>
      rw [g_ll, ih]
      constructor
      · rintro ⟨k, v, h1, h2⟩
        exact ⟨k + 1, v, by simpa using h1, by rw [h2]; congr 1; omega⟩
      · rintro ⟨k, v, h1, h2⟩
        cases k with
        | zero => simp at h1
        | succ k => exact ⟨k, v, by simpa using h1, by rw [h2]; congr 1; omega⟩
    | some w =>
      rw [g_ll, List.mem_cons, ih]
      constructor
      · rintro (h | ⟨k, v, h1, h2⟩)
        · exact ⟨0, w, by simp, by rw [h]; rfl⟩
        · exact ⟨k + 1, v, by simpa using h1, by rw [h2]; congr 1; omega⟩
      · rintro ⟨k, v, h1, h2⟩
        cases k with
        | zero =>
          left
          simp at h1
          rw [h2, h1]; rfl
        | succ k => exact Or.inr ⟨k, v, by simpa using h1, by rw [h2]; congr 1; omega⟩
def g_LS (ad : Nat → Nat) (L : List (Option Value)) (ls : Array Slot) (nL : Nat) : Prop := lv_has ls nL (g_ll ad 0 L)
theorem g_at {ad : Nat → Nat} {L : List (Option Value)} {ls : Array Slot} {nL i : Nat} {v : Value} (h : g_LS ad L ls nL) (hv : L[i]? = some (some v)) : ls[i]? = some (.val (g_cv ad v)) :=
  h.2.2 (i, g_cv ad v) ((g_ll_mem ad L 0 _).mpr ⟨i, v, hv, by simp⟩)
theorem lv_less {ls : Array Slot} {nL : Nat} {l l' : List (Nat × Value)} (h : lv_has ls nL l) (hs : ∀ q ∈ l', q ∈ l) : lv_has ls nL l' := ⟨h.1, h.2.1, fun q hq => h.2.2 q (hs q hq)⟩
def g_cl (L : List (Option Value)) (i : Nat) : List (Option Value) := match i with
  | 0 => L
  | j + 1 => match L[j]? with
    | some (some (.long _)) => L.set j none
    | some (some (.double _)) => L.set j none
    | _ => L
def g_st1 (L : List (Option Value)) (i : Nat) (v : Value) : List (Option Value) := (g_cl L i).set i (some v)
def g_st2 (L : List (Option Value)) (i : Nat) (v : Value) : List (Option Value) := ((g_cl L i).set i (some v)).set (i + 1) none
theorem g_cat (ad : Nat → Nat) (v : Value) : (g_cv ad v).category = v.category := by cases v <;> rfl
theorem g_cl_in {L : List (Option Value)} {i k : Nat} {v : Value} (h : (g_cl L i)[k]? = some (some v)) : L[k]? = some (some v) ∧ ¬ (k + 1 = i ∧ v.category = 2) := by
  unfold g_cl at h
  have hset : ∀ j : Nat, (L.set j none)[k]? = some (some v) → L[k]? = some (some v) ∧ k ≠ j := by
    intro j hj
    by_cases e : j = k
    · subst e
      rw [List.getElem?_set] at hj
      simp at hj
    · rw [List.getElem?_set_ne e] at hj
      exact ⟨hj, fun q => e q.symm⟩
  cases i with
  | zero => exact ⟨h, by omega⟩
  | succ j =>
    simp only at h
    split at h
    · obtain ⟨h1, h2⟩ := hset j h
      exact ⟨h1, by omega⟩
    · obtain ⟨h1, h2⟩ := hset j h
      exact ⟨h1, by omega⟩
    · rename_i n1 n2
      refine ⟨h, ?_⟩
      rintro ⟨e1, e2⟩
      have e3 : k = j := by omega
      subst e3
      cases v with
      | long x => exact n1 x h
      | double x => exact n2 x h
      | _ => simp [Value.category] at e2
theorem g_st1_ls {ad : Nat → Nat} {L : List (Option Value)} {ls : Array Slot} {nL i : Nat} {v : Value} (h : lv_has ls nL ((i, g_cv ad v) :: (g_ll ad 0 L).filter (fun q => !(q.1 == i) && !(q.1 + 1 == i && q.2.category == 2)))) : g_LS ad (g_st1 L i v) ls nL := by
  refine lv_less h fun q hq => ?_
  obtain ⟨k, w, h1, rfl⟩ := (g_ll_mem ad _ 0 q).mp hq
  rw [Nat.zero_add]
  unfold g_st1 at h1
  by_cases e : i = k
  · subst e
    rw [List.getElem?_set] at h1
    simp at h1
    rw [h1.2]
    exact List.mem_cons_self
  · rw [List.getElem?_set_ne e] at h1
    obtain ⟨h2, h3⟩ := g_cl_in h1
    refine List.mem_cons_of_mem _ (List.mem_filter.mpr ⟨(g_ll_mem ad L 0 _).mpr ⟨k, w, h2, by simp⟩, ?_⟩)
    have e' : ¬ k = i := fun q => e q.symm
    simp only [g_cat]
    simp [e']
    exact (Classical.em (k + 1 = i)).elim (fun a => Or.inr fun b => h3 ⟨a, b⟩) Or.inl
theorem g_st2_ls {ad : Nat → Nat} {L : List (Option Value)} {ls : Array Slot} {nL i : Nat} {v : Value} (h : lv_has ls nL ((i, g_cv ad v) :: (g_ll ad 0 L).filter (fun q => !(q.1 == i) && (!(q.1 == i + 1) && !(q.1 + 1 == i && q.2.category == 2))))) : g_LS ad (g_st2 L i v) ls nL := by
  refine lv_less h fun q hq => ?_
  obtain ⟨k, w, h1, rfl⟩ := (g_ll_mem ad _ 0 q).mp hq
  rw [Nat.zero_add]
  unfold g_st2 at h1
  by_cases e2 : i + 1 = k
  · subst e2
    rw [List.getElem?_set] at h1
    simp at h1
  · rw [List.getElem?_set_ne e2] at h1
    by_cases e : i = k
    · subst e
      rw [List.getElem?_set] at h1
      simp at h1
      rw [h1.2]
      exact List.mem_cons_self
    · rw [List.getElem?_set_ne e] at h1
      obtain ⟨h2, h3⟩ := g_cl_in h1
      refine List.mem_cons_of_mem _ (List.mem_filter.mpr ⟨(g_ll_mem ad L 0 _).mpr ⟨k, w, h2, by simp⟩, ?_⟩)
      have e' : ¬ k = i := fun q => e q.symm
      have e2' : ¬ k = i + 1 := fun q => e2 q.symm
      simp only [g_cat]
      simp [e', e2']
      exact (Classical.em (k + 1 = i)).elim (fun a => Or.inr fun b => h3 ⟨a, b⟩) Or.inl
/-! the judgement -/
def g_rm (d mc ms : Nat) : Room := { frames := d, cells := mc, slots := ms, locals := 36 * d }
def g_X (M : g_M) (p : Program) (s : State) (m : MethodId) (args : Array Value) (meth : Method) (c : Code) (ad : Nat → Nat) (base : Nat) : Prop :=
  p.tables.exec = Jvm.exec ∧ c.code = M.2.1 ∧ c.maxLocals = M.2.2.1 ∧ s.vm.findClass M.1.cls = some m.cls ∧ (∀ w ∈ lw_gd, w.before args s = true) ∧ (M.1.name = "<init>" → meth.name = "<init>") ∧
  (∀ sc, M.2.2.2.2 = some sc → va_X (ad 0) sc.1 sc.2 s s.heap ∧ ad 0 < s.heap.size ∧ ¬ base ≤ ad 0)
def g_ret (M : g_M) (pc : Nat) (r : Option Value) (st : List Value) : Prop :=
  (r = none ∧ st = [] ∧ M.2.2.2.1 = none ∧ decode M.2.1 pc = .ok (.return_, 1)) ∨
  (∃ x : Int32, r = some (.int x) ∧ st = [.int x] ∧ (M.2.2.2.1 = some .int ∨ (M.2.2.2.1 = some .boolean ∧ (x = 0 ∨ x = 1))) ∧ decode M.2.1 pc = .ok (.ireturn, 1)) ∨
  (∃ x : Int64, r = some (.long x) ∧ st = [.long x] ∧ M.2.2.2.1 = some .long ∧ decode M.2.1 pc = .ok (.lreturn, 1))
def J (M : g_M) (d mc ms u v pc : Nat) (L : List (Option Value)) (S : List Value) (h : g_H) (Q : Option Value → g_H → Prop) : Prop :=
  ∀ (l : Launch) (D : va_G) (cA : Nat → ClassId) (ad : Nat → Nat) (base : Nat), (∀ k, ad (k + 1) = base + k) →
  ∀ (p : Program) (e : Env) (s : State) (m : MethodId) (args : Array Value) (below : List Frame) (meth : Method) (c : Code) (Z : State → Prop) (H : Heap) (locs : List Loc) (ls : Array Slot),
    g_X M p s m args meth c ad base → base ≤ s.heap.size → s.heap.size + u = base + h.2 → g_K D cA s →
    (∀ (r : Option Value) (st : List Value) (h' : g_H) (pc' : Nat) (H' : Heap) (locs' : List Loc) (ls' : Array Slot), Q r h' → g_ret M pc' r st → g_T D cA ad h' H' → va_S (fun q => base ≤ q) s.heap H' locs' → s.heap.size + mc = base + h'.2 → W p l e (g_rm d mc ms) s m args below meth c H' locs' mc ms Z (F0 m pc' ls' st)) →
    g_T D cA ad h H → va_S (fun q => base ≤ q) s.heap H locs → g_LS ad L ls M.2.2.1 →
    W p l e (g_rm d mc ms) s m args below meth c H locs u v Z (F0 m pc ls (S.map (g_cv ad)))
def g_w (M : g_M) : List Cond := Cond.code M.1 M.2.1 M.2.2.1 M.2.2.2.1 :: lw_gd
def g_Qc (D : va_G) (cA : Nat → ClassId) (ad : Nat → Nat) (base n' : Nat) (Q : Option Value → g_H → Prop) : Array Value → State → Outcome → State → Prop := fun _ st oc t =>
  (∃ (r : Option Value) (h' : g_H), oc = .returned (r.map (g_cv ad)) ∧ Q r h' ∧ h'.2 = n' ∧ g_T D cA ad h' t.heap ∧ g_K D cA t) ∧ va_F (fun q => base ≤ q) st t
def g_Pc (D : va_G) (cA : Nat → ClassId) (ad : Nat → Nat) (base : Nat) (args : List Value) (h : g_H) : Array Value → State → Prop := va_Pc (args.map (g_cv ad)) (fun U => U.heap.size = base + h.2 ∧ g_T D cA ad h U.heap ∧ g_K D cA U)
def MJ (M : g_M) (d mc ms : Nat) (args : List Value) (h : g_H) (Q : Option Value → g_H → Prop) : Prop :=
  ∀ (l : Launch) (D : va_G) (cA : Nat → ClassId) (ad : Nat → Nat) (base : Nat), (∀ k, ad (k + 1) = base + k) →
    Met l M.1 (g_w M) (g_rm d mc ms) (g_Pc D cA ad base args h) (g_Qc D cA ad base (h.2 + mc) Q) mc ms (fun q => base ≤ q)
theorem g_blind {D : va_G} {cA : Nat → ClassId} {ad : Nat → Nat} {base : Nat} {args : List Value} {h : g_H} : FrameBlind (g_Pc D cA ad base args h) := fun a U g mk q => by
  obtain ⟨q0, q1, q2, q3⟩ := q
  exact ⟨q0, q1, q2, g_K.same (u := U) (U := U.calling g mk a) rfl q3⟩
/-! the beginning of a method -/
def g_al : List Value → List (Option Value)
  | [] => []
  | v :: r => if v.category = 2 then some v :: none :: g_al r else some v :: g_al r
theorem g_al_in (ad : Nat → Nat) (vs : List Value) (pad : List (Option Value)) (hp : ∀ (k : Nat) (v : Value), pad[k]? ≠ some (some v)) : ∀ (i : Nat) (q : Nat × Value), q ∈ g_ll ad i (g_al vs ++ pad) → q ∈ lv_args i (vs.map (g_cv ad)) := by
  induction vs with
  | nil =>
    intro i q hq
    obtain ⟨k, v, h1, -⟩ := (g_ll_mem ad _ i q).mp hq
    exact absurd (by simpa [g_al] using h1) (hp k v)
  | cons x r ih =>
    intro i q hq
    rw [List.map_cons, lv_args, g_cat]
    unfold g_al at hq
    by_cases hc : x.category = 2
    · rw [if_pos hc] at hq ⊢
      rw [List.cons_append, List.cons_append, g_ll, g_ll] at hq
      rcases List.mem_cons.mp hq with e | e
      · rw [e]; exact List.mem_cons_self
      · exact List.mem_cons_of_mem _ (ih _ q e)
    · rw [if_neg hc] at hq ⊢
      rw [List.cons_append, g_ll] at hq
      rcases List.mem_cons.mp hq with e | e
      · rw [e]; exact List.mem_cons_self
      · exact List.mem_cons_of_mem _ (ih _ q e)
theorem g_sl_len (ad : Nat → Nat) (vs : List Value) : (lg_sl (vs.map (g_cv ad))).length = (g_al vs).length := by
  induction vs with
  | nil => rfl
  | cons x r ih =>
    have e : lg_sl ((x :: r).map (g_cv ad)) = (if (g_cv ad x).category = 2 then [.val (g_cv ad x), .second] else [.val (g_cv ad x)]) ++ lg_sl (r.map (g_cv ad)) := by simp [lg_sl]
    rw [e, List.length_append, ih, g_cat, g_al]
    by_cases hc : x.category = 2
    · rw [if_pos hc, if_pos hc]; simp; omega
    · rw [if_neg hc, if_neg hc]; simp; omega
theorem g_cv_ints (ad : Nat → Nat) {M : g_M} {pc : Nat} {r : Option Value} {st : List Value} (h : g_ret M pc r st) : r.map (g_cv ad) = r := by
  rcases h with ⟨rfl, -⟩ | ⟨x, rfl, -⟩ | ⟨x, rfl, -⟩ <;> rfl
theorem MJ_of_J {M : g_M} {d mc ms : Nat} {args : List Value} {h : g_H} {Q : Option Value → g_H → Prop} {L : List (Option Value)} (hy : plainName M.1.cls = true) (hsc : M.2.2.2.2 = none)
    (hn : (g_al args).length ≤ M.2.2.1) (hL : g_al args ++ List.replicate (M.2.2.1 - (g_al args).length) none = L) (k : J M d mc ms 0 0 0 L [] h Q) : MJ M d mc ms args h Q := by
  intro l D cA ad base hAd
  refine Met.ofW (cc := M.2.1) (maxL := M.2.2.1) (ret := M.2.2.2.1) (ws' := lw_gd) hy rfl ?_
  intro p e s m av below meth c s₁ B hml hv
  obtain ⟨rfl, hB, hT, hK⟩ := hv
  have hts := atoms_spec (ws := g_w M) B.pre
  have hown : s.vm.findClass M.1.cls = some m.cls := findClass_of_methodNamed B.named
  have hlocks := B.notSynchronized
  have hname : meth.name = M.1.name := (name_of_methodNamed B.named B.method).1
  have hX : g_X M p s m (args.map (g_cv ad)).toArray meth c ad base := ⟨B.exec, B.bytes, hml, hown, fun w hw => hts w (List.mem_cons_of_mem _ hw), fun e => hname.trans e, fun sc e => by rw [hsc] at e; cases e⟩
  rw [lg_entry_eq]
  have hl0 := lv_entry (args.map (g_cv ad)) (n := M.2.2.1) (by rw [g_sl_len]; exact hn)
  have hl : g_LS ad L _ M.2.2.1 := lv_less hl0 (fun q hq => by
    rw [← hL] at hq
    exact g_al_in ad args _ (fun k v e => by
      have := List.mem_of_getElem? e
      simp at this) 0 q hq)
  refine k l D cA ad base hAd p e s m _ below meth c _ s.heap [] _ hX (by omega) hB hK ?_ hT va_S.rf hl
  intro r st h' pc' H' locs' ls' hQ hr hT' hS' hE'
  have fin : ∀ (t : State), t.heap = H' → s.WarmedH t.vm → g_Qc D cA ad base (h.2 + mc) Q (args.map (g_cv ad)).toArray s (.returned r) t := fun t ht hW =>
    ⟨⟨r, h', by rw [g_cv_ints ad hr], hQ, by omega, by rw [ht]; exact hT', hK.moved hW⟩, hS'.F ht⟩
  rcases hr with ⟨rfl, rfl, e1, e2⟩ | ⟨x, rfl, rfl, e1, e2⟩ | ⟨x, rfl, rfl, e1, e2⟩
  · exact W.vret B.exec B.bytes (B.returns.trans e1) fin hS'.2.2 e2 hlocks
  · rcases e1 with e1 | ⟨e1, e3⟩
    · exact W.iret B.exec B.bytes (B.returns.trans e1) fin hS'.2.2 e2 hlocks
    · exact W.zret B.exec B.bytes (B.returns.trans e1) (by rcases e3 with rfl | rfl <;> decide) fin hS'.2.2 e2 hlocks
  · exact W.lret B.exec B.bytes (B.returns.trans e1) fin hS'.2.2 e2 hlocks
section GJ
variable {M M' : g_M} {d mc ms u v pc d' mc' ms' u' v' : Nat} {L L' : List (Option Value)} {S : List Value} {h : g_H} {Q : Option Value → g_H → Prop}

theorem J_iconst {n : Int} {x : Int32} (hd : decode M.2.1 pc = .ok (.iconst n, 1)) (hv : Int32.ofInt n = x) (kk : J M d mc ms u v (pc + 1) L (.int x :: S) h Q) : J M d mc ms u v pc L S h Q :=
  fun l D cA ad base hAd p e s m args below meth c Z H locs ls hX hB hE hK hZ hT hS hL => lv_iconst hX.1 hX.2.1 hd hv (kk l D cA ad base hAd p e s m args below meth c Z H locs ls hX hB hE hK hZ hT hS hL)
theorem J_bipush {n : Int} {x : Int32} (hd : decode M.2.1 pc = .ok (.bipush n, 2)) (hv : (Int8.ofInt n).toInt32 = x) (kk : J M d mc ms u v (pc + 2) L (.int x :: S) h Q) : J M d mc ms u v pc L S h Q :=
  fun l D cA ad base hAd p e s m args below meth c Z H locs ls hX hB hE hK hZ hT hS hL => lv_bipush hX.1 hX.2.1 hd hv (kk l D cA ad base hAd p e s m args below meth c Z H locs ls hX hB hE hK hZ hT hS hL)
theorem J_sipush {n : Int} {x : Int32} (hd : decode M.2.1 pc = .ok (.sipush n, 3)) (hv : (Int16.ofInt n).toInt32 = x) (kk : J M d mc ms u v (pc + 3) L (.int x :: S) h Q) : J M d mc ms u v pc L S h Q :=
  fun l D cA ad base hAd p e s m args below meth c Z H locs ls hX hB hE hK hZ hT hS hL => lv_sipush hX.1 hX.2.1 hd hv (kk l D cA ad base hAd p e s m args below meth c Z H locs ls hX hB hE hK hZ hT hS hL)
theorem J_lconst {n : Fin 2} {x : Int64} (hd : decode M.2.1 pc = .ok (.lconst n, 1)) (hv : Int64.ofNat (n : Nat) = x) (kk : J M d mc ms u v (pc + 1) L (.long x :: S) h Q) : J M d mc ms u v pc L S h Q :=
  fun l D cA ad base hAd p e s m args below meth c Z H locs ls hX hB hE hK hZ hT hS hL => lv_lconst hX.1 hX.2.1 hd hv (kk l D cA ad base hAd p e s m args below meth c Z H locs ls hX hB hE hK hZ hT hS hL)
theorem J_ldc2 {n : Nat} {x : Int64} (hd : decode M.2.1 pc = .ok (.ldc2_w n, 3)) (hw : Cond.constantLong M.1.cls n x ∈ lw_gd) (kk : J M d mc ms u v (pc + 3) L (.long x :: S) h Q) : J M d mc ms u v pc L S h Q :=
  fun l D cA ad base hAd p e s m args below meth c Z H locs ls hX hB hE hK hZ hT hS hL => lv_ldc2 hX.1 hX.2.1 hX.2.2.2.1 (hX.2.2.2.2.1 _ hw) hd (kk l D cA ad base hAd p e s m args below meth c Z H locs ls hX hB hE hK hZ hT hS hL)
theorem J_iload_n {k : Fin 4} {x : Int32} (hd : decode M.2.1 pc = .ok (.iload_n k, 1)) (hl : L[(k : Nat)]? = some (some (.int x))) (kk : J M d mc ms u v (pc + 1) L (.int x :: S) h Q) : J M d mc ms u v pc L S h Q :=
  fun l D cA ad base hAd p e s m args below meth c Z H locs ls hX hB hE hK hZ hT hS hL => lv_iload_n hX.1 hX.2.1 hd rfl (g_at hL hl) (kk l D cA ad base hAd p e s m args below meth c Z H locs ls hX hB hE hK hZ hT hS hL)
theorem J_iload {k : Nat} {x : Int32} (hd : decode M.2.1 pc = .ok (.iload k, 2)) (hl : L[k]? = some (some (.int x))) (kk : J M d mc ms u v (pc + 2) L (.int x :: S) h Q) : J M d mc ms u v pc L S h Q :=
  fun l D cA ad base hAd p e s m args below meth c Z H locs ls hX hB hE hK hZ hT hS hL => lv_iload hX.1 hX.2.1 hd (g_at hL hl) (kk l D cA ad base hAd p e s m args below meth c Z H locs ls hX hB hE hK hZ hT hS hL)
theorem J_lload_n {k : Fin 4} {x : Int64} (hd : decode M.2.1 pc = .ok (.lload_n k, 1)) (hl : L[(k : Nat)]? = some (some (.long x))) (kk : J M d mc ms u v (pc + 1) L (.long x :: S) h Q) : J M d mc ms u v pc L S h Q :=
  fun l D cA ad base hAd p e s m args below meth c Z H locs ls hX hB hE hK hZ hT hS hL => lv_lload_n hX.1 hX.2.1 hd rfl (g_at hL hl) (kk l D cA ad base hAd p e s m args below meth c Z H locs ls hX hB hE hK hZ hT hS hL)
theorem J_lload {k : Nat} {x : Int64} (hd : decode M.2.1 pc = .ok (.lload k, 2)) (hl : L[k]? = some (some (.long x))) (kk : J M d mc ms u v (pc + 2) L (.long x :: S) h Q) : J M d mc ms u v pc L S h Q :=
  fun l D cA ad base hAd p e s m args below meth c Z H locs ls hX hB hE hK hZ hT hS hL => lv_lload hX.1 hX.2.1 hd (g_at hL hl) (kk l D cA ad base hAd p e s m args below meth c Z H locs ls hX hB hE hK hZ hT hS hL)
theorem J_aload_n {k : Fin 4} {x : Nat} (hd : decode M.2.1 pc = .ok (.aload_n k, 1)) (hl : L[(k : Nat)]? = some (some (.ref x))) (kk : J M d mc ms u v (pc + 1) L (.ref x :: S) h Q) : J M d mc ms u v pc L S h Q :=
  fun l D cA ad base hAd p e s m args below meth c Z H locs ls hX hB hE hK hZ hT hS hL => lv_aload_n hX.1 hX.2.1 hd rfl (g_at hL hl) (kk l D cA ad base hAd p e s m args below meth c Z H locs ls hX hB hE hK hZ hT hS hL)
theorem J_aload {k : Nat} {x : Nat} (hd : decode M.2.1 pc = .ok (.aload k, 2)) (hl : L[k]? = some (some (.ref x))) (kk : J M d mc ms u v (pc + 2) L (.ref x :: S) h Q) : J M d mc ms u v pc L S h Q :=
  fun l D cA ad base hAd p e s m args below meth c Z H locs ls hX hB hE hK hZ hT hS hL => lv_aload hX.1 hX.2.1 hd (g_at hL hl) (kk l D cA ad base hAd p e s m args below meth c Z H locs ls hX hB hE hK hZ hT hS hL)
theorem J_aload_nN {k : Fin 4} (hd : decode M.2.1 pc = .ok (.aload_n k, 1)) (hl : L[(k : Nat)]? = some (some .null)) (kk : J M d mc ms u v (pc + 1) L (.null :: S) h Q) : J M d mc ms u v pc L S h Q :=
  fun l D cA ad base hAd p e s m args below meth c Z H locs ls hX hB hE hK hZ hT hS hL => lv_aload_nN hX.1 hX.2.1 hd rfl (g_at hL hl) (kk l D cA ad base hAd p e s m args below meth c Z H locs ls hX hB hE hK hZ hT hS hL)
theorem J_istore_n {k : Fin 4} {x : Int32} {L' : List (Option Value)} (hd : decode M.2.1 pc = .ok (.istore_n k, 1)) (hn : (k : Nat) < M.2.2.1) (hl : g_st1 L (k : Nat) (.int x) = L') (kk : J M d mc ms u v (pc + 1) L' S h Q) : J M d mc ms u v pc L (.int x :: S) h Q :=
  fun l D cA ad base hAd p e s m args below meth c Z H locs ls hX hB hE hK hZ hT hS hL => by subst hl; exact lv_istore_n hX.1 hX.2.1 hd rfl hL hn rfl (fun ls hL => kk l D cA ad base hAd p e s m args below meth c Z H locs ls hX hB hE hK hZ hT hS (g_st1_ls (v := .int x) hL))
theorem J_istore {k : Nat} {x : Int32} {L' : List (Option Value)} (hd : decode M.2.1 pc = .ok (.istore k, 2)) (hn : k < M.2.2.1) (hl : g_st1 L k (.int x) = L') (kk : J M d mc ms u v (pc + 2) L' S h Q) : J M d mc ms u v pc L (.int x :: S) h Q :=
  fun l D cA ad base hAd p e s m args below meth c Z H locs ls hX hB hE hK hZ hT hS hL => by subst hl; exact lv_istore hX.1 hX.2.1 hd hL hn rfl (fun ls hL => kk l D cA ad base hAd p e s m args below meth c Z H locs ls hX hB hE hK hZ hT hS (g_st1_ls (v := .int x) hL))
theorem J_astore_n {k : Fin 4} {x : Nat} {L' : List (Option Value)} (hd : decode M.2.1 pc = .ok (.astore_n k, 1)) (hn : (k : Nat) < M.2.2.1) (hl : g_st1 L (k : Nat) (.ref x) = L') (kk : J M d mc ms u v (pc + 1) L' S h Q) : J M d mc ms u v pc L (.ref x :: S) h Q :=
  fun l D cA ad base hAd p e s m args below meth c Z H locs ls hX hB hE hK hZ hT hS hL => by subst hl; exact lv_astore_n hX.1 hX.2.1 hd rfl hL hn rfl (fun ls hL => kk l D cA ad base hAd p e s m args below meth c Z H locs ls hX hB hE hK hZ hT hS (g_st1_ls (v := .ref x) hL))
theorem J_astore {k : Nat} {x : Nat} {L' : List (Option Value)} (hd : decode M.2.1 pc = .ok (.astore k, 2)) (hn : k < M.2.2.1) (hl : g_st1 L k (.ref x) = L') (kk : J M d mc ms u v (pc + 2) L' S h Q) : J M d mc ms u v pc L (.ref x :: S) h Q :=
  fun l D cA ad base hAd p e s m args below meth c Z H locs ls hX hB hE hK hZ hT hS hL => by subst hl; exact lv_astore hX.1 hX.2.1 hd hL hn rfl (fun ls hL => kk l D cA ad base hAd p e s m args below meth c Z H locs ls hX hB hE hK hZ hT hS (g_st1_ls (v := .ref x) hL))
theorem J_astore_nN {k : Fin 4} {L' : List (Option Value)} (hd : decode M.2.1 pc = .ok (.astore_n k, 1)) (hn : (k : Nat) < M.2.2.1) (hl : g_st1 L (k : Nat) .null = L') (kk : J M d mc ms u v (pc + 1) L' S h Q) : J M d mc ms u v pc L (.null :: S) h Q :=
  fun l D cA ad base hAd p e s m args below meth c Z H locs ls hX hB hE hK hZ hT hS hL => by subst hl; exact lv_astore_nN hX.1 hX.2.1 hd rfl hL hn rfl (fun ls hL => kk l D cA ad base hAd p e s m args below meth c Z H locs ls hX hB hE hK hZ hT hS (g_st1_ls (v := .null) hL))
theorem J_lstore_n {k : Fin 4} {x : Int64} {L' : List (Option Value)} (hd : decode M.2.1 pc = .ok (.lstore_n k, 1)) (hn : (k : Nat) + 1 < M.2.2.1) (hl : g_st2 L (k : Nat) (.long x) = L') (kk : J M d mc ms u v (pc + 1) L' S h Q) : J M d mc ms u v pc L (.long x :: S) h Q :=
  fun l D cA ad base hAd p e s m args below meth c Z H locs ls hX hB hE hK hZ hT hS hL => by subst hl; exact lv_lstore_n hX.1 hX.2.1 hd rfl hL hn rfl (fun ls hL => kk l D cA ad base hAd p e s m args below meth c Z H locs ls hX hB hE hK hZ hT hS (g_st2_ls (v := .long x) hL))
theorem J_lstore {k : Nat} {x : Int64} {L' : List (Option Value)} (hd : decode M.2.1 pc = .ok (.lstore k, 2)) (hn : k + 1 < M.2.2.1) (hl : g_st2 L k (.long x) = L') (kk : J M d mc ms u v (pc + 2) L' S h Q) : J M d mc ms u v pc L (.long x :: S) h Q :=
  fun l D cA ad base hAd p e s m args below meth c Z H locs ls hX hB hE hK hZ hT hS hL => by subst hl; exact lv_lstore hX.1 hX.2.1 hd hL hn rfl (fun ls hL => kk l D cA ad base hAd p e s m args below meth c Z H locs ls hX hB hE hK hZ hT hS (g_st2_ls (v := .long x) hL))
theorem J_iinc {i : Nat} {n : Int} {x y : Int32} {L' : List (Option Value)} (hd : decode M.2.1 pc = .ok (.iinc i n, 3)) (hx : L[i]? = some (some (.int x))) (hv : x + Int32.ofInt n = y) (hn : i < M.2.2.1) (hl : g_st1 L i (.int y) = L') (kk : J M d mc ms u v (pc + 3) L' S h Q) : J M d mc ms u v pc L S h Q := by
  intro l D cA ad base hAd p e s m args below meth c Z H locs ls hX hB hE hK hZ hT hS hL
  subst hl
  obtain ⟨k, hk⟩ := List.getElem?_of_mem ((g_ll_mem ad L 0 (i, .int x)).mpr ⟨i, .int x, hx, by simp [g_cv]⟩)
  exact lv_iinc hX.1 hX.2.1 hd hL hk hv hn rfl (fun ls hL => kk l D cA ad base hAd p e s m args below meth c Z H locs ls hX hB hE hK hZ hT hS (g_st1_ls (v := .int y) hL))
theorem J_iadd {x y : Int32} (hd : decode M.2.1 pc = .ok (.iadd, 1)) (kk : J M d mc ms u v (pc + 1) L (.int (x + y) :: S) h Q) : J M d mc ms u v pc L (.int y :: .int x :: S) h Q :=
  fun l D cA ad base hAd p e s m args below meth c Z H locs ls hX hB hE hK hZ hT hS hL => lv_iadd hX.1 hX.2.1 hd (kk l D cA ad base hAd p e s m args below meth c Z H locs ls hX hB hE hK hZ hT hS hL)
theorem J_isub {x y : Int32} (hd : decode M.2.1 pc = .ok (.isub, 1)) (kk : J M d mc ms u v (pc + 1) L (.int (x - y) :: S) h Q) : J M d mc ms u v pc L (.int y :: .int x :: S) h Q :=
  fun l D cA ad base hAd p e s m args below meth c Z H locs ls hX hB hE hK hZ hT hS hL => lv_isub hX.1 hX.2.1 hd (kk l D cA ad base hAd p e s m args below meth c Z H locs ls hX hB hE hK hZ hT hS hL)
theorem J_imul {x y : Int32} (hd : decode M.2.1 pc = .ok (.imul, 1)) (kk : J M d mc ms u v (pc + 1) L (.int (x * y) :: S) h Q) : J M d mc ms u v pc L (.int y :: .int x :: S) h Q :=
  fun l D cA ad base hAd p e s m args below meth c Z H locs ls hX hB hE hK hZ hT hS hL => lv_imul hX.1 hX.2.1 hd (kk l D cA ad base hAd p e s m args below meth c Z H locs ls hX hB hE hK hZ hT hS hL)
theorem J_iand {x y : Int32} (hd : decode M.2.1 pc = .ok (.iand, 1)) (kk : J M d mc ms u v (pc + 1) L (.int (x &&& y) :: S) h Q) : J M d mc ms u v pc L (.int y :: .int x :: S) h Q :=
  fun l D cA ad base hAd p e s m args below meth c Z H locs ls hX hB hE hK hZ hT hS hL => lv_iand hX.1 hX.2.1 hd (kk l D cA ad base hAd p e s m args below meth c Z H locs ls hX hB hE hK hZ hT hS hL)
theorem J_ior {x y : Int32} (hd : decode M.2.1 pc = .ok (.ior, 1)) (kk : J M d mc ms u v (pc + 1) L (.int (x ||| y) :: S) h Q) : J M d mc ms u v pc L (.int y :: .int x :: S) h Q :=
  fun l D cA ad base hAd p e s m args below meth c Z H locs ls hX hB hE hK hZ hT hS hL => lv_ior hX.1 hX.2.1 hd (kk l D cA ad base hAd p e s m args below meth c Z H locs ls hX hB hE hK hZ hT hS hL)
theorem J_ixor {x y : Int32} (hd : decode M.2.1 pc = .ok (.ixor, 1)) (kk : J M d mc ms u v (pc + 1) L (.int (x ^^^ y) :: S) h Q) : J M d mc ms u v pc L (.int y :: .int x :: S) h Q :=
  fun l D cA ad base hAd p e s m args below meth c Z H locs ls hX hB hE hK hZ hT hS hL => lv_ixor hX.1 hX.2.1 hd (kk l D cA ad base hAd p e s m args below meth c Z H locs ls hX hB hE hK hZ hT hS hL)
theorem J_ladd {x y : Int64} (hd : decode M.2.1 pc = .ok (.ladd, 1)) (kk : J M d mc ms u v (pc + 1) L (.long (x + y) :: S) h Q) : J M d mc ms u v pc L (.long y :: .long x :: S) h Q :=
  fun l D cA ad base hAd p e s m args below meth c Z H locs ls hX hB hE hK hZ hT hS hL => lv_ladd hX.1 hX.2.1 hd (kk l D cA ad base hAd p e s m args below meth c Z H locs ls hX hB hE hK hZ hT hS hL)
theorem J_lsub {x y : Int64} (hd : decode M.2.1 pc = .ok (.lsub, 1)) (kk : J M d mc ms u v (pc + 1) L (.long (x - y) :: S) h Q) : J M d mc ms u v pc L (.long y :: .long x :: S) h Q :=
  fun l D cA ad base hAd p e s m args below meth c Z H locs ls hX hB hE hK hZ hT hS hL => lv_lsub hX.1 hX.2.1 hd (kk l D cA ad base hAd p e s m args below meth c Z H locs ls hX hB hE hK hZ hT hS hL)
theorem J_land {x y : Int64} (hd : decode M.2.1 pc = .ok (.land, 1)) (kk : J M d mc ms u v (pc + 1) L (.long (x &&& y) :: S) h Q) : J M d mc ms u v pc L (.long y :: .long x :: S) h Q :=
  fun l D cA ad base hAd p e s m args below meth c Z H locs ls hX hB hE hK hZ hT hS hL => lv_land hX.1 hX.2.1 hd (kk l D cA ad base hAd p e s m args below meth c Z H locs ls hX hB hE hK hZ hT hS hL)
theorem J_lor {x y : Int64} (hd : decode M.2.1 pc = .ok (.lor, 1)) (kk : J M d mc ms u v (pc + 1) L (.long (x ||| y) :: S) h Q) : J M d mc ms u v pc L (.long y :: .long x :: S) h Q :=
  fun l D cA ad base hAd p e s m args below meth c Z H locs ls hX hB hE hK hZ hT hS hL => lv_lor hX.1 hX.2.1 hd (kk l D cA ad base hAd p e s m args below meth c Z H locs ls hX hB hE hK hZ hT hS hL)
theorem J_lxor {x y : Int64} (hd : decode M.2.1 pc = .ok (.lxor, 1)) (kk : J M d mc ms u v (pc + 1) L (.long (x ^^^ y) :: S) h Q) : J M d mc ms u v pc L (.long y :: .long x :: S) h Q :=
  fun l D cA ad base hAd p e s m args below meth c Z H locs ls hX hB hE hK hZ hT hS hL => lv_lxor hX.1 hX.2.1 hd (kk l D cA ad base hAd p e s m args below meth c Z H locs ls hX hB hE hK hZ hT hS hL)
theorem J_ishl {x y : Int32} (hd : decode M.2.1 pc = .ok (.ishl, 1)) (kk : J M d mc ms u v (pc + 1) L (.int (x <<< (y &&& 31)) :: S) h Q) : J M d mc ms u v pc L (.int y :: .int x :: S) h Q :=
  fun l D cA ad base hAd p e s m args below meth c Z H locs ls hX hB hE hK hZ hT hS hL => lv_ishl hX.1 hX.2.1 hd (kk l D cA ad base hAd p e s m args below meth c Z H locs ls hX hB hE hK hZ hT hS hL)
theorem J_ishr {x y : Int32} (hd : decode M.2.1 pc = .ok (.ishr, 1)) (kk : J M d mc ms u v (pc + 1) L (.int (x >>> (y &&& 31)) :: S) h Q) : J M d mc ms u v pc L (.int y :: .int x :: S) h Q :=
  fun l D cA ad base hAd p e s m args below meth c Z H locs ls hX hB hE hK hZ hT hS hL => lv_ishr hX.1 hX.2.1 hd (kk l D cA ad base hAd p e s m args below meth c Z H locs ls hX hB hE hK hZ hT hS hL)
theorem J_lshl {x : Int64} {y : Int32} (hd : decode M.2.1 pc = .ok (.lshl, 1)) (kk : J M d mc ms u v (pc + 1) L (.long (x <<< (y.toInt64 &&& 63)) :: S) h Q) : J M d mc ms u v pc L (.int y :: .long x :: S) h Q :=
  fun l D cA ad base hAd p e s m args below meth c Z H locs ls hX hB hE hK hZ hT hS hL => lv_lshl hX.1 hX.2.1 hd rfl (kk l D cA ad base hAd p e s m args below meth c Z H locs ls hX hB hE hK hZ hT hS hL)
theorem J_lshr {x : Int64} {y : Int32} (hd : decode M.2.1 pc = .ok (.lshr, 1)) (kk : J M d mc ms u v (pc + 1) L (.long (x >>> (y.toInt64 &&& 63)) :: S) h Q) : J M d mc ms u v pc L (.int y :: .long x :: S) h Q :=
  fun l D cA ad base hAd p e s m args below meth c Z H locs ls hX hB hE hK hZ hT hS hL => lv_lshr hX.1 hX.2.1 hd rfl (kk l D cA ad base hAd p e s m args below meth c Z H locs ls hX hB hE hK hZ hT hS hL)
theorem J_ineg {x : Int32} (hd : decode M.2.1 pc = .ok (.ineg, 1)) (kk : J M d mc ms u v (pc + 1) L (.int (-x) :: S) h Q) : J M d mc ms u v pc L (.int x :: S) h Q :=
  fun l D cA ad base hAd p e s m args below meth c Z H locs ls hX hB hE hK hZ hT hS hL => lv_ineg hX.1 hX.2.1 hd (kk l D cA ad base hAd p e s m args below meth c Z H locs ls hX hB hE hK hZ hT hS hL)
theorem J_irem {x y : Int32} (hd : decode M.2.1 pc = .ok (.irem, 1)) (hne : ¬ y = 0) (kk : J M d mc ms u v (pc + 1) L (.int (x - x / y * y) :: S) h Q) : J M d mc ms u v pc L (.int y :: .int x :: S) h Q :=
  fun l D cA ad base hAd p e s m args below meth c Z H locs ls hX hB hE hK hZ hT hS hL => lv_irem hX.1 hX.2.1 hd hne (kk l D cA ad base hAd p e s m args below meth c Z H locs ls hX hB hE hK hZ hT hS hL)
theorem J_i2l {x : Int32} (hd : decode M.2.1 pc = .ok (.i2l, 1)) (kk : J M d mc ms u v (pc + 1) L (.long x.toInt64 :: S) h Q) : J M d mc ms u v pc L (.int x :: S) h Q :=
  fun l D cA ad base hAd p e s m args below meth c Z H locs ls hX hB hE hK hZ hT hS hL => lv_i2l hX.1 hX.2.1 hd rfl (kk l D cA ad base hAd p e s m args below meth c Z H locs ls hX hB hE hK hZ hT hS hL)
theorem J_i2c {x : Int32} (hd : decode M.2.1 pc = .ok (.i2c, 1)) (kk : J M d mc ms u v (pc + 1) L (.int (x.toUInt32 % 65536).toInt32 :: S) h Q) : J M d mc ms u v pc L (.int x :: S) h Q :=
  fun l D cA ad base hAd p e s m args below meth c Z H locs ls hX hB hE hK hZ hT hS hL => lv_i2c hX.1 hX.2.1 hd rfl (kk l D cA ad base hAd p e s m args below meth c Z H locs ls hX hB hE hK hZ hT hS hL)
theorem J_lcmp {x y : Int64} (hd : decode M.2.1 pc = .ok (.lcmp, 1)) (kk : J M d mc ms u v (pc + 1) L (.int (lg_cmp x y) :: S) h Q) : J M d mc ms u v pc L (.long y :: .long x :: S) h Q :=
  fun l D cA ad base hAd p e s m args below meth c Z H locs ls hX hB hE hK hZ hT hS hL => W.lcmp hX.1 hX.2.1 hd (kk l D cA ad base hAd p e s m args below meth c Z H locs ls hX hB hE hK hZ hT hS hL)
theorem J_dup {x : Value} (hd : decode M.2.1 pc = .ok (.dup, 1)) (hc : x.category = 1) (kk : J M d mc ms u v (pc + 1) L (x :: x :: S) h Q) : J M d mc ms u v pc L (x :: S) h Q :=
  fun l D cA ad base hAd p e s m args below meth c Z H locs ls hX hB hE hK hZ hT hS hL => lv_dup hX.1 hX.2.1 hd ((g_cat ad x).trans hc) (kk l D cA ad base hAd p e s m args below meth c Z H locs ls hX hB hE hK hZ hT hS hL)
theorem J_dup2 {x y : Value} (hd : decode M.2.1 pc = .ok (.dup2, 1)) (hc : x.category = 1) (hc2 : y.category = 1) (kk : J M d mc ms u v (pc + 1) L (x :: y :: x :: y :: S) h Q) : J M d mc ms u v pc L (x :: y :: S) h Q :=
  fun l D cA ad base hAd p e s m args below meth c Z H locs ls hX hB hE hK hZ hT hS hL => lv_dup2_11 hX.1 hX.2.1 hd ((g_cat ad x).trans hc) ((g_cat ad y).trans hc2) (kk l D cA ad base hAd p e s m args below meth c Z H locs ls hX hB hE hK hZ hT hS hL)
theorem J_if_eq {x : Int32} {off : Int} {tgt : Nat} (hd : decode M.2.1 pc = .ok (.ifCond .eq off, 3)) (ht : (pc : Int) + off = (tgt : Int)) (kt : x = 0 → J M d mc ms u v tgt L S h Q) (kf : ¬ (x = 0) → J M d mc ms u v (pc + 3) L S h Q) : J M d mc ms u v pc L (.int x :: S) h Q :=
  fun l D cA ad base hAd p e s m args below meth c Z H locs ls hX hB hE hK hZ hT hS hL => lv_if_eq hX.1 hX.2.1 hd ht (fun q => kt q l D cA ad base hAd p e s m args below meth c Z H locs ls hX hB hE hK hZ hT hS hL) (fun q => kf q l D cA ad base hAd p e s m args below meth c Z H locs ls hX hB hE hK hZ hT hS hL)
theorem J_if_ne {x : Int32} {off : Int} {tgt : Nat} (hd : decode M.2.1 pc = .ok (.ifCond .ne off, 3)) (ht : (pc : Int) + off = (tgt : Int)) (kt : ¬ x = 0 → J M d mc ms u v tgt L S h Q) (kf : x = 0 → J M d mc ms u v (pc + 3) L S h Q) : J M d mc ms u v pc L (.int x :: S) h Q :=
  fun l D cA ad base hAd p e s m args below meth c Z H locs ls hX hB hE hK hZ hT hS hL => lv_if_ne hX.1 hX.2.1 hd ht (fun q => kt q l D cA ad base hAd p e s m args below meth c Z H locs ls hX hB hE hK hZ hT hS hL) (fun q => kf q l D cA ad base hAd p e s m args below meth c Z H locs ls hX hB hE hK hZ hT hS hL)
theorem J_if_lt {x : Int32} {off : Int} {tgt : Nat} (hd : decode M.2.1 pc = .ok (.ifCond .lt off, 3)) (ht : (pc : Int) + off = (tgt : Int)) (kt : x < 0 → J M d mc ms u v tgt L S h Q) (kf : ¬ (x < 0) → J M d mc ms u v (pc + 3) L S h Q) : J M d mc ms u v pc L (.int x :: S) h Q :=
  fun l D cA ad base hAd p e s m args below meth c Z H locs ls hX hB hE hK hZ hT hS hL => lv_if_lt hX.1 hX.2.1 hd ht (fun q => kt q l D cA ad base hAd p e s m args below meth c Z H locs ls hX hB hE hK hZ hT hS hL) (fun q => kf q l D cA ad base hAd p e s m args below meth c Z H locs ls hX hB hE hK hZ hT hS hL)
theorem J_if_ge {x : Int32} {off : Int} {tgt : Nat} (hd : decode M.2.1 pc = .ok (.ifCond .ge off, 3)) (ht : (pc : Int) + off = (tgt : Int)) (kt : 0 ≤ x → J M d mc ms u v tgt L S h Q) (kf : ¬ (0 ≤ x) → J M d mc ms u v (pc + 3) L S h Q) : J M d mc ms u v pc L (.int x :: S) h Q :=
  fun l D cA ad base hAd p e s m args below meth c Z H locs ls hX hB hE hK hZ hT hS hL => lv_if_ge hX.1 hX.2.1 hd ht (fun q => kt q l D cA ad base hAd p e s m args below meth c Z H locs ls hX hB hE hK hZ hT hS hL) (fun q => kf q l D cA ad base hAd p e s m args below meth c Z H locs ls hX hB hE hK hZ hT hS hL)
theorem J_if_gt {x : Int32} {off : Int} {tgt : Nat} (hd : decode M.2.1 pc = .ok (.ifCond .gt off, 3)) (ht : (pc : Int) + off = (tgt : Int)) (kt : 0 < x → J M d mc ms u v tgt L S h Q) (kf : ¬ (0 < x) → J M d mc ms u v (pc + 3) L S h Q) : J M d mc ms u v pc L (.int x :: S) h Q :=
  fun l D cA ad base hAd p e s m args below meth c Z H locs ls hX hB hE hK hZ hT hS hL => lv_if_gt hX.1 hX.2.1 hd ht (fun q => kt q l D cA ad base hAd p e s m args below meth c Z H locs ls hX hB hE hK hZ hT hS hL) (fun q => kf q l D cA ad base hAd p e s m args below meth c Z H locs ls hX hB hE hK hZ hT hS hL)
theorem J_if_le {x : Int32} {off : Int} {tgt : Nat} (hd : decode M.2.1 pc = .ok (.ifCond .le off, 3)) (ht : (pc : Int) + off = (tgt : Int)) (kt : x ≤ 0 → J M d mc ms u v tgt L S h Q) (kf : ¬ (x ≤ 0) → J M d mc ms u v (pc + 3) L S h Q) : J M d mc ms u v pc L (.int x :: S) h Q :=
  fun l D cA ad base hAd p e s m args below meth c Z H locs ls hX hB hE hK hZ hT hS hL => lv_if_le hX.1 hX.2.1 hd ht (fun q => kt q l D cA ad base hAd p e s m args below meth c Z H locs ls hX hB hE hK hZ hT hS hL) (fun q => kf q l D cA ad base hAd p e s m args below meth c Z H locs ls hX hB hE hK hZ hT hS hL)
theorem J_icmp_eq {x y : Int32} {off : Int} {tgt : Nat} (hd : decode M.2.1 pc = .ok (.if_icmp .eq off, 3)) (ht : (pc : Int) + off = (tgt : Int)) (kt : x = y → J M d mc ms u v tgt L S h Q) (kf : ¬ (x = y) → J M d mc ms u v (pc + 3) L S h Q) : J M d mc ms u v pc L (.int y :: .int x :: S) h Q :=
  fun l D cA ad base hAd p e s m args below meth c Z H locs ls hX hB hE hK hZ hT hS hL => lv_icmp_eq hX.1 hX.2.1 hd ht (fun q => kt q l D cA ad base hAd p e s m args below meth c Z H locs ls hX hB hE hK hZ hT hS hL) (fun q => kf q l D cA ad base hAd p e s m args below meth c Z H locs ls hX hB hE hK hZ hT hS hL)
theorem J_icmp_ne {x y : Int32} {off : Int} {tgt : Nat} (hd : decode M.2.1 pc = .ok (.if_icmp .ne off, 3)) (ht : (pc : Int) + off = (tgt : Int)) (kt : ¬ x = y → J M d mc ms u v tgt L S h Q) (kf : x = y → J M d mc ms u v (pc + 3) L S h Q) : J M d mc ms u v pc L (.int y :: .int x :: S) h Q :=
  fun l D cA ad base hAd p e s m args below meth c Z H locs ls hX hB hE hK hZ hT hS hL => lv_icmp_ne hX.1 hX.2.1 hd ht (fun q => kt q l D cA ad base hAd p e s m args below meth c Z H locs ls hX hB hE hK hZ hT hS hL) (fun q => kf q l D cA ad base hAd p e s m args below meth c Z H locs ls hX hB hE hK hZ hT hS hL)
theorem J_icmp_lt {x y : Int32} {off : Int} {tgt : Nat} (hd : decode M.2.1 pc = .ok (.if_icmp .lt off, 3)) (ht : (pc : Int) + off = (tgt : Int)) (kt : x < y → J M d mc ms u v tgt L S h Q) (kf : ¬ (x < y) → J M d mc ms u v (pc + 3) L S h Q) : J M d mc ms u v pc L (.int y :: .int x :: S) h Q :=
  fun l D cA ad base hAd p e s m args below meth c Z H locs ls hX hB hE hK hZ hT hS hL => lv_icmp_lt hX.1 hX.2.1 hd ht (fun q => kt q l D cA ad base hAd p e s m args below meth c Z H locs ls hX hB hE hK hZ hT hS hL) (fun q => kf q l D cA ad base hAd p e s m args below meth c Z H locs ls hX hB hE hK hZ hT hS hL)
theorem J_icmp_ge {x y : Int32} {off : Int} {tgt : Nat} (hd : decode M.2.1 pc = .ok (.if_icmp .ge off, 3)) (ht : (pc : Int) + off = (tgt : Int)) (kt : y ≤ x → J M d mc ms u v tgt L S h Q) (kf : ¬ (y ≤ x) → J M d mc ms u v (pc + 3) L S h Q) : J M d mc ms u v pc L (.int y :: .int x :: S) h Q :=
  fun l D cA ad base hAd p e s m args below meth c Z H locs ls hX hB hE hK hZ hT hS hL => lv_icmp_ge hX.1 hX.2.1 hd ht (fun q => kt q l D cA ad base hAd p e s m args below meth c Z H locs ls hX hB hE hK hZ hT hS hL) (fun q => kf q l D cA ad base hAd p e s m args below meth c Z H locs ls hX hB hE hK hZ hT hS hL)
theorem J_icmp_gt {x y : Int32} {off : Int} {tgt : Nat} (hd : decode M.2.1 pc = .ok (.if_icmp .gt off, 3)) (ht : (pc : Int) + off = (tgt : Int)) (kt : y < x → J M d mc ms u v tgt L S h Q) (kf : ¬ (y < x) → J M d mc ms u v (pc + 3) L S h Q) : J M d mc ms u v pc L (.int y :: .int x :: S) h Q :=
  fun l D cA ad base hAd p e s m args below meth c Z H locs ls hX hB hE hK hZ hT hS hL => lv_icmp_gt hX.1 hX.2.1 hd ht (fun q => kt q l D cA ad base hAd p e s m args below meth c Z H locs ls hX hB hE hK hZ hT hS hL) (fun q => kf q l D cA ad base hAd p e s m args below meth c Z H locs ls hX hB hE hK hZ hT hS hL)
theorem J_icmp_le {x y : Int32} {off : Int} {tgt : Nat} (hd : decode M.2.1 pc = .ok (.if_icmp .le off, 3)) (ht : (pc : Int) + off = (tgt : Int)) (kt : x ≤ y → J M d mc ms u v tgt L S h Q) (kf : ¬ (x ≤ y) → J M d mc ms u v (pc + 3) L S h Q) : J M d mc ms u v pc L (.int y :: .int x :: S) h Q :=
  fun l D cA ad base hAd p e s m args below meth c Z H locs ls hX hB hE hK hZ hT hS hL => lv_icmp_le hX.1 hX.2.1 hd ht (fun q => kt q l D cA ad base hAd p e s m args below meth c Z H locs ls hX hB hE hK hZ hT hS hL) (fun q => kf q l D cA ad base hAd p e s m args below meth c Z H locs ls hX hB hE hK hZ hT hS hL)
theorem J_goto {off : Int} {tgt : Nat} (hd : decode M.2.1 pc = .ok (.goto off, 3)) (ht : (pc : Int) + off = (tgt : Int)) (kk : J M d mc ms u v tgt L S h Q) : J M d mc ms u v pc L S h Q :=
  fun l D cA ad base hAd p e s m args below meth c Z H locs ls hX hB hE hK hZ hT hS hL => lv_goto hX.1 hX.2.1 hd ht (kk l D cA ad base hAd p e s m args below meth c Z H locs ls hX hB hE hK hZ hT hS hL)
theorem J_ifnull {x : Nat} {off : Int} (hd : decode M.2.1 pc = .ok (.ifnull off, 3)) (kk : J M d mc ms u v (pc + 3) L S h Q) : J M d mc ms u v pc L (.ref x :: S) h Q :=
  fun l D cA ad base hAd p e s m args below meth c Z H locs ls hX hB hE hK hZ hT hS hL => lv_ifnull hX.1 hX.2.1 hd (kk l D cA ad base hAd p e s m args below meth c Z H locs ls hX hB hE hK hZ hT hS hL)
theorem J_tsOut {dflt lo hi : Int} {offs : Array Int} {len : Nat} {x : Int32} {tgt : Nat} (hd : decode M.2.1 pc = .ok (.tableswitch dflt lo hi offs, len)) (h0 : x.toInt < lo ∨ hi < x.toInt) (ht : (pc : Int) + dflt = (tgt : Int)) (kk : J M d mc ms u v tgt L S h Q) : J M d mc ms u v pc L (.int x :: S) h Q :=
  fun l D cA ad base hAd p e s m args below meth c Z H locs ls hX hB hE hK hZ hT hS hL => lv_tableOut hX.1 hX.2.1 hd h0 ht (kk l D cA ad base hAd p e s m args below meth c Z H locs ls hX hB hE hK hZ hT hS hL)
theorem J_tsIn {dflt lo hi : Int} {offs : Array Int} {len : Nat} {x : Int32} {off : Int} {tgt : Nat} (hd : decode M.2.1 pc = .ok (.tableswitch dflt lo hi offs, len)) (h1 : ¬ x.toInt < lo) (h2 : ¬ hi < x.toInt) (ho : offs[(x.toInt - lo).toNat]? = some off) (ht : (pc : Int) + off = (tgt : Int)) (kk : J M d mc ms u v tgt L S h Q) : J M d mc ms u v pc L (.int x :: S) h Q :=
  fun l D cA ad base hAd p e s m args below meth c Z H locs ls hX hB hE hK hZ hT hS hL => lv_tableIn hX.1 hX.2.1 hd h1 h2 ho ht (kk l D cA ad base hAd p e s m args below meth c Z H locs ls hX hB hE hK hZ hT hS hL)
theorem J_drop (is : List Nat) {L' : List (Option Value)} (hl : is.foldl (fun (L : List (Option Value)) (i : Nat) => L.set i none) L = L') (kk : J M d mc ms u v pc L' S h Q) : J M d mc ms u v pc L S h Q := by
  intro l D cA ad base hAd p e s m args below meth c Z H locs ls hX hB hE hK hZ hT hS hL
  refine kk l D cA ad base hAd p e s m args below meth c Z H locs ls hX hB hE hK hZ hT hS ?_
  subst hl
  have key : ∀ (is : List Nat) (L : List (Option Value)), g_LS ad L ls M.2.2.1 → g_LS ad (is.foldl (fun (L : List (Option Value)) (i : Nat) => L.set i none) L) ls M.2.2.1 := by
    intro is
    induction is with
    | nil => intro L hL; exact hL
    | cons i r ih =>
      intro L hL
      refine ih (L.set i none) (lv_less hL fun q hq => ?_)
      obtain ⟨k, w, h1, rfl⟩ := (g_ll_mem ad _ 0 q).mp hq
      refine (g_ll_mem ad L 0 _).mpr ⟨k, w, ?_, rfl⟩
      by_cases e : i = k
      · subst e
        rw [List.getElem?_set] at h1
        simp at h1
      · rw [List.getElem?_set_ne e] at h1
        exact h1
  exact key is L hL
theorem J_mono {Q' : Option Value → g_H → Prop} (hq : ∀ r h, Q' r h → Q r h) (kk : J M d mc ms u v pc L S h Q') : J M d mc ms u v pc L S h Q :=
  fun l D cA ad base hAd p e s m args below meth c Z H locs ls hX hB hE hK hZ hT hS hL => kk l D cA ad base hAd p e s m args below meth c Z H locs ls hX hB hE hK (fun r st h' pc' H' locs' ls' q => hZ r st h' pc' H' locs' ls' (hq r h' q)) hT hS hL
theorem J_iret {x : Int32} (hd : decode M.2.1 pc = .ok (.ireturn, 1)) (hr : M.2.2.2.1 = some .int) (hu : u = mc ∧ v ≤ ms) (hQ : Q (some (.int x)) h) : J M d mc ms u v pc L [.int x] h Q :=
  fun l D cA ad base hAd p e s m args below meth c Z H locs ls hX hB hE hK hZ hT hS hL => W.widen (Nat.le_of_eq hu.1) hu.2 (hZ (some (.int x)) [.int x] h pc H locs ls hQ (Or.inr (Or.inl ⟨x, rfl, rfl, Or.inl hr, hd⟩)) hT hS (hu.1 ▸ hE))
theorem J_zret {x : Int32} (hd : decode M.2.1 pc = .ok (.ireturn, 1)) (hr : M.2.2.2.1 = some .boolean) (hz : x = 0 ∨ x = 1) (hu : u = mc ∧ v ≤ ms) (hQ : Q (some (.int x)) h) : J M d mc ms u v pc L [.int x] h Q :=
  fun l D cA ad base hAd p e s m args below meth c Z H locs ls hX hB hE hK hZ hT hS hL => W.widen (Nat.le_of_eq hu.1) hu.2 (hZ (some (.int x)) [.int x] h pc H locs ls hQ (Or.inr (Or.inl ⟨x, rfl, rfl, Or.inr ⟨hr, hz⟩, hd⟩)) hT hS (hu.1 ▸ hE))
theorem J_lret {x : Int64} (hd : decode M.2.1 pc = .ok (.lreturn, 1)) (hr : M.2.2.2.1 = some .long) (hu : u = mc ∧ v ≤ ms) (hQ : Q (some (.long x)) h) : J M d mc ms u v pc L [.long x] h Q :=
  fun l D cA ad base hAd p e s m args below meth c Z H locs ls hX hB hE hK hZ hT hS hL => W.widen (Nat.le_of_eq hu.1) hu.2 (hZ (some (.long x)) [.long x] h pc H locs ls hQ (Or.inr (Or.inr ⟨x, rfl, rfl, hr, hd⟩)) hT hS (hu.1 ▸ hE))
theorem J_vret (hd : decode M.2.1 pc = .ok (.return_, 1)) (hr : M.2.2.2.1 = none) (hu : u = mc ∧ v ≤ ms) (hQ : Q none h) : J M d mc ms u v pc L [] h Q :=
  fun l D cA ad base hAd p e s m args below meth c Z H locs ls hX hB hE hK hZ hT hS hL => W.widen (Nat.le_of_eq hu.1) hu.2 (hZ none [] h pc H locs ls hQ (Or.inl ⟨rfl, rfl, hr, hd⟩) hT hS (hu.1 ▸ hE))

/-- a class of the run, by its number: its row in the table, its words, its fields' types -/
def g_cls (ci : Nat) (C : String) (T : u_T) (N : Nat) (ty : Nat → FieldType) : Prop := classes[ci]? = some (C, T, N) ∧ (∀ w ∈ u_ws C T N, w ∈ lw_gd) ∧ (∀ k, k < N → parseFieldDescriptor (T k).2.2.1 = some (ty k)) ∧ (∀ a, a < N → ∀ b, b < N → a ≠ b → (T a).2.1 ≠ (T b).2.1)
theorem J_get {ci idx a k : Nat} {C : String} {T : u_T} {N : Nat} {ty : Nat → FieldType} {fs : List Value} {x : Value} (hd : decode M.2.1 pc = .ok (.getfield idx, 3)) (hc : g_cls ci C T N ty) (hw : Cond.fieldLink M.1.cls idx (T k).1 (T k).2.1 (T k).2.2.1 ∈ lw_gd) (hk : k < N) (hcell : h.1 a = .inr (ci, fs)) (ha : 1 ≤ a ∧ a ≤ h.2) (hv : fs[k]? = some x) (kk : J M d mc ms u v (pc + 3) L (x :: S) h Q) : J M d mc ms u v pc L (.ref a :: S) h Q :=
  fun l D cA ad base hAd p e' s m args below meth c Z H locs ls hX hB hE hK hZ hT hS hL => va_get (ci := ci) (D := D) (fs := fs.map (g_cv ad)) (v := g_cv ad x) hX.1 hX.2.1 hX.2.2.2.2.1 hc.2.1 hX.2.2.2.1 hK.1 hT (a - 1) (by rw [g_ws_get cA ad h ha.1 ha.2, hcell]; rfl) hc.1 k hk (hX.2.2.2.2.1 _ hw) (fun _ q => q) (by rw [List.getElem?_map, hv]; rfl) hd (kk l D cA ad base hAd p e' s m args below meth c Z H locs ls hX hB hE hK hZ hT hS hL)
theorem J_put {ci idx a k : Nat} {C : String} {T : u_T} {N : Nat} {ty : Nat → FieldType} {fs fs' : List Value} {x : Value} (hd : decode M.2.1 pc = .ok (.putfield idx, 3)) (hc : g_cls ci C T N ty) (hw : Cond.fieldLink M.1.cls idx (T k).1 (T k).2.1 (T k).2.2.1 ∈ lw_gd) (hk : k < N) (hfin : (T k).2.2.2 = false) (hcell : h.1 a = .inr (ci, fs)) (ha : 1 ≤ a ∧ a ≤ h.2) (hl : k < fs.length) (hn : ∀ ad, narrow (ty k) (g_cv ad x) = g_cv ad x ∧ fits (ty k) (g_cv ad x) = true) (hf : fs.set k x = fs') (kk : J M d mc ms u v (pc + 3) L S (g_up h a (.inr (ci, fs'))) Q) : J M d mc ms u v pc L (x :: .ref a :: S) h Q := by
  intro l D cA ad base hAd p e' s m args below meth c Z H locs ls hX hB hE hK hZ hT hS hL
  subst hf
  refine va_put (ci := ci) (D := D) (A := fun q => base ≤ q) (H0 := s.heap) (fs := fs.map (g_cv ad)) (v := g_cv ad x) hX.1 hX.2.1 hX.2.2.2.2.1 hc.2.1 ty hc.2.2.1 hc.2.2.2 hX.2.2.2.1 hK.1 hT (g_D hAd h) hS (a - 1) (by rw [g_ws_get cA ad h ha.1 ha.2, hcell]; rfl) hc.1 k hk (hX.2.2.2.2.1 _ hw) (fun _ q => q) hfin (hc.2.2.1 k hk) (hn ad).1 (hn ad).2 (by rw [List.length_map]; exact hl) hd ?_
  intro H1 locs1 hP1 hD1 hS1
  have e : (ad a, (Sum.inr (ci, (fs.map (g_cv ad)).set k (g_cv ad x)) : va_E)) = (ad a, g_ce cA ad (.inr (ci, fs.set k x))) := by
    show _ = (ad a, (Sum.inr (ci, (fs.set k x).map (g_cv ad)) : va_E))
    rw [List.map_set]
  rw [e, g_ws_set cA ad h ha.1 ha.2] at hP1
  exact kk l D cA ad base hAd p e' s m args below meth c Z H1 locs1 ls hX hB hE hK hZ hP1 hS1 hL
theorem J_putF {ci idx a k : Nat} {C : String} {T : u_T} {N : Nat} {ty : Nat → FieldType} {fs fs' : List Value} {x : Value} (hd : decode M.2.1 pc = .ok (.putfield idx, 3)) (hc : g_cls ci C T N ty) (hw : Cond.fieldLink M.1.cls idx (T k).1 (T k).2.1 (T k).2.2.1 ∈ lw_gd) (hk : k < N) (hfin : (T k).2.2.2 = true) (hcell : h.1 a = .inr (ci, fs)) (ha : 1 ≤ a ∧ a ≤ h.2) (hl : k < fs.length) (hin : M.1.name = "<init>") (hdecl : (T k).1 = M.1.cls) (hn : ∀ ad, narrow (ty k) (g_cv ad x) = g_cv ad x ∧ fits (ty k) (g_cv ad x) = true) (hf : fs.set k x = fs') (kk : J M d mc ms u v (pc + 3) L S (g_up h a (.inr (ci, fs'))) Q) : J M d mc ms u v pc L (x :: .ref a :: S) h Q := by
  intro l D cA ad base hAd p e' s m args below meth c Z H locs ls hX hB hE hK hZ hT hS hL
  subst hf
  refine va_putF (ci := ci) (D := D) (A := fun q => base ≤ q) (H0 := s.heap) (fs := fs.map (g_cv ad)) (v := g_cv ad x) hX.1 hX.2.1 hX.2.2.2.2.1 hc.2.1 ty hc.2.2.1 hc.2.2.2 hX.2.2.2.1 hK.1 hT (g_D hAd h) hS (a - 1) (by rw [g_ws_get cA ad h ha.1 ha.2, hcell]; rfl) hc.1 k hk (hX.2.2.2.2.1 _ hw) (fun _ q => q) hfin (hX.2.2.2.2.2.1 hin) hdecl (hc.2.2.1 k hk) (hn ad).1 (hn ad).2 (by rw [List.length_map]; exact hl) hd ?_
  intro H1 locs1 hP1 hD1 hS1
  have e : (ad a, (Sum.inr (ci, (fs.map (g_cv ad)).set k (g_cv ad x)) : va_E)) = (ad a, g_ce cA ad (.inr (ci, fs.set k x))) := by
    show _ = (ad a, (Sum.inr (ci, (fs.set k x).map (g_cv ad)) : va_E))
    rw [List.map_set]
  rw [e, g_ws_set cA ad h ha.1 ha.2] at hP1
  exact kk l D cA ad base hAd p e' s m args below meth c Z H1 locs1 ls hX hB hE hK hZ hP1 hS1 hL

theorem g_size {cA : Nat → ClassId} {D : va_G} {ad : Nat → Nat} {base : Nat} {h : g_H} {s : State} {H : Heap} {locs : List Loc} {u : Nat} (hAd : ∀ k, ad (k + 1) = base + k) (hE : s.heap.size + u = base + h.2) (hB : base ≤ s.heap.size) (hT : g_T D cA ad h H) (hS : va_S (fun q => base ≤ q) s.heap H locs) (hz : H.size ≤ s.heap.size + u) : H.size = base + h.2 := by
  by_cases h0 : h.2 = 0
  · have := hS.1
    omega
  · have h1 := (hT (h.2 - 1) _ (g_ws_get cA ad h (a := h.2) (by omega) (Nat.le_refl _))).lt
    have h2 : ad h.2 = base + (h.2 - 1) := by
      have := hAd (h.2 - 1)
      rwa [Nat.sub_add_cancel (by omega)] at this
    have h3 : ad h.2 < H.size := h1
    omega
theorem J_iald {a n : Nat} {f : Nat → Int32} {i : Int32} (hd : decode M.2.1 pc = .ok (.iaload, 1)) (hcell : h.1 a = .inl (0, n, .inl f)) (ha : 1 ≤ a ∧ a ≤ h.2) (hi : vp_in i n) (kk : J M d mc ms u v (pc + 1) L (.int (f i.toNatClampNeg) :: S) h Q) : J M d mc ms u v pc L (.int i :: .ref a :: S) h Q :=
  fun l D cA ad base hAd p e' s m args below meth c Z H locs ls hX hB hE hK hZ hT hS hL => va_iald (D := D) (f := f) (n := n) (cA := cA 0) hX.1 hX.2.1 hK.1 hT (a - 1) 0 (by rw [g_ws_get cA ad h ha.1 ha.2, hcell]; rfl) rfl hi hd (kk l D cA ad base hAd p e' s m args below meth c Z H locs ls hX hB hE hK hZ hT hS hL)
theorem J_cald {a n : Nat} {f : Nat → Int32} {i : Int32} (hd : decode M.2.1 pc = .ok (.caload, 1)) (hcell : h.1 a = .inl (1, n, .inl f)) (ha : 1 ≤ a ∧ a ≤ h.2) (hi : vp_in i n) (kk : J M d mc ms u v (pc + 1) L (.int (f i.toNatClampNeg) :: S) h Q) : J M d mc ms u v pc L (.int i :: .ref a :: S) h Q :=
  fun l D cA ad base hAd p e' s m args below meth c Z H locs ls hX hB hE hK hZ hT hS hL => va_cald (D := D) (f := f) (n := n) (cA := cA 1) hX.1 hX.2.1 hK.1 hT (a - 1) 1 (by rw [g_ws_get cA ad h ha.1 ha.2, hcell]; rfl) rfl hi hd (kk l D cA ad base hAd p e' s m args below meth c Z H locs ls hX hB hE hK hZ hT hS hL)
theorem J_aald {a n : Nat} {f : Nat → Option Nat} {i : Int32} {b : Nat} (hd : decode M.2.1 pc = .ok (.aaload, 1)) (hcell : h.1 a = .inl (2, n, .inr (.inr (.inr (.inr f))))) (ha : 1 ≤ a ∧ a ≤ h.2) (hi : vp_in i n) (hb : f i.toNatClampNeg = some b) (kk : J M d mc ms u v (pc + 1) L (.ref b :: S) h Q) : J M d mc ms u v pc L (.int i :: .ref a :: S) h Q :=
  fun l D cA ad base hAd p e' s m args below meth c Z H locs ls hX hB hE hK hZ hT hS hL => va_aldq (D := D) (f := fun j => (f j).map ad) (n := n) (cA := cA 2) hX.1 hX.2.1 hK.1 hT (a - 1) 2 (by rw [g_ws_get cA ad h ha.1 ha.2, hcell]; rfl) rfl hi hd (by
    show W p l e' (g_rm d mc ms) s m args below meth c H locs u v Z (F0 m (pc + 1) ls (va_rf ((f i.toNatClampNeg).map ad) :: S.map (g_cv ad)))
    rw [hb]
    exact (kk l D cA ad base hAd p e' s m args below meth c Z H locs ls hX hB hE hK hZ hT hS hL))
theorem J_alen {a k : Nat} {x : vp_A} {y : Int32} (hd : decode M.2.1 pc = .ok (.arraylength, 1)) (hcell : h.1 a = .inl (k, x)) (hk : k < 3) (ha : 1 ≤ a ∧ a ≤ h.2) (hy : Int32.ofNat x.1 = y) (kk : J M d mc ms u v (pc + 1) L (.int y :: S) h Q) : J M d mc ms u v pc L (.ref a :: S) h Q := by
  intro l D cA ad base hAd p e' s m args below meth c Z H locs ls hX hB hE hK hZ hT hS hL
  have hcl : (g_ws cA ad h)[a - 1]? = some (ad a, .inl (cA k, g_ca ad x)) := by rw [g_ws_get cA ad h ha.1 ha.2, hcell]; rfl
  rcases (show k = 0 ∨ k = 1 ∨ k = 2 by omega) with rfl | rfl | rfl
  · exact va_alen (D := D) hX.1 hX.2.1 hK.1 hT (a - 1) 0 hcl rfl hy hd (kk l D cA ad base hAd p e' s m args below meth c Z H locs ls hX hB hE hK hZ hT hS hL)
  · exact va_alen (D := D) hX.1 hX.2.1 hK.1 hT (a - 1) 1 hcl rfl hy hd (kk l D cA ad base hAd p e' s m args below meth c Z H locs ls hX hB hE hK hZ hT hS hL)
  · exact va_alen (D := D) hX.1 hX.2.1 hK.1 hT (a - 1) 2 hcl rfl hy hd (kk l D cA ad base hAd p e' s m args below meth c Z H locs ls hX hB hE hK hZ hT hS hL)
theorem J_iast {a n : Nat} {f : Nat → Int32} {i x : Int32} (hd : decode M.2.1 pc = .ok (.iastore, 1)) (hcell : h.1 a = .inl (0, n, .inl f)) (ha : 1 ≤ a ∧ a ≤ h.2) (hi : vp_in i n) (kk : J M d mc ms u v (pc + 1) L S (g_up h a (.inl (0, n, .inl (upd f i.toNatClampNeg x)))) Q) : J M d mc ms u v pc L (.int x :: .int i :: .ref a :: S) h Q :=
  fun l D cA ad base hAd p e' s m args below meth c Z H locs ls hX hB hE hK hZ hT hS hL => va_iast (D := D) (f := f) (n := n) (cA := cA 0) hX.1 hX.2.1 hK.1 hT (g_D hAd h) hS (a - 1) 0 (by rw [g_ws_get cA ad h ha.1 ha.2, hcell]; rfl) rfl hi hd
    (fun H locs hP hD hS => kk l D cA ad base hAd p e' s m args below meth c Z H locs ls hX hB hE hK hZ (by
      have e := g_ws_set cA ad h ha.1 ha.2 (.inl (0, n, .inl (upd f i.toNatClampNeg x)))
      show va_P _ _ _ _
      rw [← e]
      exact hP) hS hL)
theorem J_cast {a n : Nat} {f : Nat → Int32} {i x : Int32} (hd : decode M.2.1 pc = .ok (.castore, 1)) (hcell : h.1 a = .inl (1, n, .inl f)) (ha : 1 ≤ a ∧ a ≤ h.2) (hi : vp_in i n) (kk : J M d mc ms u v (pc + 1) L S (g_up h a (.inl (1, n, .inl (upd f i.toNatClampNeg (vp_nar .char x))))) Q) : J M d mc ms u v pc L (.int x :: .int i :: .ref a :: S) h Q :=
  fun l D cA ad base hAd p e' s m args below meth c Z H locs ls hX hB hE hK hZ hT hS hL => va_cast (D := D) (f := f) (n := n) (cA := cA 1) hX.1 hX.2.1 hK.1 hT (g_D hAd h) hS (a - 1) 1 (by rw [g_ws_get cA ad h ha.1 ha.2, hcell]; rfl) rfl hi hd
    (fun H locs hP hD hS => kk l D cA ad base hAd p e' s m args below meth c Z H locs ls hX hB hE hK hZ (by
      have e := g_ws_set cA ad h ha.1 ha.2 (.inl (1, n, .inl (upd f i.toNatClampNeg (vp_nar .char x))))
      show va_P _ _ _ _
      rw [← e]
      exact hP) hS hL)
theorem J_aast {a n b : Nat} {f : Nat → Option Nat} {fs : List Value} {i : Int32} (hd : decode M.2.1 pc = .ok (.aastore, 1)) (hcell : h.1 a = .inl (2, n, .inr (.inr (.inr (.inr f))))) (ha : 1 ≤ a ∧ a ≤ h.2) (hi : vp_in i n) (hb : h.1 b = .inr (4, fs)) (hb2 : 1 ≤ b ∧ b ≤ h.2) (kk : J M d mc ms u v (pc + 1) L S (g_up h a (.inl (2, n, .inr (.inr (.inr (.inr (va_up f i.toNatClampNeg (some b)))))))) Q) : J M d mc ms u v pc L (.ref b :: .int i :: .ref a :: S) h Q :=
  fun l D cA ad base hAd p e' s m args below meth c Z H locs ls hX hB hE hK hZ hT hS hL => va_astq (D := D) (r := (RX4, TX4, 5)) (ci := 4) (vs := fs.map (g_cv ad)) (f := fun j => (f j).map ad) (n := n) (cA := cA 2) hX.1 hX.2.1 hK.1 hT (g_D hAd h) hS (a - 1) 2 (b - 1) (by rw [g_ws_get cA ad h ha.1 ha.2, hcell]; rfl) rfl (by rw [g_ws_get cA ad h hb2.1 hb2.2, hb]; rfl) rfl hi hd
    (fun H locs hP hD hS => kk l D cA ad base hAd p e' s m args below meth c Z H locs ls hX hB hE hK hZ (by
      have e := g_ws_set cA ad h ha.1 ha.2 (.inl (2, n, .inr (.inr (.inr (.inr (va_up f i.toNatClampNeg (some b)))))))
      have e2 : va_up (fun j => (f j).map ad) i.toNatClampNeg (some (ad b)) = fun j => (va_up f i.toNatClampNeg (some b) j).map ad := by
        funext j
        by_cases q : j = i.toNatClampNeg
        · simp [va_up, q]
        · simp [va_up, q]
      show va_P _ _ _ _
      rw [← e]
      rw [e2] at hP
      exact hP) hS hL)
theorem g_newat {cA : Nat → ClassId} {D : va_G} {ad : Nat → Nat} {base q : Nat} {h : g_H} {s : State} {H1 : Heap} {u : Nat} {x : va_E} (hAd : ∀ k, ad (k + 1) = base + k) (hE : s.heap.size + u = base + h.2) (hP : va_P D classes (g_ws cA ad h ++ [(q, x)]) H1) (hD : va_D (fun q => base ≤ q) (g_ws cA ad h ++ [(q, x)])) (hz : H1.size ≤ s.heap.size + (u + 1)) : q = ad (h.2 + 1) := by
  have hlen : (g_ws cA ad h).length = h.2 := by simp [g_ws]
  have hq : (g_ws cA ad h ++ [(q, x)])[h.2]? = some (q, x) := by rw [List.getElem?_append_right (by omega), hlen]; simp
  have h1 : q < H1.size := (hP h.2 _ hq).lt
  have h2 : base ≤ q := hD.2 h.2 _ hq
  rw [hAd]
  by_cases e : q = base + h.2
  · exact e
  · exfalso
    have hk : q - base + 1 ≤ h.2 := by omega
    have hg := g_ws_get cA ad h (a := q - base + 1) (by omega) hk
    rw [Nat.add_sub_cancel] at hg
    have hg2 : (g_ws cA ad h ++ [(q, x)])[q - base]? = some (ad (q - base + 1), g_ce cA ad (h.1 (q - base + 1))) := by
      rw [List.getElem?_append_left (by omega)]; exact hg
    have := hD.1 _ _ _ _ hg2 hq (by show ad (q - base + 1) = q; rw [hAd]; omega)
    omega
theorem J_new {ci idx : Nat} {C : String} {T : u_T} {N : Nat} {ty : Nat → FieldType} {fs : List Value} (hd : decode M.2.1 pc = .ok (.new idx, 3)) (hc : g_cls ci C T N ty) (hw : Cond.classLink M.1.cls idx C ∈ lw_gd) (hi : Cond.instantiable C N ∈ lw_gd) (hj : Cond.initialized C ∈ lw_gd) (hfs : ∀ j, j < N → ∀ ad, defaultValue (ty j) = vp_V (fs.map (g_cv ad)) j) (hu : u + 1 ≤ mc ∧ v + N ≤ ms) (kk : J M d mc ms (u + 1) (v + N) (pc + 3) L (.ref (h.2 + 1) :: S) (g_push h (.inr (ci, fs))) Q) : J M d mc ms u v pc L S h Q := by
  intro l D cA ad base hAd p e' s m args below meth c Z H locs ls hX hB hE hK hZ hT hS hL
  refine va_new (ci := ci) (D := D) (A := fun q => base ≤ q) (H0 := s.heap) (fs := fs.map (g_cv ad)) hX.1 hX.2.1 hX.2.2.2.2.1 hc.2.1 ty hc.2.2.1 hX.2.2.2.1 (hX.2.2.2.2.1 _ hw) (hX.2.2.2.2.1 _ hi) (hX.2.2.2.2.1 _ hj) hK.1 hT (g_D hAd h) hS (fun q z => Nat.le_trans hB z) hc.1 (fun j hj => hfs j hj ad) hu.1 hu.2 hd ?_
  intro q H1 hP hD hS T0 hT0 X0
  have hz := X0.heapSize
  rw [hT0] at hz
  have hq := g_newat hAd hE hP hD hz
  subst hq
  refine kk l D cA ad base hAd p e' s m args below meth c Z H1 locs ls hX hB (by rw [g_push_2]; omega) hK hZ ?_ hS hL T0 hT0 X0
  show va_P _ _ _ _
  rw [g_ws_push]
  exact hP
theorem J_newi {k : Nat} {n : Int32} {N : Nat} (atype : ArrayType) (hk : (atype = .int ∧ k = 0) ∨ (atype = .char ∧ k = 1)) (hd : decode M.2.1 pc = .ok (.newarray atype, 2)) (hw : Cond.arrayClass (newarray.typeOf atype) ∈ lw_gd) (hn : ¬ n < 0) (hN : n.toNatClampNeg = N) (hb : N ≤ 100000) (hu : u + 1 ≤ mc ∧ v + N ≤ ms) (kk : J M d mc ms (u + 1) (v + N) (pc + 2) L (.ref (h.2 + 1) :: S) (g_push h (.inl (k, N, .inl (fun _ => 0)))) Q) : J M d mc ms u v pc L (.int n :: S) h Q := by
  intro l D cA ad base hAd p e' s m args below meth c Z H locs ls hX hB hE hK hZ hT hS hL
  have fin : ∀ (q : Nat) (cA' : ClassId) (H1 : Heap), cA' = cA k → va_P D classes (g_ws cA ad h ++ [(q, .inl (cA', N, .inl (fun _ => 0)))]) H1 → va_D (fun q => base ≤ q) (g_ws cA ad h ++ [(q, .inl (cA', N, .inl (fun _ => 0)))]) → va_S (fun q => base ≤ q) s.heap H1 locs →
      W p l e' (g_rm d mc ms) s m args below meth c H1 locs (u + 1) (v + N) Z (F0 m (pc + 2) ls (.ref q :: S.map (g_cv ad))) := by
    intro q cA' H1 hcA hP hD hS T0 hT0 X0
    subst hcA
    have hz := X0.heapSize
    rw [hT0] at hz
    have hq := g_newat hAd hE hP hD hz
    subst hq
    refine kk l D cA ad base hAd p e' s m args below meth c Z H1 locs ls hX hB (by rw [g_push_2]; omega) hK hZ ?_ hS hL T0 hT0 X0
    show va_P _ _ _ _
    rw [g_ws_push]
    exact hP
  rcases hk with ⟨rfl, rfl⟩ | ⟨rfl, rfl⟩
  · refine va_newa (ty := .int) (D := D) (A := fun q => base ≤ q) (H0 := s.heap) (a0 := (N, .inl (fun _ => 0))) hX.1 hX.2.1 (hX.2.2.2.2.1 _ hw) rfl hK.1 hT (g_D hAd h) hS (fun q z => Nat.le_trans hB z) (fun _ => rfl) hn hN (by show N * 4 ≤ 536870912; omega) hu.1 hu.2 hd ?_
    intro q cA' H1 hK1 hP hD hS
    refine fin q cA' H1 ?_ hP hD hS
    have e1 : s.vm.findClass _ = some cA' := (hK1.2 3 (cA', .int) rfl).2
    have e2 : s.vm.findClass _ = some (cA 0) := (hK.1.2 0 (cA 0, .int) rfl).2
    exact Option.some.inj (e1.symm.trans e2)
  · refine va_newa (ty := .char) (D := D) (A := fun q => base ≤ q) (H0 := s.heap) (a0 := (N, .inl (fun _ => 0))) hX.1 hX.2.1 (hX.2.2.2.2.1 _ hw) rfl hK.1 hT (g_D hAd h) hS (fun q z => Nat.le_trans hB z) (fun _ => rfl) hn hN (by show N * 2 ≤ 536870912; omega) hu.1 hu.2 hd ?_
    intro q cA' H1 hK1 hP hD hS
    refine fin q cA' H1 ?_ hP hD hS
    have e1 : s.vm.findClass _ = some cA' := (hK1.2 3 (cA', .char) rfl).2
    have e2 : s.vm.findClass _ = some (cA 1) := (hK.1.2 1 (cA 1, .char) rfl).2
    exact Option.some.inj (e1.symm.trans e2)
theorem J_newq {idx : Nat} {n : Int32} {N : Nat} (hd : decode M.2.1 pc = .ok (.anewarray idx, 3)) (hw : Cond.classLink M.1.cls idx "LivedLinks$Links" ∈ lw_gd) (hn : ¬ n < 0) (hN : n.toNatClampNeg = N) (hb : N ≤ 100000) (hu : u + 1 ≤ mc ∧ v + N ≤ ms) (kk : J M d mc ms (u + 1) (v + N) (pc + 3) L (.ref (h.2 + 1) :: S) (g_push h (.inl (2, N, .inr (.inr (.inr (.inr (fun _ => none))))))) Q) : J M d mc ms u v pc L (.int n :: S) h Q := by
  intro l D cA ad base hAd p e' s m args below meth c Z H locs ls hX hB hE hK hZ hT hS hL
  refine va_newq (C := "LivedLinks$Links") (D := D) (A := fun q => base ≤ q) (H0 := s.heap) hX.1 hX.2.1 hX.2.2.2.1 (hX.2.2.2.2.1 _ hw) hK.2.1 hK.1 hT (g_D hAd h) hS (fun q z => Nat.le_trans hB z) hn hN (by omega) hu.1 hu.2 hd ?_
  intro q cA' H1 hK1 hP hD hS T0 hT0 X0
  have e1 := (hK1.2 3 (cA', .object "LivedLinks$Links") rfl).2
  have e2 := (hK.1.2 2 (cA 2, .object "LivedLinks$Links") rfl).2
  obtain ⟨_, _, _, _, _, e1⟩ := e1
  obtain ⟨_, _, _, _, _, e2⟩ := e2
  have hcA : cA' = cA 2 := Option.some.inj (e1.symm.trans e2)
  subst hcA
  have hz := X0.heapSize
  rw [hT0] at hz
  have hq := g_newat hAd hE hP hD hz
  subst hq
  refine kk l D cA ad base hAd p e' s m args below meth c Z H1 locs ls hX hB (by rw [g_push_2]; omega) hK hZ ?_ hS hL T0 hT0 X0
  show va_P _ _ _ _
  rw [g_ws_push]
  exact hP
theorem J_objInit {a idx : Nat} (hd : decode M.2.1 pc = .ok (.invokespecial idx, 3)) (hw : Cond.methodLink M.1.cls idx objectInit ∈ lw_gd) (hw2 : Cond.instanceMethod objectInit ∈ lw_gd) (hw3 : Cond.code objectInit ⟨#[0xb1]⟩ 1 none ∈ lw_gd) (hr : 1 ≤ d) (hs : (S.map fun v => v.category).sum ≤ 8) (kk : J M d mc ms u v (pc + 3) L S h Q) : J M d mc ms u v pc L (.ref a :: S) h Q := by
  intro l D cA ad base hAd p e' s m args below meth c Z H locs ls hX hB hE hK hZ hT hS hL
  have hs2 : ((S.map (g_cv ad)).map fun v => v.category).sum = (S.map fun v => v.category).sum := by
    rw [List.map_map]; congr 1; exact List.map_congr_left (fun v _ => g_cat ad v)
  exact W.objInit hX.1 hX.2.1 hX.2.2.2.1 (hX.2.2.2.2.1 _ hw) (hX.2.2.2.2.1 _ hw2) (hX.2.2.2.2.1 _ hw3) rfl (by rw [hX.2.2.1]; exact hL.1) rfl hd hr (by show 2 * 0 + _ + 12 ≤ 36 * d; rw [hs2]; omega) (kk l D cA ad base hAd p e' s m args below meth c Z H locs ls hX hB hE hK hZ hT hS hL)
theorem J_mmax {idx : Nat} {x y : Int32} (hd : decode M.2.1 pc = .ok (.invokestatic idx, 3)) (hw : Cond.methodLink M.1.cls idx Lib.Math.max.name ∈ lw_gd) (hw2 : Cond.static Lib.Math.max.name ∈ lw_gd ∧ Cond.initialized "java/lang/Math" ∈ lw_gd ∧ Cond.code Lib.Math.max.name Lib.Math.max.code 2 (some .int) ∈ lw_gd) (hr : 1 ≤ d) (hs : (S.map fun v => v.category).sum ≤ 8) (hu : u ≤ mc ∧ v ≤ ms) (kk : J M d mc ms u v (pc + 3) L (.int (if x < y then y else x) :: S) h Q) : J M d mc ms u v pc L (.int y :: .int x :: S) h Q := by
  intro l D cA ad base hAd p e' s m args below meth c Z H locs ls hX hB hE hK hZ hT hS hL
  have hs2 : ((S.map (g_cv ad)).map fun v => v.category).sum = (S.map fun v => v.category).sum := by
    rw [List.map_map]; congr 1; exact List.map_congr_left (fun v _ => g_cat ad v)
  exact va_mmax hX.1 hX.2.1 (by rw [hX.2.2.1]; exact hL.1.symm) hX.2.2.2.1 (hX.2.2.2.2.1 _ hw) (hX.2.2.2.2.1 _ hw2.1) (hX.2.2.2.2.1 _ hw2.2.1) (hX.2.2.2.2.1 _ hw2.2.2) hr (by show _ + 13 ≤ 36 * d; rw [hs2]; omega) hu.1 hu.2 hd (kk l D cA ad base hAd p e' s m args below meth c Z H locs ls hX hB hE hK hZ hT hS hL)
theorem J_mmin {idx : Nat} {x y : Int32} (hd : decode M.2.1 pc = .ok (.invokestatic idx, 3)) (hw : Cond.methodLink M.1.cls idx Lib.Math.min.name ∈ lw_gd) (hw2 : Cond.static Lib.Math.min.name ∈ lw_gd ∧ Cond.initialized "java/lang/Math" ∈ lw_gd ∧ Cond.code Lib.Math.min.name Lib.Math.min.code 2 (some .int) ∈ lw_gd) (hr : 1 ≤ d) (hs : (S.map fun v => v.category).sum ≤ 8) (hu : u ≤ mc ∧ v ≤ ms) (kk : J M d mc ms u v (pc + 3) L (.int (if y < x then y else x) :: S) h Q) : J M d mc ms u v pc L (.int y :: .int x :: S) h Q := by
  intro l D cA ad base hAd p e' s m args below meth c Z H locs ls hX hB hE hK hZ hT hS hL
  have hs2 : ((S.map (g_cv ad)).map fun v => v.category).sum = (S.map fun v => v.category).sum := by
    rw [List.map_map]; congr 1; exact List.map_congr_left (fun v _ => g_cat ad v)
  exact va_mmin hX.1 hX.2.1 (by rw [hX.2.2.1]; exact hL.1.symm) hX.2.2.2.1 (hX.2.2.2.2.1 _ hw) (hX.2.2.2.2.1 _ hw2.1) (hX.2.2.2.2.1 _ hw2.2.1) (hX.2.2.2.2.1 _ hw2.2.2) hr (by show _ + 13 ≤ 36 * d; rw [hs2]; omega) hu.1 hu.2 hd (kk l D cA ad base hAd p e' s m args below meth c Z H locs ls hX hB hE hK hZ hT hS hL)
/-! calls -/
theorem g_call {D : va_G} {cA : Nat → ClassId} {ad : Nat → Nat} {base n' : Nat} {p : Program} {l : Launch} {e : Env} {R : Room} {s : State} {m : MethodId} {args a : Array Value} {below : List Frame} {meth : Method} {c : Code} {H : Heap} {locs : List Loc} {cells slots mc ms pc : Nat} {Z : State → Prop} {ls : Array Slot} {st0 rest : List Value} {Q : Option Value → g_H → Prop}
    (hr : va_Run p l e R s m args below meth c H locs cells slots mc ms (F0 m pc ls st0) rest (g_Qc D cA ad base n' Q a) (fun q => base ≤ q)) (hS : va_S (fun q => base ≤ q) s.heap H locs)
    (kk : ∀ (r : Option Value) (h' : g_H) (H1 : Heap) (locs1 : List Loc), Q r h' → h'.2 = n' → g_T D cA ad h' H1 → va_S (fun q => base ≤ q) s.heap H1 locs1 → W p l e R s m args below meth c H1 locs1 (cells + mc) (slots + ms) Z (F0 m (pc + 3) ls ((r.map (g_cv ad)).toList ++ rest))) : W p l e R s m args below meth c H locs cells slots Z (F0 m pc ls st0) := by
  intro T hT X
  obtain ⟨v, st₀, t, T', L, h0, X', hL, e1, e2, ⟨⟨r, h', hv, hq, hn, ht, -⟩, hz, hk⟩, st⟩ := hr T hT X
  cases hv
  rw [h0] at hz hk
  obtain ⟨t2, a1, b1⟩ := kk r h' T'.heap (locs ++ L) hq hn (by rw [e1]; exact ht)
    ⟨Nat.le_trans hS.1 (by rw [e1]; exact hz), fun q h1 h2 => by rw [e1, hk q (Nat.lt_of_lt_of_le h1 hS.1) h2]; exact hS.2.1 q h1 h2, fun q hq => by
      rcases List.mem_append.mp hq with h | h
      · exact hS.2.2 q h
      · exact hL q h⟩ T' rfl X'
  exact ⟨t2, st t2 a1, b1⟩
/-- a method of the run: its words, its parameters -/
def g_mth (M : g_M) (n : Nat) : Prop := Cond.code M.1 M.2.1 M.2.2.1 M.2.2.2.1 ∈ lw_gd ∧ Cond.initialized M.1.cls ∈ lw_gd ∧ M.1.cls ≠ "java/lang/invoke/MethodHandle" ∧ M.1.cls ≠ "java/lang/invoke/VarHandle" ∧ (parseMethodDescriptor M.1.desc).map (fun d => d.parameters.length) = some n ∧ M.2.2.1 ≤ 17
theorem g_ws_ok {s : State} {args : Array Value} (hts : ∀ w ∈ lw_gd, w.before args s = true) {n : Nat} (hm : g_mth M n) : ∀ w ∈ g_w M, ∀ (a' : Array Value) (U : State), s.WarmedH U.vm → w.before a' U = true := by
  have hg : GoodIn lw_gd (g_w M) := fun w hw => by
    rcases List.mem_cons.mp hw with rfl | hw
    · exact ⟨hm.1, good_of_word (List.mem_filter.mp hm.1).2⟩
    · exact ⟨hw, good_of_word (List.mem_filter.mp hw).2⟩
  exact pay_in hts hg
theorem g_callB {idx n : Nat} {s : State} {args : Array Value} (hts : ∀ w ∈ lw_gd, w.before args s = true) (hm : g_mth M' n) (hw : Cond.methodLink M.1.cls idx M'.1 ∈ lw_gd) (hr : d' + 1 ≤ d) : CallB (g_rm d mc ms) s args M.1.cls idx M'.1 M'.2.1 M'.2.2.1 M'.2.2.2.1 (g_w M') (g_rm d' mc' ms') mc' ms' n := by
  refine ⟨rfl, rfl, hr, ?_, g_ws_ok hts hm, List.mem_cons_self, hts _ hm.1, hts _ hm.2.1, ⟨hm.2.2.1, hm.2.2.2.1⟩, fun sig h => ?_, hts _ hw⟩
  · show 8 + (M'.2.2.1 + 11) + 36 * d' ≤ 36 * d
    have := hm.2.2.2.2.2
    omega
  · have h2 := hm.2.2.2.2.1
    rw [h] at h2
    exact (Option.some.inj h2).symm
theorem g_callN {idx n : Nat} {host : String} {s : State} {args : Array Value} (hts : ∀ w ∈ lw_gd, w.before args s = true) (hm : g_mth M' n) (hw : (Cond.methodLinkNest M.1.cls idx M'.1 host).before args s = true) (hr : d' + 1 ≤ d) : va_CN (g_rm d mc ms) s args M.1.cls idx M'.1 host M'.2.1 M'.2.2.1 M'.2.2.2.1 (g_w M') (g_rm d' mc' ms') mc' ms' n := by
  refine ⟨⟨rfl, rfl, hr, ?_, g_ws_ok hts hm, List.mem_cons_self⟩, hts _ hm.1, hts _ hm.2.1, ⟨hm.2.2.1, hm.2.2.2.1⟩, fun sig h => ?_, hw⟩
  · show 8 + (M'.2.2.1 + 11) + 36 * d' ≤ 36 * d
    have := hm.2.2.2.2.2
    omega
  · have h2 := hm.2.2.2.2.1
    rw [h] at h2
    exact (Option.some.inj h2).symm
theorem g_monroom {m : MethodId} {ls : Array Slot} {st rest : List Value} {ad : Nat → Nat} (hs : (rest.map fun v => v.category).sum ≤ 8) : 2 * (F0 m pc ls st).monitorRoom + ((rest.map (g_cv ad)).map fun v => v.category).sum ≤ 8 := by
  have hs2 : ((rest.map (g_cv ad)).map fun v => v.category).sum = (rest.map fun v => v.category).sum := by
    rw [List.map_map]; congr 1; exact List.map_congr_left (fun v _ => g_cat ad v)
  rw [hs2]
  show 2 * 0 + _ ≤ 8
  omega

theorem J_callV {idx n : Nat} {As rest : List Value} {a : Nat} {ci NN : Nat} {TT : u_T} {fs : List Value} (hd : decode M.2.1 pc = .ok (.invokevirtual idx, 3)) (hw : Cond.methodLink M.1.cls idx M'.1 ∈ lw_gd) (hm : g_mth M' n) (hv : Cond.instanceMethod M'.1 ∈ lw_gd ∧ Cond.selects M'.1.cls M'.1 M'.1 ∈ lw_gd) (hcell : h.1 a = .inr (ci, fs)) (ha : 1 ≤ a ∧ a ≤ h.2) (hcl : classes[ci]? = some (M'.1.cls, TT, NN)) (hn : As.length = n) (hst : S = As.reverse ++ .ref a :: rest) (hs : (rest.map fun v => v.category).sum ≤ 8) (hr : d' + 1 ≤ d) (hu : u + mc' = u' ∧ v + ms' = v' ∧ u' ≤ mc ∧ v' ≤ ms) (kk : MJ M' d' mc' ms' (.ref a :: As) h (fun r h' => J M d mc ms u' v' (pc + 3) L (r.toList ++ rest) h' Q)) : J M d mc ms u v pc L S h Q := by
  intro l D cA ad base hAd p e' s m args below meth c Z H locs ls hX hB hE hK hZ hT hS hL
  obtain ⟨rfl, rfl, hu1, hu2⟩ := hu
  subst hst
  intro T0 hT0 X0
  have hz := X0.heapSize
  rw [hT0] at hz
  have hz2 := g_size hAd hE hB hT hS hz
  refine g_call (a := ((.ref a :: As).map (g_cv ad)).toArray) (n' := h.2 + mc') (rest := rest.map (g_cv ad)) (va_runV (C := M'.1.cls) (b := ad a) (As := As.map (g_cv ad)) (rest := rest.map (g_cv ad)) ⟨hX.1, hX.2.1, hX.2.2.1, hX.2.2.2.1, hX.2.2.2.2.1⟩ (kk l D cA ad base hAd) ⟨g_callB hX.2.2.2.2.1 hm hw hr, hX.2.2.2.2.1 _ hv.1, hX.2.2.2.2.1 _ hv.2⟩ ⟨g_blind, va_recv hK.1 hT hcl (q0 := a - 1) (fs := fs.map (g_cv ad)) (by rw [g_ws_get cA ad h ha.1 ha.2, hcell]; rfl), fun U hU hW => ⟨by rfl, by rw [hU]; exact hz2, by rw [hU]; exact hT, hK.moved hW⟩⟩ rfl (by rw [List.length_map]; exact hn) hL.1 (by show List.map _ _ = _; simp [g_cv]) (g_monroom hs) hd ⟨hu1, hu2⟩) hS ?_ T0 hT0 X0
  intro r h' H1 locs1 hq hn' hT' hS'
  have hq2 := hq l D cA ad base hAd p e' s m args below meth c Z H1 locs1 ls hX hB (by rw [hn']; omega) hK hZ hT' hS' hL
  cases r with
  | none => exact hq2
  | some x => exact hq2
theorem J_callS {idx n : Nat} {As rest : List Value} (hd : decode M.2.1 pc = .ok (.invokestatic idx, 3)) (hw : Cond.methodLink M.1.cls idx M'.1 ∈ lw_gd) (hm : g_mth M' n) (hv : Cond.static M'.1 ∈ lw_gd) (hn : As.length = n) (hst : S = As.reverse ++ rest) (hs : (rest.map fun v => v.category).sum ≤ 8) (hr : d' + 1 ≤ d) (hu : u + mc' = u' ∧ v + ms' = v' ∧ u' ≤ mc ∧ v' ≤ ms) (kk : MJ M' d' mc' ms' As h (fun r h' => J M d mc ms u' v' (pc + 3) L (r.toList ++ rest) h' Q)) : J M d mc ms u v pc L S h Q := by
  intro l D cA ad base hAd p e' s m args below meth c Z H locs ls hX hB hE hK hZ hT hS hL
  obtain ⟨rfl, rfl, hu1, hu2⟩ := hu
  subst hst
  intro T0 hT0 X0
  have hz := X0.heapSize
  rw [hT0] at hz
  have hz2 := g_size hAd hE hB hT hS hz
  refine g_call (a := (As.map (g_cv ad)).toArray) (n' := h.2 + mc') (rest := rest.map (g_cv ad)) (va_runS (As := As.map (g_cv ad)) (rest := rest.map (g_cv ad)) ⟨hX.1, hX.2.1, hX.2.2.1, hX.2.2.2.1, hX.2.2.2.2.1⟩ (kk l D cA ad base hAd) ⟨g_callB hX.2.2.2.2.1 hm hw hr, hX.2.2.2.2.1 _ hv⟩ ⟨g_blind, fun U hU hW => ⟨by rfl, by rw [hU]; exact hz2, by rw [hU]; exact hT, hK.moved hW⟩⟩ rfl (by rw [List.length_map]; exact hn) hL.1 (by show List.map _ _ = _; simp [g_cv]) (g_monroom hs) hd ⟨hu1, hu2⟩) hS ?_ T0 hT0 X0
  intro r h' H1 locs1 hq hn' hT' hS'
  have hq2 := hq l D cA ad base hAd p e' s m args below meth c Z H1 locs1 ls hX hB (by rw [hn']; omega) hK hZ hT' hS' hL
  cases r with
  | none => exact hq2
  | some x => exact hq2
theorem J_callSN {idx n : Nat} {As rest : List Value} {host : String} (hd : decode M.2.1 pc = .ok (.invokestatic idx, 3)) (hw : (M.1.cls, idx, M'.1, host) ∈ lw_nest) (hm : g_mth M' n) (hv : Cond.static M'.1 ∈ lw_gd) (hn : As.length = n) (hst : S = As.reverse ++ rest) (hs : (rest.map fun v => v.category).sum ≤ 8) (hr : d' + 1 ≤ d) (hu : u + mc' = u' ∧ v + ms' = v' ∧ u' ≤ mc ∧ v' ≤ ms) (kk : MJ M' d' mc' ms' As h (fun r h' => J M d mc ms u' v' (pc + 3) L (r.toList ++ rest) h' Q)) : J M d mc ms u v pc L S h Q := by
  intro l D cA ad base hAd p e' s m args below meth c Z H locs ls hX hB hE hK hZ hT hS hL
  obtain ⟨rfl, rfl, hu1, hu2⟩ := hu
  subst hst
  intro T0 hT0 X0
  have hz := X0.heapSize
  rw [hT0] at hz
  have hz2 := g_size hAd hE hB hT hS hz
  refine g_call (a := (As.map (g_cv ad)).toArray) (n' := h.2 + mc') (rest := rest.map (g_cv ad)) (va_runSN (As := As.map (g_cv ad)) (rest := rest.map (g_cv ad)) ⟨hX.1, hX.2.1, hX.2.2.1, hX.2.2.2.1, hX.2.2.2.2.1⟩ (kk l D cA ad base hAd) ⟨g_callN hX.2.2.2.2.1 hm (va_Nw.use rfl (hK.2.2 _ hw)) hr, hX.2.2.2.2.1 _ hv, trivial⟩ ⟨g_blind, fun U hU hW => ⟨by rfl, by rw [hU]; exact hz2, by rw [hU]; exact hT, hK.moved hW⟩⟩ rfl (by rw [List.length_map]; exact hn) hL.1 (by show List.map _ _ = _; simp [g_cv]) (g_monroom hs) hd ⟨hu1, hu2⟩) hS ?_ T0 hT0 X0
  intro r h' H1 locs1 hq hn' hT' hS'
  have hq2 := hq l D cA ad base hAd p e' s m args below meth c Z H1 locs1 ls hX hB (by rw [hn']; omega) hK hZ hT' hS' hL
  cases r with
  | none => exact hq2
  | some x => exact hq2
theorem J_callI {idx n : Nat} {As rest : List Value} {a : Nat} (hd : decode M.2.1 pc = .ok (.invokespecial idx, 3)) (hw : Cond.methodLink M.1.cls idx M'.1 ∈ lw_gd) (hm : g_mth M' n) (hv : M'.1.name = "<init>" ∧ Cond.instanceMethod M'.1 ∈ lw_gd) (hret : M'.2.2.2.1 = none) (hn : As.length = n) (hst : S = As.reverse ++ .ref a :: rest) (hs : (rest.map fun v => v.category).sum ≤ 8) (hr : d' + 1 ≤ d) (hu : u + mc' = u' ∧ v + ms' = v' ∧ u' ≤ mc ∧ v' ≤ ms) (kk : MJ M' d' mc' ms' (.ref a :: As) h (fun r h' => J M d mc ms u' v' (pc + 3) L (r.toList ++ rest) h' Q)) : J M d mc ms u v pc L S h Q := by
  intro l D cA ad base hAd p e' s m args below meth c Z H locs ls hX hB hE hK hZ hT hS hL
  obtain ⟨rfl, rfl, hu1, hu2⟩ := hu
  subst hst
  intro T0 hT0 X0
  have hz := X0.heapSize
  rw [hT0] at hz
  have hz2 := g_size hAd hE hB hT hS hz
  have cb : CallB (g_rm d mc ms) s args M.1.cls idx M'.1 M'.2.1 M'.2.2.1 none (g_w M') (g_rm d' mc' ms') mc' ms' n := hret ▸ g_callB (d := d) (mc := mc) (ms := ms) (mc' := mc') (ms' := ms') hX.2.2.2.2.1 hm hw hr
  refine g_call (a := ((.ref a :: As).map (g_cv ad)).toArray) (n' := h.2 + mc') (rest := rest.map (g_cv ad)) (va_runI (b := ad a) (As := As.map (g_cv ad)) (rest := rest.map (g_cv ad)) ⟨hX.1, hX.2.1, hX.2.2.1, hX.2.2.2.1, hX.2.2.2.2.1⟩ (kk l D cA ad base hAd) ⟨cb, hv.1, hX.2.2.2.2.1 _ hv.2⟩ ⟨g_blind, fun U hU hW => ⟨by rfl, by rw [hU]; exact hz2, by rw [hU]; exact hT, hK.moved hW⟩⟩ rfl (by rw [List.length_map]; exact hn) hL.1 (by show List.map _ _ = _; simp [g_cv]) (g_monroom hs) hd ⟨hu1, hu2⟩) hS ?_ T0 hT0 X0
  intro r h' H1 locs1 hq hn' hT' hS'
  have hq2 := hq l D cA ad base hAd p e' s m args below meth c Z H1 locs1 ls hX hB (by rw [hn']; omega) hK hZ hT' hS' hL
  cases r with
  | none => exact hq2
  | some x => exact hq2
theorem J_callIN {idx n : Nat} {As rest : List Value} {host : String} {a : Nat} (hd : decode M.2.1 pc = .ok (.invokespecial idx, 3)) (hw : (M.1.cls, idx, M'.1, host) ∈ lw_nest) (hm : g_mth M' n) (hv : M'.1.name = "<init>" ∧ Cond.instanceMethod M'.1 ∈ lw_gd) (hret : M'.2.2.2.1 = none) (hn : As.length = n) (hst : S = As.reverse ++ .ref a :: rest) (hs : (rest.map fun v => v.category).sum ≤ 8) (hr : d' + 1 ≤ d) (hu : u + mc' = u' ∧ v + ms' = v' ∧ u' ≤ mc ∧ v' ≤ ms) (kk : MJ M' d' mc' ms' (.ref a :: As) h (fun r h' => J M d mc ms u' v' (pc + 3) L (r.toList ++ rest) h' Q)) : J M d mc ms u v pc L S h Q := by
  intro l D cA ad base hAd p e' s m args below meth c Z H locs ls hX hB hE hK hZ hT hS hL
  obtain ⟨rfl, rfl, hu1, hu2⟩ := hu
  subst hst
  intro T0 hT0 X0
  have hz := X0.heapSize
  rw [hT0] at hz
  have hz2 := g_size hAd hE hB hT hS hz
  have cb : va_CN (g_rm d mc ms) s args M.1.cls idx M'.1 host M'.2.1 M'.2.2.1 none (g_w M') (g_rm d' mc' ms') mc' ms' n := hret ▸ g_callN (d := d) (mc := mc) (ms := ms) (mc' := mc') (ms' := ms') hX.2.2.2.2.1 hm (va_Nw.use rfl (hK.2.2 _ hw)) hr
  refine g_call (a := ((.ref a :: As).map (g_cv ad)).toArray) (n' := h.2 + mc') (rest := rest.map (g_cv ad)) (va_runIN (b := ad a) (As := As.map (g_cv ad)) (rest := rest.map (g_cv ad)) ⟨hX.1, hX.2.1, hX.2.2.1, hX.2.2.2.1, hX.2.2.2.2.1⟩ (kk l D cA ad base hAd) ⟨cb, hv.1, hX.2.2.2.2.1 _ hv.2⟩ ⟨g_blind, fun U hU hW => ⟨by rfl, by rw [hU]; exact hz2, by rw [hU]; exact hT, hK.moved hW⟩⟩ rfl (by rw [List.length_map]; exact hn) hL.1 (by show List.map _ _ = _; simp [g_cv]) (g_monroom hs) hd ⟨hu1, hu2⟩) hS ?_ T0 hT0 X0
  intro r h' H1 locs1 hq hn' hT' hS'
  have hq2 := hq l D cA ad base hAd p e' s m args below meth c Z H1 locs1 ls hX hB (by rw [hn']; omega) hK hZ hT' hS' hL
  cases r with
  | none => exact hq2
  | some x => exact hq2
end GJ
