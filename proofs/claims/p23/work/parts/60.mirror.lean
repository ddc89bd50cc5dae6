/-! sums, greatest and least values -/
theorem sumN_mono {f g : Nat → Nat} : ∀ {n : Nat}, (∀ k, k < n → f k ≤ g k) → sumN f n ≤ sumN g n
  | 0, _ => Nat.le_refl _
  | n + 1, h => Nat.add_le_add (sumN_mono (fun k hk => h k (Nat.lt_succ_of_lt hk))) (h n (Nat.lt_succ_self n))
theorem sumN_app (f : Nat → Nat) (a : Nat) : ∀ b, sumN f (a + b) = sumN f a + sumN (fun i => f (a + i)) b
  | 0 => rfl
  | b + 1 => by
    show sumN f (a + b) + f (a + b) = sumN f a + (sumN (fun i => f (a + i)) b + f (a + b))
    rw [sumN_app f a b]; omega
theorem sumN_z : ∀ {n : Nat} {f : Nat → Nat}, (∀ k, k < n → f k = 0) → sumN f n = 0
  | 0, _, _ => rfl
  | n + 1, f, h => by
    show sumN f n + f n = 0
    rw [sumN_z (fun k hk => h k (Nat.lt_succ_of_lt hk)), h n (Nat.lt_succ_self n)]
theorem sumN_only {f : Nat → Nat} {n l : Nat} (hl : l < n) (h : ∀ k, k < n → k ≠ l → f k = 0) : sumN f n = f l := by
  obtain ⟨r, rfl⟩ : ∃ r, n = l + 1 + r := ⟨n - (l + 1), by omega⟩
  rw [sumN_app, sumN_z (f := fun i => f (l + 1 + i)) (fun k hk => h _ (by omega) (by omega))]
  show sumN f l + f l + 0 = f l
  rw [sumN_z (fun k hk => h k (by omega) (by omega))]; omega
theorem sumN_swap (g : Nat → Nat → Nat) (k : Nat) : ∀ n, sumN (fun m => sumN (g m) k) n = sumN (fun d => sumN (fun m => g m d) n) k
  | 0 => (sumN_z (fun _ _ => rfl)).symm
  | n + 1 => by
    show sumN (fun m => sumN (g m) k) n + sumN (g n) k = sumN (fun d => sumN (fun m => g m d) n + g n d) k
    rw [sumN_swap g k n]
    exact (sumN_add (fun d => sumN (fun m => g m d) n) (g n) k).symm
theorem sumN_rev (f : Nat → Nat) : ∀ n, sumN (fun k => f (n - 1 - k)) n = sumN f n
  | 0 => rfl
  | n + 1 => by
    show sumN (fun k => f (n - k)) (n + 1) = sumN f n + f n
    have e := sumN_app (fun k => f (n - k)) 1 n
    rw [Nat.add_comm 1 n] at e
    refine e.trans ?_
    have e2 : sumN (fun i => f (n - (1 + i))) n = sumN (fun k => f (n - 1 - k)) n := sumN_c (fun k _ => by rw [show n - (1 + k) = n - 1 - k by omega])
    show 0 + f (n - 0) + sumN (fun i => f (n - (1 + i))) n = _
    rw [e2, sumN_rev f n, Nat.sub_zero]; omega
theorem sumN_r64 {f g : Nat → Nat} (h : ∀ k, k < 64 → f (63 - k) = g k) : sumN f 64 = sumN g 64 := by
  rw [← sumN_rev f 64]
  exact sumN_c (fun k hk => h k hk)
theorem maxN_ge {f : Nat → Nat} {k : Nat} : ∀ {n : Nat}, k < n → f k ≤ maxN f n
  | 0, h => absurd h (Nat.not_lt_zero _)
  | n + 1, h => by
    show f k ≤ if maxN f n < f n then f n else maxN f n
    by_cases e : k = n
    · subst e; split <;> omega
    · have := maxN_ge (f := f) (show k < n by omega)
      split <;> omega
theorem maxN_lub {f : Nat → Nat} {b : Nat} : ∀ {n : Nat}, (∀ k, k < n → f k ≤ b) → maxN f n ≤ b
  | 0, _ => Nat.zero_le _
  | n + 1, h => by
    have h1 := maxN_lub (fun k hk => h k (Nat.lt_succ_of_lt hk))
    have h2 := h n (Nat.lt_succ_self n)
    show (if maxN f n < f n then f n else maxN f n) ≤ b
    split <;> assumption
theorem maxN_at {f : Nat → Nat} : ∀ {n : Nat}, 0 < maxN f n → ∃ k, k < n ∧ f k = maxN f n
  | 0, h => absurd h (Nat.lt_irrefl 0)
  | n + 1, h => by
    have e : maxN f (n + 1) = if maxN f n < f n then f n else maxN f n := rfl
    by_cases q : maxN f n < f n
    · rw [if_pos q] at e
      exact ⟨n, Nat.lt_succ_self n, e.symm⟩
    · rw [if_neg q] at e
      rw [e] at h
      obtain ⟨k, h1, h2⟩ := maxN_at h
      exact ⟨k, by omega, by rw [e]; exact h2⟩
theorem minN_at {f : Nat → Nat} {k : Nat} : ∀ {n : Nat}, k < n → minN f n ≤ f k
  | 0, h => absurd h (Nat.not_lt_zero _)
  | n + 1, h => by
    show (if f n < minN f n then f n else minN f n) ≤ f k
    by_cases e : k = n
    · subst e; split <;> omega
    · have := minN_at (f := f) (show k < n by omega)
      split <;> omega
theorem minN_glb {f : Nat → Nat} {b : Nat} (hb : b ≤ 16) : ∀ {n : Nat}, (∀ k, k < n → b ≤ f k) → b ≤ minN f n
  | 0, _ => hb
  | n + 1, h => by
    have h1 := minN_glb hb (fun k hk => h k (Nat.lt_succ_of_lt hk))
    have h2 := h n (Nat.lt_succ_self n)
    show b ≤ if f n < minN f n then f n else minN f n
    split <;> assumption
theorem maxN_r64 {f g : Nat → Nat} (h : ∀ k, k < 64 → f (63 - k) = g k) : maxN f 64 = maxN g 64 := by
  refine Nat.le_antisymm (maxN_lub (fun k hk => ?_)) (maxN_lub (fun k hk => ?_))
  · have := h (63 - k) (by omega)
    rw [show 63 - (63 - k) = k by omega] at this
    rw [this]; exact maxN_ge (by omega)
  · rw [← h k hk]; exact maxN_ge (by omega)
theorem minN_r64 {f g : Nat → Nat} (h : ∀ k, k < 64 → f (63 - k) = g k) : minN f 64 = minN g 64 := by
  refine Nat.le_antisymm (minN_glb (minN_le _ _) (fun k hk => ?_)) (minN_glb (minN_le _ _) (fun k hk => ?_))
  · rw [← h k hk]; exact minN_at (by omega)
  · have := h (63 - k) (by omega)
    rw [show 63 - (63 - k) = k by omega] at this
    rw [this]; exact minN_at (by omega)
theorem oneI_mono {P Q : Prop} (h : P → Q) : oneI P ≤ oneI Q := by
  rcases Classical.em P with p | p
  · rw [oneI_t p, oneI_t (h p)]; exact Nat.le_refl _
  · rw [oneI_f p]; exact Nat.zero_le _
/-! points under other numbers -/
theorem xr1 : ∀ t, t < 16 → ∀ x, x < 16 → x ^^^ t < 16 := by decide +kernel
theorem xr2 : ∀ t, t < 16 → ∀ x, x < 16 → (x ^^^ t) ^^^ t = x := by decide +kernel
theorem xrI : ∀ t, t < 16 → ∀ x, x < 16 → nI x ^^^ nI t = nI (x ^^^ t) := by decide +kernel
theorem sumN_xor (f : Nat → Nat) {t : Nat} (ht : t < 16) : sumN (fun y => f (y ^^^ t)) 16 = sumN f 16 := by
  rcases (show t = 0 ∨ t = 1 ∨ t = 2 ∨ t = 3 ∨ t = 4 ∨ t = 5 ∨ t = 6 ∨ t = 7 ∨ t = 8 ∨ t = 9 ∨ t = 10 ∨ t = 11 ∨ t = 12 ∨ t = 13 ∨ t = 14 ∨ t = 15 by omega) with rfl | rfl | rfl | rfl | rfl | rfl | rfl | rfl | rfl | rfl | rfl | rfl | rfl | rfl | rfl | rfl
  · show 0 + f 0 + f 1 + f 2 + f 3 + f 4 + f 5 + f 6 + f 7 + f 8 + f 9 + f 10 + f 11 + f 12 + f 13 + f 14 + f 15 = 0 + f 0 + f 1 + f 2 + f 3 + f 4 + f 5 + f 6 + f 7 + f 8 + f 9 + f 10 + f 11 + f 12 + f 13 + f 14 + f 15; omega
  · show 0 + f 1 + f 0 + f 3 + f 2 + f 5 + f 4 + f 7 + f 6 + f 9 + f 8 + f 11 + f 10 + f 13 + f 12 + f 15 + f 14 = 0 + f 0 + f 1 + f 2 + f 3 + f 4 + f 5 + f 6 + f 7 + f 8 + f 9 + f 10 + f 11 + f 12 + f 13 + f 14 + f 15; omega
  · show 0 + f 2 + f 3 + f 0 + f 1 + f 6 + f 7 + f 4 + f 5 + f 10 + f 11 + f 8 + f 9 + f 14 + f 15 + f 12 + f 13 = 0 + f 0 + f 1 + f 2 + f 3 + f 4 + f 5 + f 6 + f 7 + f 8 + f 9 + f 10 + f 11 + f 12 + f 13 + f 14 + f 15; omega
  · show 0 + f 3 + f 2 + f 1 + f 0 + f 7 + f 6 + f 5 + f 4 + f 11 + f 10 + f 9 + f 8 + f 15 + f 14 + f 13 + f 12 = 0 + f 0 + f 1 + f 2 + f 3 + f 4 + f 5 + f 6 + f 7 + f 8 + f 9 + f 10 + f 11 + f 12 + f 13 + f 14 + f 15; omega
  · show 0 + f 4 + f 5 + f 6 + f 7 + f 0 + f 1 + f 2 + f 3 + f 12 + f 13 + f 14 + f 15 + f 8 + f 9 + f 10 + f 11 = 0 + f 0 + f 1 + f 2 + f 3 + f 4 + f 5 + f 6 + f 7 + f 8 + f 9 + f 10 + f 11 + f 12 + f 13 + f 14 + f 15; omega
  · show 0 + f 5 + f 4 + f 7 + f 6 + f 1 + f 0 + f 3 + f 2 + f 13 + f 12 + f 15 + f 14 + f 9 + f 8 + f 11 + f 10 = 0 + f 0 + f 1 + f 2 + f 3 + f 4 + f 5 + f 6 + f 7 + f 8 + f 9 + f 10 + f 11 + f 12 + f 13 + f 14 + f 15; omega
  · show 0 + f 6 + f 7 + f 4 + f 5 + f 2 + f 3 + f 0 + f 1 + f 14 + f 15 + f 12 + f 13 + f 10 + f 11 + f 8 + f 9 = 0 + f 0 + f 1 + f 2 + f 3 + f 4 + f 5 + f 6 + f 7 + f 8 + f 9 + f 10 + f 11 + f 12 + f 13 + f 14 + f 15; omega
  · show 0 + f 7 + f 6 + f 5 + f 4 + f 3 + f 2 + f 1 + f 0 + f 15 + f 14 + f 13 + f 12 + f 11 + f 10 + f 9 + f 8 = 0 + f 0 + f 1 + f 2 + f 3 + f 4 + f 5 + f 6 + f 7 + f 8 + f 9 + f 10 + f 11 + f 12 + f 13 + f 14 + f 15; omega
  · show 0 + f 8 + f 9 + f 10 + f 11 + f 12 + f 13 + f 14 + f 15 + f 0 + f 1 + f 2 + f 3 + f 4 + f 5 + f 6 + f 7 = 0 + f 0 + f 1 + f 2 + f 3 + f 4 + f 5 + f 6 + f 7 + f 8 + f 9 + f 10 + f 11 + f 12 + f 13 + f 14 + f 15; omega
  · show 0 + f 9 + f 8 + f 11 + f 10 + f 13 + f 12 + f 15 + f 14 + f 1 + f 0 + f 3 + f 2 + f 5 + f 4 + f 7 + f 6 = 0 + f 0 + f 1 + f 2 + f 3 + f 4 + f 5 + f 6 + f 7 + f 8 + f 9 + f 10 + f 11 + f 12 + f 13 + f 14 + f 15; omega
  · show 0 + f 10 + f 11 + f 8 + f 9 + f 14 + f 15 + f 12 + f 13 + f 2 + f 3 + f 0 + f 1 + f 6 + f 7 + f 4 + f 5 = 0 + f 0 + f 1 + f 2 + f 3 + f 4 + f 5 + f 6 + f 7 + f 8 + f 9 + f 10 + f 11 + f 12 + f 13 + f 14 + f 15; omega
  · show 0 + f 11 + f 10 + f 9 + f 8 + f 15 + f 14 + f 13 + f 12 + f 3 + f 2 + f 1 + f 0 + f 7 + f 6 + f 5 + f 4 = 0 + f 0 + f 1 + f 2 + f 3 + f 4 + f 5 + f 6 + f 7 + f 8 + f 9 + f 10 + f 11 + f 12 + f 13 + f 14 + f 15; omega
  · show 0 + f 12 + f 13 + f 14 + f 15 + f 8 + f 9 + f 10 + f 11 + f 4 + f 5 + f 6 + f 7 + f 0 + f 1 + f 2 + f 3 = 0 + f 0 + f 1 + f 2 + f 3 + f 4 + f 5 + f 6 + f 7 + f 8 + f 9 + f 10 + f 11 + f 12 + f 13 + f 14 + f 15; omega
  · show 0 + f 13 + f 12 + f 15 + f 14 + f 9 + f 8 + f 11 + f 10 + f 5 + f 4 + f 7 + f 6 + f 1 + f 0 + f 3 + f 2 = 0 + f 0 + f 1 + f 2 + f 3 + f 4 + f 5 + f 6 + f 7 + f 8 + f 9 + f 10 + f 11 + f 12 + f 13 + f 14 + f 15; omega
  · show 0 + f 14 + f 15 + f 12 + f 13 + f 10 + f 11 + f 8 + f 9 + f 6 + f 7 + f 4 + f 5 + f 2 + f 3 + f 0 + f 1 = 0 + f 0 + f 1 + f 2 + f 3 + f 4 + f 5 + f 6 + f 7 + f 8 + f 9 + f 10 + f 11 + f 12 + f 13 + f 14 + f 15; omega
  · show 0 + f 15 + f 14 + f 13 + f 12 + f 11 + f 10 + f 9 + f 8 + f 7 + f 6 + f 5 + f 4 + f 3 + f 2 + f 1 + f 0 = 0 + f 0 + f 1 + f 2 + f 3 + f 4 + f 5 + f 6 + f 7 + f 8 + f 9 + f 10 + f 11 + f 12 + f 13 + f 14 + f 15; omega
theorem maxN_xor (f : Nat → Nat) {t : Nat} (ht : t < 16) : maxN (fun y => f (y ^^^ t)) 16 = maxN f 16 := by
  refine Nat.le_antisymm (maxN_lub (fun k hk => maxN_ge (xr1 t ht k hk))) (maxN_lub (fun k hk => ?_))
  have := maxN_ge (f := fun y => f (y ^^^ t)) (xr1 t ht k hk)
  simp only [xr2 t ht k hk] at this
  exact this
/-! ranks -/
theorem cons_set {E : List (Nat × Nat)} {a : Nat × Nat} (e : Nat × Nat) : e ∈ E ++ [a] ↔ e ∈ a :: E := by
  rw [List.mem_append, List.mem_singleton, List.mem_cons]
  exact Or.comm
theorem js_step {E js : List (Nat × Nat)} {x y : Nat} (hE : ∀ e ∈ E, e.1 < 16 ∧ e.2 < 16) (hx : x < 16) (hy : y < 16) (w : WJ 16 js) (h : RP 16 js E) : ∃ js', WJ 16 js' ∧ RP 16 js' ((x, y) :: E) ∧ js'.length = js.length + oneI (¬ Cn E x y) := by
  by_cases q : rt js x = rt js y
  · exact ⟨js, w, (RP.join w h hx hy hE (Or.inl ⟨q, rfl⟩)).set cons_set, by rw [oneI_f (fun z => z ((h x y hx hy).mp q))]; rfl⟩
  · exact ⟨(rt js x, rt js y) :: js, ⟨w, rt_lt w hx, rt_lt w hy, q, rt_ab w _, rt_ab w _⟩, (RP.join w h hx hy hE (Or.inr ⟨q, _, _, Or.inl ⟨rfl, rfl⟩, rfl⟩)).set cons_set, by rw [oneI_t (fun z => q ((h x y hx hy).mpr z))]; rfl⟩
theorem js_of : ∀ {E : List (Nat × Nat)}, (∀ e ∈ E, e.1 < 16 ∧ e.2 < 16) → ∃ js, WJ 16 js ∧ RP 16 js E
  | [], _ => ⟨[], trivial, RP.nil 16⟩
  | (x, y) :: E, hE => by
    have hE' : ∀ e ∈ E, e.1 < 16 ∧ e.2 < 16 := fun e he => hE e (List.mem_cons_of_mem _ he)
    obtain ⟨js, w, h⟩ := js_of hE'
    obtain ⟨js', w', h', -⟩ := js_step hE' (hE (x, y) List.mem_cons_self).1 (hE (x, y) List.mem_cons_self).2 w h
    exact ⟨js', w', h'⟩
theorem rk_cons {E : List (Nat × Nat)} {x y : Nat} (hE : ∀ e ∈ E, e.1 < 16 ∧ e.2 < 16) (hx : x < 16) (hy : y < 16) : nfst (Cn ((x, y) :: E)) 16 + oneI (¬ Cn E x y) = nfst (Cn E) 16 := by
  obtain ⟨js, w, h⟩ := js_of hE
  obtain ⟨js', w', h', l⟩ := js_step hE hx hy w h
  have e1 := RP.len w h
  have e2 := RP.len w' h'
  omega
theorem rk_mono {E F : List (Nat × Nat)} (h : ∀ e ∈ E, e ∈ F) : nfst (Cn F) 16 ≤ nfst (Cn E) 16 :=
  sumN_mono (fun k _ => oneI_mono (fun q y hy z => q y hy (z.mono h)))
theorem nfst_nil : nfst (Cn []) 16 = 16 := by
  have e := RP.len (js := []) (E := []) trivial (RP.nil 16)
  rw [List.length_nil, Nat.add_zero] at e
  exact e
theorem nfst_set {E F : List (Nat × Nat)} (h : ∀ e, e ∈ E ↔ e ∈ F) : nfst (Cn E) 16 = nfst (Cn F) 16 := nfst_c (fun x y _ _ => Cn.set h x y)
/-! pairs under other numbers -/
def xp (t : Nat) (e : Nat × Nat) : Nat × Nat := (e.1 ^^^ t, e.2 ^^^ t)
theorem Cn.map (f : Nat → Nat) {E : List (Nat × Nat)} {x y : Nat} (h : Cn E x y) : Cn (E.map (fun e => (f e.1, f e.2))) (f x) (f y) :=
  fun S q => h (fun z => S (f z)) (fun e he => q _ (List.mem_map.mpr ⟨e, he, rfl⟩))
theorem xp_xp {t : Nat} (ht : t < 16) {E : List (Nat × Nat)} (hE : ∀ e ∈ E, e.1 < 16 ∧ e.2 < 16) : (E.map (xp t)).map (xp t) = E := by
  rw [List.map_map]
  refine (List.map_congr_left (fun e he => ?_)).trans (List.map_id E)
  show ((e.1 ^^^ t) ^^^ t, (e.2 ^^^ t) ^^^ t) = e
  rw [xr2 t ht _ (hE e he).1, xr2 t ht _ (hE e he).2]
theorem Cn_xp {t : Nat} (ht : t < 16) {E : List (Nat × Nat)} (hE : ∀ e ∈ E, e.1 < 16 ∧ e.2 < 16) {x y : Nat} (hx : x < 16) (hy : y < 16) : Cn (E.map (xp t)) (x ^^^ t) (y ^^^ t) ↔ Cn E x y := by
  constructor
  · intro h
    have h2 : Cn ((E.map (xp t)).map (xp t)) ((x ^^^ t) ^^^ t) ((y ^^^ t) ^^^ t) := Cn.map (fun z => z ^^^ t) h
    rwa [xp_xp ht hE, xr2 t ht x hx, xr2 t ht y hy] at h2
  · exact fun h => Cn.map (fun z => z ^^^ t) h
theorem nfst_xp {t : Nat} (ht : t < 16) : ∀ {E : List (Nat × Nat)}, (∀ e ∈ E, e.1 < 16 ∧ e.2 < 16) → nfst (Cn (E.map (xp t))) 16 = nfst (Cn E) 16
  | [], _ => rfl
  | (x, y) :: E, hE => by
    have hE' : ∀ e ∈ E, e.1 < 16 ∧ e.2 < 16 := fun e he => hE e (List.mem_cons_of_mem _ he)
    have hx : x < 16 := (hE (x, y) List.mem_cons_self).1
    have hy : y < 16 := (hE (x, y) List.mem_cons_self).2
    have hM : ∀ e ∈ E.map (xp t), e.1 < 16 ∧ e.2 < 16 := fun e he => by
      obtain ⟨a, ha, rfl⟩ := List.mem_map.mp he
      exact ⟨xr1 t ht _ (hE' a ha).1, xr1 t ht _ (hE' a ha).2⟩
    have h1 := rk_cons hE' hx hy
    have h2 := rk_cons hM (xr1 t ht x hx) (xr1 t ht y hy)
    have h3 : oneI (¬ Cn (E.map (xp t)) (x ^^^ t) (y ^^^ t)) = oneI (¬ Cn E x y) := oneI_c (not_congr (Cn_xp ht hE' hx hy))
    have h4 := nfst_xp ht hE'
    show nfst (Cn ((x ^^^ t, y ^^^ t) :: E.map (xp t))) 16 = _
    omega
/-! the mirror: the time the other way round, the points under other numbers -/
def mk (t : Nat) (y : Lk) : Lk := (y.1 ^^^ t, y.2.1 ^^^ t, 64 - y.2.2.2, 64 - y.2.2.1)
def mR (t : Nat) (ls : List Lk) : List Lk := ls.map (mk t)
theorem mk_ok {t : Nat} (ht : t < 16) {y : Lk} (h : okK y) : okK (mk t y) := by
  obtain ⟨h1, h2, h3, h4, h5⟩ := h
  refine ⟨xr1 t ht _ h1, xr1 t ht _ h2, fun e => h3 ?_, ?_, ?_⟩
  · have e : y.1 ^^^ t = y.2.1 ^^^ t := e
    have e2 := congrArg (fun z => z ^^^ t) e
    simp only [xr2 t ht _ h1, xr2 t ht _ h2] at e2
    exact e2
  · show 64 - y.2.2.2 < 64 - y.2.2.1
    omega
  · show 64 - y.2.2.1 ≤ 64
    omega
theorem mk_mk {t : Nat} (ht : t < 16) {y : Lk} (h : okK y) : mk t (mk t y) = y := by
  obtain ⟨h1, h2, h3, h4, h5⟩ := h
  show ((y.1 ^^^ t) ^^^ t, (y.2.1 ^^^ t) ^^^ t, 64 - (64 - y.2.2.1), 64 - (64 - y.2.2.2)) = y
  rw [xr2 t ht _ h1, xr2 t ht _ h2, show 64 - (64 - y.2.2.1) = y.2.2.1 by omega, show 64 - (64 - y.2.2.2) = y.2.2.2 by omega]
section Mir
variable {t : Nat} {ls : List Lk}
theorem mR_ok (ht : t < 16) (hO : ∀ x ∈ ls, okK x) : ∀ x ∈ mR t ls, okK x := fun x hx => by
  obtain ⟨y, hy, rfl⟩ := List.mem_map.mp hx
  exact mk_ok ht (hO y hy)
theorem mR_mR (ht : t < 16) (hO : ∀ x ∈ ls, okK x) : mR t (mR t ls) = ls := by
  unfold mR
  rw [List.map_map]
  exact (List.map_congr_left (fun e he => mk_mk ht (hO e he))).trans (List.map_id ls)
theorem mR_len : (mR t ls).length = ls.length := List.length_map _
theorem mR_get {k : Nat} {y : Lk} (h : ls[k]? = some y) : (mR t ls)[k]? = some (mk t y) := by
  unfold mR
  rw [List.getElem?_map, h]; rfl
theorem EK_n {p : Nat → Lk → Bool} {k : Nat} (h : ls[k]? = none) : EK ls p (k + 1) = EK ls p k := by
  show EK ls p k ++ (match ls[k]? with | some y => if p k y = true then [(y.1, y.2.1)] else [] | none => []) = _
  rw [h]; simp
theorem EK_mk {p p' : Nat → Lk → Bool} (h : ∀ k y, ls[k]? = some y → p' k (mk t y) = p k y) : ∀ n, EK (mR t ls) p' n = (EK ls p n).map (xp t)
  | 0 => rfl
  | n + 1 => by
    cases hy : ls[n]? with
    | none =>
      have h2 : (mR t ls)[n]? = none := by unfold mR; rw [List.getElem?_map, hy]; rfl
      rw [EK_n hy, EK_n h2, EK_mk h n]
    | some y =>
      rw [EK_s hy, EK_s (mR_get hy), EK_mk h n, List.map_append, h n y hy]
      by_cases q : p n y = true
      · rw [if_pos q, if_pos q]; rfl
      · rw [if_neg q, if_neg q]; rfl
theorem lvB_mk {m : Nat} (hm : m < 64) {y : Lk} (h : okK y) : lvB ((63 - m : Nat) : Int) (mk t y) = lvB (m : Int) y := by
  obtain ⟨h1, h2, h3, h4, h5⟩ := h
  unfold lvB
  rw [decide_eq_decide]
  show ((64 - y.2.2.2 : Nat) : Int) ≤ ((63 - m : Nat) : Int) ∧ ((63 - m : Nat) : Int) < ((64 - y.2.2.1 : Nat) : Int) ↔ _
  omega
theorem EK_lv (hO : ∀ x ∈ ls, okK x) {m : Nat} (hm : m < 64) : EK (mR t ls) (lvA (63 - m)) (mR t ls).length = (EK ls (lvA m) ls.length).map (xp t) := by
  rw [mR_len]
  exact EK_mk (fun k y hy => lvB_mk hm (hO y (List.mem_of_getElem? hy))) _
theorem CM_mk (ht : t < 16) (hO : ∀ x ∈ ls, okK x) {m x y : Nat} (hm : m < 64) (hx : x < 16) (hy : y < 16) : CM (mR t ls) (63 - m) (x ^^^ t) (y ^^^ t) ↔ CM ls m x y := by
  unfold CM
  rw [EK_lv hO hm]
  exact Cn_xp ht (EK_lt hO) hx hy
theorem pts_mk (ht : t < 16) (hO : ∀ x ∈ ls, okK x) {m : Nat} (hm : m < 64) : pts (mR t ls) (63 - m) = pts ls m := by
  show nfst (Cn (EK (mR t ls) (lvA (63 - m)) (mR t ls).length)) 16 = nfst (Cn (EK ls (lvA m) ls.length)) 16
  rw [EK_lv hO hm]
  exact nfst_xp ht (EK_lt hO)
theorem pSz_mk (ht : t < 16) (hO : ∀ x ∈ ls, okK x) {m p : Nat} (hm : m < 64) (hp : p < 16) : pSz (mR t ls) (63 - m) (p ^^^ t) = pSz ls m p := by
  unfold pSz
  rw [← sumN_xor (fun y => oneI (CM (mR t ls) (63 - m) y (p ^^^ t))) ht]
  exact sumN_c (fun k hk => oneI_c (CM_mk ht hO hm hk hp))
theorem mxP_mk (ht : t < 16) (hO : ∀ x ∈ ls, okK x) {m : Nat} (hm : m < 64) : maxN (pSz (mR t ls) (63 - m)) 16 = maxN (pSz ls m) 16 := by
  rw [← maxN_xor (pSz (mR t ls) (63 - m)) ht]
  exact maxN_c (fun k hk => pSz_mk ht hO hm hk)
theorem alN_mk (ht : t < 16) (hO : ∀ x ∈ ls, okK x) {m : Nat} (hm : m < 64) : sumN (alN (mR t ls) (63 - m)) 16 = sumN (alN ls m) 16 := by
  rw [← sumN_xor (alN (mR t ls) (63 - m)) ht]
  refine sumN_c (fun k hk => ?_)
  show oneI (pSz (mR t ls) (63 - m) (k ^^^ t) = 1) = oneI (pSz ls m k = 1)
  rw [pSz_mk ht hO hm hk]
theorem NM_mk (ht : t < 16) (hO : ∀ x ∈ ls, okK x) {m j : Nat} (hm : m < 64) {y : Lk} (hy : okK y) : NM (mR t ls) j (63 - m) (mk t y) ↔ NM ls j m y := by
  unfold NM CX
  rw [lvB_mk hm hy, mR_len, EK_mk (t := t) (p := lvX (nI j) m) (fun k z hz => by unfold lvX; rw [lvB_mk hm (hO z (List.mem_of_getElem? hz))])]
  exact and_congr_right (fun _ => not_congr (Cn_xp ht (EK_lt hO) hy.1 hy.2.1))
theorem nlN_mk (ht : t < 16) (hO : ∀ x ∈ ls, okK x) {m : Nat} (hm : m < 64) : sumN (nlN (mR t ls) (63 - m)) (mR t ls).length = sumN (nlN ls m) ls.length := by
  rw [mR_len]
  refine sumN_c (fun k hk => ?_)
  obtain ⟨y, hy⟩ := get_of hk
  rw [nlN_of hy, nlN_of (mR_get hy)]
  exact oneI_c (NM_mk ht hO hm (hO y (List.mem_of_getElem? hy)))
theorem nmN_mk (ht : t < 16) (hO : ∀ x ∈ ls, okK x) {k : Nat} {y : Lk} (hy : okK y) : sumN (nmN (mR t ls) k (mk t y)) 64 = sumN (nmN ls k y) 64 :=
  sumN_r64 (fun m hm => oneI_c (NM_mk ht hO hm hy))
theorem lv_mk (hO : ∀ x ∈ ls, okK x) {m : Nat} (hm : m < 64) : (mR t ls).countP (lvB ((63 - m : Nat) : Int)) = ls.countP (lvB (m : Int)) := by
  unfold mR
  rw [List.countP_map]
  exact List.countP_congr (fun x hx => by rw [Function.comp_apply, lvB_mk hm (hO x hx)])
/-! odd -/
def sg (t v : Nat) : Nat := if v < 16 then v ^^^ t else 16 + ((v - 16) ^^^ t)
theorem DK_n {p : Nat → Lk → Bool} {k : Nat} (h : ls[k]? = none) : DK ls p (k + 1) = DK ls p k := by
  show DK ls p k ++ (match ls[k]? with | some y => if p k y = true then [(y.1, 16 + y.2.1), (16 + y.1, y.2.1)] else [] | none => []) = _
  rw [h]; simp
theorem sg_lo {x : Nat} (h : x < 16) : sg t x = x ^^^ t := if_pos h
theorem sg_hi (x : Nat) : sg t (16 + x) = 16 + (x ^^^ t) := by
  unfold sg
  rw [if_neg (by omega), show 16 + x - 16 = x by omega]
theorem DK_mk (hO : ∀ x ∈ ls, okK x) {p p' : Nat → Lk → Bool} (h : ∀ k y, ls[k]? = some y → p' k (mk t y) = p k y) : ∀ n, DK (mR t ls) p' n = (DK ls p n).map (fun e => (sg t e.1, sg t e.2))
  | 0 => rfl
  | n + 1 => by
    cases hy : ls[n]? with
    | none =>
      have h2 : (mR t ls)[n]? = none := by unfold mR; rw [List.getElem?_map, hy]; rfl
      rw [DK_n hy, DK_n h2, DK_mk hO h n]
    | some y =>
      have ok := hO y (List.mem_of_getElem? hy)
      rw [DK_s hy, DK_s (mR_get hy), DK_mk hO h n, List.map_append, h n y hy]
      by_cases q : p n y = true
      · rw [if_pos q, if_pos q]
        show _ ++ [(y.1 ^^^ t, 16 + (y.2.1 ^^^ t)), (16 + (y.1 ^^^ t), y.2.1 ^^^ t)] = _ ++ [(sg t y.1, sg t (16 + y.2.1)), (sg t (16 + y.1), sg t y.2.1)]
        rw [sg_lo ok.1, sg_lo ok.2.1, sg_hi, sg_hi]
      · rw [if_neg q, if_neg q]; rfl
theorem OM_mk1 (ht : t < 16) (hO : ∀ x ∈ ls, okK x) {m : Nat} (hm : m < 64) (h : OM ls m) : OM (mR t ls) (63 - m) := by
  obtain ⟨x, hx, hc⟩ := h
  refine ⟨x ^^^ t, xr1 t ht x hx, ?_⟩
  rw [mR_len, DK_mk hO (p := lvA m) (p' := lvA (63 - m)) (fun k y hy => lvB_mk hm (hO y (List.mem_of_getElem? hy)))]
  have := Cn.map (sg t) hc
  rwa [sg_lo hx, sg_hi] at this
theorem OM_mk (ht : t < 16) (hO : ∀ x ∈ ls, okK x) {m : Nat} (hm : m < 64) : OM (mR t ls) (63 - m) ↔ OM ls m := by
  constructor
  · intro h
    have := OM_mk1 ht (mR_ok ht hO) (show 63 - m < 64 by omega) h
    rwa [mR_mR ht hO, show 63 - (63 - m) = m by omega] at this
  · exact OM_mk1 ht hO hm
theorem omN_mk (ht : t < 16) (hO : ∀ x ∈ ls, okK x) : sumN (omN (mR t ls)) 64 = sumN (omN ls) 64 := sumN_r64 (fun m hm => oneI_c (OM_mk ht hO hm))
/-! spans -/
theorem sbm : ∀ m, m < 64 → ∀ d, d < 7 → sb (63 - m) d = 64 - sb m d - sl d ∧ sb m d + sl d ≤ 64 ∧ m < sb m d + sl d := by decide +kernel
theorem cvB_mk {m d : Nat} (hm : m < 64) (hd : d < 7) {y : Lk} (h : okK y) : cvB (sb (63 - m) d) (sl d) (mk t y) = cvB (sb m d) (sl d) y := by
  obtain ⟨h1, h2, h3, h4, h5⟩ := h
  obtain ⟨e1, e2, e3⟩ := sbm m hm d hd
  unfold cvB
  rw [decide_eq_decide, e1]
  show 64 - y.2.2.2 ≤ 64 - sb m d - sl d ∧ 64 - sb m d - sl d + sl d ≤ 64 - y.2.2.1 ↔ _
  omega
theorem ldB_mk {m d : Nat} (hm : m < 64) (hd : d < 7) {y : Lk} (h : okK y) : ldB (sb (63 - m) d) d (mk t y) = ldB (sb m d) d y := by
  show (cvB (sb (63 - m) d) (sl d) (mk t y) && (decide (d = 0) || !cvB (sb (sb (63 - m) d) (d - 1)) (sl (d - 1)) (mk t y))) = (cvB (sb m d) (sl d) y && (decide (d = 0) || !cvB (sb (sb m d) (d - 1)) (sl (d - 1)) y))
  rw [cvB_mk hm hd h]
  cases d with
  | zero => rfl
  | succ d =>
    rw [Nat.add_sub_cancel, sb_f1 m hm d (by omega), sb_f1 (63 - m) (by omega) d (by omega), cvB_mk hm (by omega) h]
theorem CV_mk (hO : ∀ x ∈ ls, okK x) {m d : Nat} (hm : m < 64) (hd : d < 7) : CV (mR t ls) (63 - m) d = (CV ls m d).map (xp t) := by
  unfold CV
  rw [mR_len]
  exact EK_mk (fun k y hy => cvB_mk hm hd (hO y (List.mem_of_getElem? hy))) _
theorem pS_mk (ht : t < 16) (hO : ∀ x ∈ ls, okK x) {m d : Nat} (hm : m < 64) (hd : d < 7) : pS (mR t ls) (63 - m) d = pS ls m d := by
  unfold pS
  rw [CV_mk hO hm hd]
  exact nfst_xp ht (EK_lt hO)
theorem mdN_mk (ht : t < 16) (hO : ∀ x ∈ ls, okK x) {m d : Nat} (hm : m < 64) (hd : d < 7) : mdN (mR t ls) (63 - m) d = mdN ls m d := by
  unfold mdN
  rw [pS_mk ht hO hm hd]
  cases d with
  | zero => rfl
  | succ d =>
    have : pU (mR t ls) (63 - m) (d + 1) = pU ls m (d + 1) := pS_mk ht hO hm (show d < 7 by omega)
    rw [this]
theorem lcN_mk (hO : ∀ x ∈ ls, okK x) {m d : Nat} (hm : m < 64) (hd : d < 7) : lcN (mR t ls) (63 - m) d = lcN ls m d := by
  unfold lcN mR
  rw [List.countP_map]
  exact List.countP_congr (fun x hx => by rw [Function.comp_apply, ldB_mk hm hd (hO x hx)])
end Mir
