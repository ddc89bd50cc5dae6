/-! joinings that can be taken back: a list of pairs (hung, below which), the latest first -/
def ab : List (Nat × Nat) → Nat → Nat
  | [], x => x
  | p :: js, x => if x = p.1 then p.2 else ab js x
def be : List (Nat × Nat) → Nat → Nat
  | [], _ => 1
  | p :: js, x => if x = p.2 then be js p.2 + be js p.1 else be js x
def rt : List (Nat × Nat) → Nat → Nat
  | [], x => x
  | p :: js, x => if rt js x = p.1 then p.2 else rt js x
def dp : List (Nat × Nat) → Nat → Nat
  | [], _ => 0
  | p :: js, x => if rt js x = p.1 then dp js x + 1 else dp js x
def WJ (N : Nat) : List (Nat × Nat) → Prop
  | [] => True
  | p :: js => WJ N js ∧ p.1 < N ∧ p.2 < N ∧ p.1 ≠ p.2 ∧ ab js p.1 = p.1 ∧ ab js p.2 = p.2
theorem ab_lt {N : Nat} : ∀ {js : List (Nat × Nat)}, WJ N js → ∀ {x : Nat}, x < N → ab js x < N
  | [], _, x, hx => hx
  | p :: js, w, x, hx => by
    show (if x = p.1 then p.2 else ab js x) < N
    split
    · exact w.2.2.1
    · exact ab_lt w.1 hx
theorem rt_root {N : Nat} : ∀ {js : List (Nat × Nat)}, WJ N js → ∀ {x : Nat}, ab js x = x → rt js x = x
  | [], _, x, _ => rfl
  | p :: js, w, x, h => by
    obtain ⟨w0, w1, w2, w3, w4, w5⟩ := w
    have h : (if x = p.1 then p.2 else ab js x) = x := h
    show (if rt js x = p.1 then p.2 else rt js x) = x
    by_cases e : x = p.1
    · rw [if_pos e] at h
      exact absurd (e.symm.trans h.symm) w3
    · rw [if_neg e] at h
      have := rt_root w0 h
      rw [this, if_neg e]
theorem rt_step {N : Nat} : ∀ {js : List (Nat × Nat)}, WJ N js → ∀ (x : Nat), rt js (ab js x) = rt js x
  | [], _, x => rfl
  | p :: js, w, x => by
    obtain ⟨w0, w1, w2, w3, w4, w5⟩ := w
    show (if rt js (if x = p.1 then p.2 else ab js x) = p.1 then p.2 else rt js (if x = p.1 then p.2 else ab js x)) = if rt js x = p.1 then p.2 else rt js x
    by_cases e : x = p.1
    · have r1 := rt_root w0 w4
      have r2 := rt_root w0 w5
      subst e
      rw [if_pos rfl, r2, r1, if_pos rfl, if_neg (Ne.symm w3)]
    · rw [if_neg e, rt_step w0 x]
theorem rt_ab {N : Nat} : ∀ {js : List (Nat × Nat)}, WJ N js → ∀ (x : Nat), ab js (rt js x) = rt js x
  | [], _, x => rfl
  | p :: js, w, x => by
    obtain ⟨w0, w1, w2, w3, w4, w5⟩ := w
    show (if (if rt js x = p.1 then p.2 else rt js x) = p.1 then p.2 else ab js (if rt js x = p.1 then p.2 else rt js x)) = if rt js x = p.1 then p.2 else rt js x
    by_cases e : rt js x = p.1
    · rw [if_pos e, if_neg (Ne.symm w3), w5]
    · rw [if_neg e, if_neg e, rt_ab w0 x]
theorem rt_lt {N : Nat} : ∀ {js : List (Nat × Nat)}, WJ N js → ∀ {x : Nat}, x < N → rt js x < N
  | [], _, x, hx => hx
  | p :: js, w, x, hx => by
    show (if rt js x = p.1 then p.2 else rt js x) < N
    split
    · exact w.2.2.1
    · exact rt_lt w.1 hx
theorem dp_le : ∀ (js : List (Nat × Nat)) (x : Nat), dp js x ≤ js.length
  | [], x => Nat.le_refl _
  | p :: js, x => by
    have := dp_le js x
    show (if rt js x = p.1 then dp js x + 1 else dp js x) ≤ js.length + 1
    split <;> omega
theorem dp_0 {N : Nat} : ∀ {js : List (Nat × Nat)}, WJ N js → ∀ {x : Nat}, ab js x = x → dp js x = 0
  | [], _, x, _ => rfl
  | p :: js, w, x, h => by
    obtain ⟨w0, w1, w2, w3, w4, w5⟩ := w
    have h : (if x = p.1 then p.2 else ab js x) = x := h
    show (if rt js x = p.1 then dp js x + 1 else dp js x) = 0
    by_cases e : x = p.1
    · rw [if_pos e] at h
      exact absurd (e.symm.trans h.symm) w3
    · rw [if_neg e] at h
      rw [rt_root w0 h, if_neg e]
      exact dp_0 w0 h
theorem dp_s {N : Nat} : ∀ {js : List (Nat × Nat)}, WJ N js → ∀ {x : Nat}, ab js x ≠ x → dp js (ab js x) + 1 = dp js x
  | [], _, x, h => absurd rfl h
  | p :: js, w, x, h => by
    obtain ⟨w0, w1, w2, w3, w4, w5⟩ := w
    have h : (if x = p.1 then p.2 else ab js x) ≠ x := h
    show (if rt js (if x = p.1 then p.2 else ab js x) = p.1 then dp js (if x = p.1 then p.2 else ab js x) + 1 else dp js (if x = p.1 then p.2 else ab js x)) + 1 = if rt js x = p.1 then dp js x + 1 else dp js x
    by_cases e : x = p.1
    · subst e
      rw [if_pos rfl, rt_root w0 w5, if_neg (Ne.symm w3), rt_root w0 w4, if_pos rfl, dp_0 w0 w5, dp_0 w0 w4]
    · rw [if_neg e] at h ⊢
      rw [rt_step w0 x]
      have := dp_s w0 h
      by_cases e2 : rt js x = p.1
      · rw [if_pos e2, if_pos e2]; omega
      · rw [if_neg e2, if_neg e2]; omega
theorem sumN_add (f g : Nat → Nat) : ∀ n, sumN (fun k => f k + g k) n = sumN f n + sumN g n
  | 0 => rfl
  | n + 1 => by
    have := sumN_add f g n
    show sumN _ n + (f n + g n) = sumN f n + f n + (sumN g n + g n)
    omega
theorem sumN_del {f g : Nat → Nat} {l : Nat} (hl : f l = g l + 1) (ho : ∀ k, k ≠ l → f k = g k) : ∀ n, l < n → sumN f n = sumN g n + 1
  | 0, h => absurd h (Nat.not_lt_zero _)
  | n + 1, h => by
    show sumN f n + f n = sumN g n + g n + 1
    by_cases e : l = n
    · subst e
      rw [sumN_c (f := f) (g := g) (fun k hk => ho k (Nat.ne_of_lt hk)), hl]
      omega
    · rw [sumN_del hl ho n (by omega), ho n (Ne.symm e)]
      omega
theorem sumN_ge {f : Nat → Nat} {l : Nat} : ∀ n, l < n → f l ≤ sumN f n
  | 0, h => absurd h (Nat.not_lt_zero _)
  | n + 1, h => by
    show f l ≤ sumN f n + f n
    by_cases e : l = n
    · subst e; omega
    · have := sumN_ge (f := f) n (show l < n by omega)
      omega
theorem sumN_ge2 {f : Nat → Nat} {l m : Nat} (hm : l ≠ m) (h1 : 1 ≤ f l) (h2 : 1 ≤ f m) : ∀ n, l < n → m < n → 2 ≤ sumN f n
  | 0, h, _ => absurd h (Nat.not_lt_zero _)
  | n + 1, h, h' => by
    show 2 ≤ sumN f n + f n
    by_cases e : l = n
    · subst e
      have := sumN_ge (f := f) l (show m < l by omega)
      omega
    · by_cases e' : m = n
      · subst e'
        have := sumN_ge (f := f) m (show l < m by omega)
        omega
      · have := sumN_ge2 hm h1 h2 n (by omega) (by omega)
        omega
theorem sumN_one : ∀ n, sumN (fun _ => 1) n = n
  | 0 => rfl
  | n + 1 => by show sumN _ n + 1 = n + 1; rw [sumN_one n]
/-- as many roots as members less joinings -/
theorem roots {N : Nat} : ∀ {js : List (Nat × Nat)}, WJ N js → sumN (fun x => oneI (ab js x = x)) N + js.length = N
  | [], _ => by
    have e : sumN (fun x => oneI (ab [] x = x)) N = sumN (fun _ => 1) N := sumN_c (fun k _ => oneI_t rfl)
    rw [e, sumN_one]; rfl
  | p :: js, w => by
    obtain ⟨w0, w1, w2, w3, w4, w5⟩ := w
    have h0 := roots w0
    have h1 : sumN (fun x => oneI (ab js x = x)) N = sumN (fun x => oneI (ab (p :: js) x = x)) N + 1 := by
      refine sumN_del (l := p.1) ?_ (fun k hk => ?_) N w1
      · show oneI (ab js p.1 = p.1) = oneI ((if p.1 = p.1 then p.2 else ab js p.1) = p.1) + 1
        rw [if_pos rfl, oneI_t w4, oneI_f (Ne.symm w3)]
      · show oneI (ab js k = k) = oneI ((if k = p.1 then p.2 else ab js k) = k)
        rw [if_neg hk]
    have h2 : (p :: js).length = js.length + 1 := rfl
    omega
theorem two_roots {N : Nat} {js : List (Nat × Nat)} (w : WJ N js) {x y : Nat} (hx : x < N) (hy : y < N) (hxy : x ≠ y) (h1 : ab js x = x) (h2 : ab js y = y) : js.length + 2 ≤ N := by
  have h := roots w
  have h3 := sumN_ge2 (f := fun x => oneI (ab js x = x)) hxy (Nat.le_of_eq (oneI_t h1).symm) (Nat.le_of_eq (oneI_t h2).symm) N hx hy
  omega
theorem be_cnt {N : Nat} : ∀ {js : List (Nat × Nat)}, WJ N js → ∀ {r : Nat}, ab js r = r → r < N → be js r = sumN (fun x => oneI (rt js x = r)) N
  | [], _, r, _, hr => by
    show 1 = sumN (fun x => oneI (x = r)) N
    rw [sumN_del (f := fun x => oneI (x = r)) (g := fun _ => 0) (l := r) (oneI_t rfl) (fun k hk => oneI_f hk) N hr]
    have : sumN (fun _ => 0) N = 0 := by
      have := sumN_le (f := fun _ => 0) (b := 0) (fun _ => Nat.le_refl _) N
      omega
    rw [this]
  | p :: js, w, r, h, hr => by
    obtain ⟨w0, w1, w2, w3, w4, w5⟩ := w
    have h : (if r = p.1 then p.2 else ab js r) = r := h
    have hr1 : r ≠ p.1 := by
      intro e
      rw [if_pos e] at h
      exact w3 (e.symm.trans h.symm)
    rw [if_neg hr1] at h
    show (if r = p.2 then be js p.2 + be js p.1 else be js r) = sumN (fun x => oneI ((if rt js x = p.1 then p.2 else rt js x) = r)) N
    by_cases e : r = p.2
    · subst e
      rw [if_pos rfl, be_cnt w0 w5 w2, be_cnt w0 w4 w1, ← sumN_add]
      refine sumN_c (fun k _ => ?_)
      by_cases q : rt js k = p.1
      · rw [if_pos q, oneI_t rfl, oneI_t q, oneI_f (by rw [q]; exact w3)]
      · rw [if_neg q, oneI_f q]; rfl
    · rw [if_neg e, be_cnt w0 h hr]
      refine sumN_c (fun k _ => ?_)
      by_cases q : rt js k = p.1
      · rw [if_pos q, oneI_f (by rw [q]; exact fun z => hr1 z.symm), oneI_f (fun z => e z.symm)]
      · rw [if_neg q]
/-- how many members are the first of their part -/
noncomputable def nfst (C : Nat → Nat → Prop) (n : Nat) : Nat := sumN (fun x => oneI (∀ y, y < x → ¬ C y x)) n
theorem nfst_c {C D : Nat → Nat → Prop} {n : Nat} (h : ∀ x y, x < n → y < n → (C x y ↔ D x y)) : nfst C n = nfst D n := by
  refine sumN_c (fun k hk => oneI_c ⟨fun q y hy z => q y hy ((h y k (by omega) hk).mpr z), fun q y hy z => q y hy ((h y k (by omega) hk).mp z)⟩)
theorem least_of (P : Nat → Prop) (x : Nat) (hx : P x) : ∃ m, P m ∧ m ≤ x ∧ ∀ y, y < m → ¬ P y := by
  induction x using Nat.strongRecOn with
  | ind x ih =>
    rcases Classical.em (∃ y, y < x ∧ P y) with ⟨y, h1, h2⟩ | h
    · obtain ⟨m, a, b, c⟩ := ih y h1 h2
      exact ⟨m, a, by omega, c⟩
    · exact ⟨x, hx, Nat.le_refl _, fun y hy q => h ⟨y, hy, q⟩⟩
theorem nfst_rt {N : Nat} : ∀ {js : List (Nat × Nat)}, WJ N js → nfst (fun x y => rt js x = rt js y) N + js.length = N
  | [], _ => by
    have e : nfst (fun x y => rt [] x = rt [] y) N = sumN (fun _ => 1) N := sumN_c (fun k _ => oneI_t (fun y hy q => absurd (show y = k from q) (Nat.ne_of_lt hy)))
    rw [e, sumN_one]; rfl
  | p :: js, w => by
    obtain ⟨w0, w1, w2, w3, w4, w5⟩ := w
    have h0 := nfst_rt w0
    have r1 := rt_root w0 w4
    have r2 := rt_root w0 w5
    obtain ⟨m1, a1, a2, a3⟩ := least_of (fun x => rt js x = p.1) p.1 r1
    obtain ⟨m2, b1, b2, b3⟩ := least_of (fun x => rt js x = p.2) p.2 r2
    have hne : m1 ≠ m2 := fun e => w3 (by rw [← a1, ← b1, e])
    have e0 : ∀ x, rt (p :: js) x = if rt js x = p.1 then p.2 else rt js x := fun _ => rfl
    have hiff : ∀ x y, rt (p :: js) x = rt (p :: js) y ↔ (rt js x = rt js y ∨ (rt js x = p.1 ∧ rt js y = p.2) ∨ (rt js x = p.2 ∧ rt js y = p.1)) := by
      intro x y
      rw [e0, e0]
      by_cases q1 : rt js x = p.1 <;> by_cases q2 : rt js y = p.1
      · simp [q1, q2]
      · rw [if_pos q1, if_neg q2, q1]
        constructor
        · intro z; exact Or.inr (Or.inl ⟨rfl, z.symm⟩)
        · rintro (z | ⟨-, z⟩ | ⟨z, -⟩)
          · exact absurd z.symm q2
          · exact z.symm
          · exact absurd z w3
      · rw [if_neg q1, if_pos q2, q2]
        constructor
        · intro z; exact Or.inr (Or.inr ⟨z, rfl⟩)
        · rintro (z | ⟨z, -⟩ | ⟨z, -⟩)
          · exact absurd z q1
          · exact absurd z q1
          · exact z
      · rw [if_neg q1, if_neg q2]
        constructor
        · exact Or.inl
        · rintro (z | ⟨z, -⟩ | ⟨-, z⟩)
          · exact z
          · exact absurd z q1
          · exact absurd z q2
    have h1 : nfst (fun x y => rt js x = rt js y) N = nfst (fun x y => rt (p :: js) x = rt (p :: js) y) N + 1 := by
      have key : ∀ M m : Nat, m < M → M < N → (rt js M = p.1 ∧ rt js m = p.2 ∨ rt js M = p.2 ∧ rt js m = p.1) → (∀ y, y < M → rt js y ≠ rt js M) → (∀ y, y < m → rt js y ≠ rt js m) → nfst (fun x y => rt js x = rt js y) N = nfst (fun x y => rt (p :: js) x = rt (p :: js) y) N + 1 := by
        intro M m hmM hMN hpp hM hm
        refine sumN_del (l := M) ?_ (fun k hk => oneI_c ⟨fun q y hy z => ?_, fun q y hy z => q y hy ((hiff y k).mpr (Or.inl z))⟩) N hMN
        · rw [oneI_t (fun y hy q => hM y hy q), oneI_f]
          intro q
          exact q m hmM ((hiff m M).mpr (by rcases hpp with ⟨z1, z2⟩ | ⟨z1, z2⟩; exact Or.inr (Or.inr ⟨z2, z1⟩); exact Or.inr (Or.inl ⟨z2, z1⟩)))
        · have hq : ∀ y, y < k → rt js y ≠ rt js k := q
          have nk : ∀ c, rt js k = c → rt js M = c → k = M := by
            intro c c1 c2
            rcases Nat.lt_trichotomy k M with t | t | t
            · exact absurd (c1.trans c2.symm) (hM k t)
            · exact t
            · exact absurd (c2.trans c1.symm) (hq M t)
          have nm : ∀ c, rt js k = c → rt js m = c → k = m := by
            intro c c1 c2
            rcases Nat.lt_trichotomy k m with t | t | t
            · exact absurd (c1.trans c2.symm) (hm k t)
            · exact t
            · exact absurd (c2.trans c1.symm) (hq m t)
          rcases (hiff y k).mp z with z | ⟨z1, z2⟩ | ⟨z1, z2⟩
          · exact hq y hy z
          · rcases hpp with ⟨g1, g2⟩ | ⟨g1, g2⟩
            · obtain rfl := nm _ z2 g2
              exact hM y (by omega) (z1.trans g1.symm)
            · exact hk (nk _ z2 g1)
          · rcases hpp with ⟨g1, g2⟩ | ⟨g1, g2⟩
            · exact hk (nk _ z2 g1)
            · obtain rfl := nm _ z2 g2
              exact hM y (by omega) (z1.trans g1.symm)
      rcases Nat.lt_or_ge m1 m2 with t | t
      · exact key m2 m1 t (by omega) (Or.inr ⟨b1, a1⟩) (fun y hy q => b3 y hy (q.trans b1)) (fun y hy q => a3 y hy (q.trans a1))
      · exact key m1 m2 (by omega) (by omega) (Or.inl ⟨a1, b1⟩) (fun y hy q => a3 y hy (q.trans a1)) (fun y hy q => b3 y hy (q.trans b1))
    have h2 : (p :: js).length = js.length + 1 := rfl
    omega
/-- joined by a list of pairs: no set that keeps each pair together parts them -/
def Cn (E : List (Nat × Nat)) (x y : Nat) : Prop := ∀ S : Nat → Prop, (∀ e ∈ E, S e.1 ↔ S e.2) → (S x ↔ S y)
theorem Cn.rf {E : List (Nat × Nat)} (x : Nat) : Cn E x x := fun _ _ => Iff.rfl
theorem Cn.sm {E : List (Nat × Nat)} {x y : Nat} (h : Cn E x y) : Cn E y x := fun S q => (h S q).symm
theorem Cn.tr {E : List (Nat × Nat)} {x y z : Nat} (h : Cn E x y) (g : Cn E y z) : Cn E x z := fun S q => (h S q).trans (g S q)
theorem Cn.mono {E F : List (Nat × Nat)} {x y : Nat} (h : Cn E x y) (hs : ∀ e ∈ E, e ∈ F) : Cn F x y := fun S q => h S (fun e he => q e (hs e he))
theorem Cn.ed {E : List (Nat × Nat)} {e : Nat × Nat} (h : e ∈ E) : Cn E e.1 e.2 := fun _ q => q e h
theorem Cn.set {E F : List (Nat × Nat)} (hs : ∀ e, e ∈ E ↔ e ∈ F) (x y : Nat) : Cn E x y ↔ Cn F x y := ⟨fun h => h.mono (fun e he => (hs e).mp he), fun h => h.mono (fun e he => (hs e).mpr he)⟩
/-- what a joining does to the list -/
def JN (js : List (Nat × Nat)) (x y : Nat) (js' : List (Nat × Nat)) : Prop := (rt js x = rt js y ∧ js' = js) ∨ (rt js x ≠ rt js y ∧ ∃ l t : Nat, ((l = rt js x ∧ t = rt js y) ∨ (l = rt js y ∧ t = rt js x)) ∧ js' = (l, t) :: js)
/-- the list stands for the pairs that were joined -/
def RP (N : Nat) (js : List (Nat × Nat)) (E : List (Nat × Nat)) : Prop := ∀ x y : Nat, x < N → y < N → (rt js x = rt js y ↔ Cn E x y)
theorem rt_cons_iff (p : Nat × Nat) (js : List (Nat × Nat)) (hne : p.1 ≠ p.2) (h2 : rt js p.2 = p.2) (x y : Nat) : rt (p :: js) x = rt (p :: js) y ↔ (rt js x = rt js y ∨ (rt js x = p.1 ∧ rt js y = p.2) ∨ (rt js x = p.2 ∧ rt js y = p.1)) := by
  show (if rt js x = p.1 then p.2 else rt js x) = (if rt js y = p.1 then p.2 else rt js y) ↔ _
  by_cases q1 : rt js x = p.1 <;> by_cases q2 : rt js y = p.1
  · simp [q1, q2]
  · rw [if_pos q1, if_neg q2, q1]
    constructor
    · intro z; exact Or.inr (Or.inl ⟨rfl, z.symm⟩)
    · rintro (z | ⟨-, z⟩ | ⟨z, -⟩)
      · exact absurd z.symm q2
      · exact z.symm
      · exact absurd z hne
  · rw [if_neg q1, if_pos q2, q2]
    constructor
    · intro z; exact Or.inr (Or.inr ⟨z, rfl⟩)
    · rintro (z | ⟨z, -⟩ | ⟨z, -⟩)
      · exact absurd z q1
      · exact absurd z q1
      · exact z
  · rw [if_neg q1, if_neg q2]
    constructor
    · exact Or.inl
    · rintro (z | ⟨z, -⟩ | ⟨-, z⟩)
      · exact z
      · exact absurd z q1
      · exact absurd z q2
theorem RP.nil (N : Nat) : RP N [] [] := fun x y _ _ => ⟨fun h => by have h : x = y := h; subst h; exact Cn.rf _, fun h => ((h (fun z => z = x) (fun e he => by simp at he)).mp rfl).symm⟩
theorem RP.join {N : Nat} {js js' E : List (Nat × Nat)} {x y : Nat} (w : WJ N js) (h : RP N js E) (hx : x < N) (hy : y < N) (hE : ∀ e ∈ E, e.1 < N ∧ e.2 < N) (hj : JN js x y js') : RP N js' (E ++ [(x, y)]) := by
  have up : ∀ {u v : Nat}, Cn E u v → Cn (E ++ [(x, y)]) u v := fun q => q.mono (fun e he => List.mem_append_left _ he)
  have hxy : Cn (E ++ [(x, y)]) x y := Cn.ed (e := (x, y)) (List.mem_append_right _ (List.mem_singleton.mpr rfl))
  have back : ∀ {u v : Nat}, u < N → v < N → (∀ S : Nat → Prop, (∀ e ∈ E ++ [(x, y)], S e.1 ↔ S e.2) → (S u ↔ S v)) → rt js' x = rt js' y → (∀ e ∈ E, rt js' e.1 = rt js' e.2) → rt js' u = rt js' v := by
    intro u v hu hv q h1 h2
    have := (q (fun z => rt js' z = rt js' u) (fun e he => by
      rcases List.mem_append.mp he with he | he
      · rw [h2 e he]
      · rw [List.mem_singleton.mp he]
        show rt js' x = _ ↔ rt js' y = _
        rw [h1])).mp rfl
    exact this.symm
  rcases hj with ⟨e1, rfl⟩ | ⟨e1, l, t, hlt, rfl⟩
  · intro u v hu hv
    exact ⟨fun q => up ((h u v hu hv).mp q), fun q => back hu hv q e1 (fun e he => (h _ _ (hE e he).1 (hE e he).2).mpr (Cn.ed he))⟩
  · have hl : ab js l = l := by rcases hlt with ⟨rfl, -⟩ | ⟨rfl, -⟩ <;> exact rt_ab w _
    have ht : ab js t = t := by rcases hlt with ⟨-, rfl⟩ | ⟨-, rfl⟩ <;> exact rt_ab w _
    have hne : l ≠ t := by rcases hlt with ⟨rfl, rfl⟩ | ⟨rfl, rfl⟩; exact e1; exact Ne.symm e1
    have hi := rt_cons_iff (l, t) js hne (rt_root w ht)
    have hlx : ∀ u, u < N → rt js u = l → Cn (E ++ [(x, y)]) u x ∨ Cn (E ++ [(x, y)]) u y := by
      intro u hu q
      rcases hlt with ⟨rfl, -⟩ | ⟨rfl, -⟩
      · exact Or.inl (up ((h u x hu hx).mp q))
      · exact Or.inr (up ((h u y hu hy).mp q))
    have htx : ∀ u, u < N → rt js u = t → Cn (E ++ [(x, y)]) u x ∨ Cn (E ++ [(x, y)]) u y := by
      intro u hu q
      rcases hlt with ⟨-, rfl⟩ | ⟨-, rfl⟩
      · exact Or.inr (up ((h u y hu hy).mp q))
      · exact Or.inl (up ((h u x hu hx).mp q))
    have tox : ∀ {u}, (Cn (E ++ [(x, y)]) u x ∨ Cn (E ++ [(x, y)]) u y) → Cn (E ++ [(x, y)]) u x := fun q => q.elim id (fun z => z.tr hxy.sm)
    intro u v hu hv
    constructor
    · intro q
      rcases (hi u v).mp q with z | ⟨z1, z2⟩ | ⟨z1, z2⟩
      · exact up ((h u v hu hv).mp z)
      · exact (tox (hlx u hu z1)).tr (tox (htx v hv z2)).sm
      · exact (tox (htx u hu z1)).tr (tox (hlx v hv z2)).sm
    · intro q
      refine back hu hv q ((hi x y).mpr ?_) (fun e he => (hi _ _).mpr (Or.inl ((h _ _ (hE e he).1 (hE e he).2).mpr (Cn.ed he))))
      rcases hlt with ⟨rfl, rfl⟩ | ⟨rfl, rfl⟩
      · exact Or.inr (Or.inl ⟨rfl, rfl⟩)
      · exact Or.inr (Or.inr ⟨rfl, rfl⟩)
theorem JN.w {N : Nat} {js js' : List (Nat × Nat)} {x y : Nat} (w : WJ N js) (hx : x < N) (hy : y < N) (hj : JN js x y js') : WJ N js' := by
  rcases hj with ⟨e1, rfl⟩ | ⟨e1, l, t, hlt, rfl⟩
  · exact w
  · rcases hlt with ⟨rfl, rfl⟩ | ⟨rfl, rfl⟩
    · exact ⟨w, rt_lt w hx, rt_lt w hy, e1, rt_ab w _, rt_ab w _⟩
    · exact ⟨w, rt_lt w hy, rt_lt w hx, Ne.symm e1, rt_ab w _, rt_ab w _⟩
