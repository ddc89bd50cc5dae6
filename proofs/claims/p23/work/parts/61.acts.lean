/-! sums and greatest values over the spans, the other way round -/
theorem sb_z (m d : Nat) : sb m d = m ↔ m % sl d = 0 := by
  unfold sb
  have := Nat.mod_le m (sl d)
  omega
theorem md_i {j L i : Nat} (h : i < L) : (j * L + i) % L = i := by rw [Nat.add_comm, Nat.add_mul_mod_self_right, Nat.mod_eq_of_lt h]
theorem blk_first {L : Nat} (hL : 0 < L) (F : Nat → Nat) : ∀ j, sumN (fun m => if m % L = 0 then F m else 0) (j * L) = sumN (fun i => F (i * L)) j
  | 0 => by rw [Nat.zero_mul]; rfl
  | j + 1 => by
    rw [Nat.succ_mul, sumN_app, blk_first hL F j, sumN_only (f := fun i => if (j * L + i) % L = 0 then F (j * L + i) else 0) (l := 0) hL (fun k hk h0 => if_neg (by rw [md_i hk]; exact h0))]
    show sumN (fun i => F (i * L)) j + (if (j * L + 0) % L = 0 then F (j * L + 0) else 0) = sumN (fun i => F (i * L)) j + F (j * L)
    rw [if_pos (md_i hL), Nat.add_zero]
theorem blk_last {L : Nat} (hL : 0 < L) (F : Nat → Nat) : ∀ j, sumN (fun m => if m % L = L - 1 then F m else 0) (j * L) = sumN (fun i => F (i * L + (L - 1))) j
  | 0 => by rw [Nat.zero_mul]; rfl
  | j + 1 => by
    rw [Nat.succ_mul, sumN_app, blk_last hL F j, sumN_only (f := fun i => if (j * L + i) % L = L - 1 then F (j * L + i) else 0) (l := L - 1) (by omega) (fun k hk h0 => if_neg (by rw [md_i hk]; exact h0))]
    show sumN (fun i => F (i * L + (L - 1))) j + (if (j * L + (L - 1)) % L = L - 1 then F (j * L + (L - 1)) else 0) = sumN (fun i => F (i * L + (L - 1))) j + F (j * L + (L - 1))
    rw [if_pos (md_i (by omega))]
theorem sl_j : ∀ d, d < 7 → 2 ^ d * sl d = 64 := by decide +kernel
theorem sb_lst : ∀ d, d < 7 → ∀ k, k < 64 → (sb (63 - k) d = 63 - k ↔ k % sl d = sl d - 1) := by decide +kernel
theorem sp_rev {d : Nat} (hd : d < 7) {f g : Nat → Nat} (hg : ∀ m, m < 64 → g m = g (sb m d)) (h : ∀ m, m < 64 → f (63 - m) = g m) : sumN (fun m => if sb m d = m then f m else 0) 64 = sumN (fun m => if sb m d = m then g m else 0) 64 := by
  have hL := (sl_64 d hd).2
  have e1 : sumN (fun m => if sb m d = m then f m else 0) 64 = sumN (fun m => if m % sl d = sl d - 1 then g m else 0) 64 := by
    refine sumN_r64 (fun k hk => ?_)
    show (if sb (63 - k) d = 63 - k then f (63 - k) else 0) = if k % sl d = sl d - 1 then g k else 0
    by_cases q : k % sl d = sl d - 1
    · rw [if_pos q, if_pos ((sb_lst d hd k hk).mpr q), h k hk]
    · rw [if_neg q, if_neg (fun z => q ((sb_lst d hd k hk).mp z))]
  have e2 : sumN (fun m => if sb m d = m then g m else 0) 64 = sumN (fun m => if m % sl d = 0 then g m else 0) 64 := by
    refine sumN_c (fun k hk => ?_)
    by_cases q : sb k d = k
    · rw [if_pos q, if_pos ((sb_z k d).mp q)]
    · rw [if_neg q, if_neg (fun z => q ((sb_z k d).mpr z))]
  have e3 := blk_first hL g (2 ^ d)
  have e4 := blk_last hL g (2 ^ d)
  rw [sl_j d hd] at e3 e4
  rw [e1, e2, e3, e4]
  refine sumN_c (fun i hi => ?_)
  have hlt : (i + 1) * sl d ≤ 2 ^ d * sl d := Nat.mul_le_mul_right _ hi
  rw [sl_j d hd, Nat.succ_mul] at hlt
  rw [hg (i * sl d + (sl d - 1)) (by omega)]
  congr 1
  show i * sl d + (sl d - 1) - (i * sl d + (sl d - 1)) % sl d = i * sl d
  rw [md_i (by omega)]
  omega
theorem sp2_rev {f g : Nat → Nat → Nat} (hg : ∀ m, m < 64 → ∀ d, d < 7 → g m d = g (sb m d) d) (h : ∀ m, m < 64 → ∀ d, d < 7 → f (63 - m) d = g m d) : sp2 f = sp2 g := by
  show sumN (fun m => sumN (atB f m) 7) 64 = sumN (fun m => sumN (atB g m) 7) 64
  rw [sumN_swap (atB f) 7 64, sumN_swap (atB g) 7 64]
  exact sumN_c (fun d hd => sp_rev (f := fun m => f m d) (g := fun m => g m d) hd (fun m hm => hg m hm d hd) (fun m hm => h m hm d hd))
theorem mxA_ge0 {c : Nat} {f : Nat → Nat} : ∀ n, c ≤ mxA c f n
  | 0 => Nat.le_refl _
  | n + 1 => by
    have := mxA_ge0 (c := c) (f := f) n
    show c ≤ if mxA c f n < f n then f n else mxA c f n
    split <;> omega
theorem mxA_ge {c k : Nat} {f : Nat → Nat} : ∀ {n}, k < n → f k ≤ mxA c f n
  | 0, h => absurd h (Nat.not_lt_zero _)
  | n + 1, h => by
    show f k ≤ if mxA c f n < f n then f n else mxA c f n
    by_cases e : k = n
    · subst e; split <;> omega
    · have := mxA_ge (c := c) (f := f) (show k < n by omega)
      split <;> omega
theorem mxA_lub {c b : Nat} {f : Nat → Nat} (hc : c ≤ b) : ∀ {n}, (∀ k, k < n → f k ≤ b) → mxA c f n ≤ b
  | 0, _ => hc
  | n + 1, h => by
    have h1 := mxA_lub hc (fun k hk => h k (Nat.lt_succ_of_lt hk))
    have h2 := h n (Nat.lt_succ_self n)
    show (if mxA c f n < f n then f n else mxA c f n) ≤ b
    split <;> assumption
theorem mx2_ge {f : Nat → Nat → Nat} {m d : Nat} (hd : d < 7) (hs : sb m d = m) : ∀ {n}, m < n → f m d ≤ mx2 f n
  | 0, h => absurd h (Nat.not_lt_zero _)
  | n + 1, h => by
    show f m d ≤ mxA (mx2 f n) (atB f n) 7
    by_cases e : m = n
    · subst e
      have h1 := mxA_ge (c := mx2 f m) (f := atB f m) hd
      have h2 : atB f m d = f m d := if_pos hs
      omega
    · exact Nat.le_trans (mx2_ge hd hs (show m < n by omega)) (mxA_ge0 7)
theorem mx2_lub {f : Nat → Nat → Nat} {b : Nat} : ∀ {n}, (∀ m, m < n → ∀ d, d < 7 → sb m d = m → f m d ≤ b) → mx2 f n ≤ b
  | 0, _ => Nat.zero_le _
  | n + 1, h => by
    refine mxA_lub (mx2_lub (fun m hm => h m (Nat.lt_succ_of_lt hm))) (fun k hk => ?_)
    unfold atB
    split
    · exact h n (Nat.lt_succ_self n) k hk (by assumption)
    · exact Nat.zero_le _
theorem sb_bk : ∀ m, m < 64 → ∀ d, d < 7 → sb (63 - sb (63 - m) d) d = sb m d ∧ sb m d < 64 := by decide +kernel
theorem mx2_rev {f g : Nat → Nat → Nat} (hg : ∀ m, m < 64 → ∀ d, d < 7 → g m d = g (sb m d) d) (h : ∀ m, m < 64 → ∀ d, d < 7 → f (63 - m) d = g m d) : mx2 f 64 = mx2 g 64 := by
  refine Nat.le_antisymm (mx2_lub (fun m hm d hd hs => ?_)) (mx2_lub (fun m hm d hd hs => ?_))
  · have h1 := h (63 - m) (by omega) d hd
    rw [show 63 - (63 - m) = m by omega] at h1
    rw [h1, hg _ (by omega) d hd]
    exact mx2_ge hd (sb_f6 _ (by omega) d hd) (sb_bk _ (by omega) d hd).2
  · have k1 := (sb_bk (63 - m) (by omega) d hd).2
    have h1 := h (63 - sb (63 - m) d) (by omega) d hd
    rw [show 63 - (63 - sb (63 - m) d) = sb (63 - m) d by omega, hg _ (by omega) d hd, (sb_bk m hm d hd).1, hs] at h1
    rw [← h1]
    exact mx2_ge hd (sb_f6 _ (by omega) d hd) k1
section Way
variable {t : Nat} {ls : List Lk}
theorem CV_sb {m d : Nat} (hm : m < 64) (hd : d < 7) : CV ls (sb m d) d = CV ls m d := by
  show EK ls (fun _ y => cvB (sb (sb m d) d) (sl d) y) ls.length = EK ls (fun _ y => cvB (sb m d) (sl d) y) ls.length
  rw [sb_f6 m hm d hd]
theorem pS_sb {m d : Nat} (hm : m < 64) (hd : d < 7) : pS ls m d = pS ls (sb m d) d := by
  unfold pS
  rw [CV_sb hm hd]
theorem CU_sb {m d : Nat} (hm : m < 64) (hd : d < 7) : CU ls (sb m d) d = CU ls m d := by
  cases d with
  | zero => rfl
  | succ d =>
    show EK ls (fun _ y => cvB (sb (sb m (d + 1)) d) (sl d) y) ls.length = EK ls (fun _ y => cvB (sb m d) (sl d) y) ls.length
    rw [sb_f1 m hm d (by omega)]
theorem mdN_sb {m d : Nat} (hm : m < 64) (hd : d < 7) : mdN ls m d = mdN ls (sb m d) d := by
  unfold mdN pU pS
  rw [CV_sb hm hd, CU_sb hm hd]
theorem lcN_sb {m d : Nat} (hm : m < 64) (hd : d < 7) : lcN ls m d = lcN ls (sb m d) d := by
  unfold lcN
  rw [sb_f6 m hm d hd]
theorem stN_sb {m d : Nat} (hm : m < 64) (hd : d < 7) : stN ls m d = stN ls (sb m d) d := by
  unfold stN
  rw [← pS_sb hm hd]
theorem spmd_mk (ht : t < 16) (hO : ∀ x ∈ ls, okK x) : sp2 (mdN (mR t ls)) = sp2 (mdN ls) := sp2_rev (fun m hm d hd => mdN_sb hm hd) (fun m hm d hd => mdN_mk ht hO hm hd)
theorem splc_mk (hO : ∀ x ∈ ls, okK x) : sp2 (lcN (mR t ls)) = sp2 (lcN ls) := sp2_rev (fun m hm d hd => lcN_sb hm hd) (fun m hm d hd => lcN_mk hO hm hd)
theorem mxst_mk (ht : t < 16) (hO : ∀ x ∈ ls, okK x) : mx2 (stN (mR t ls)) 64 = mx2 (stN ls) 64 := mx2_rev (fun m hm d hd => stN_sb hm hd) (fun m hm d hd => by unfold stN; rw [pS_mk ht hO hm hd])
theorem spN_at (y : Lk) : spN y = sp2 (fun m d => oneI (ldB (sb m d) d y = true)) := by
  show sumN (fun m => sumN (spD y m) 7) 64 = sumN (fun m => sumN (atB (fun m d => oneI (ldB (sb m d) d y = true)) m) 7) 64
  refine sumN_c (fun m _ => sumN_c (fun d _ => ?_))
  show oneI (sb m d = m ∧ ldB m d y = true) = if sb m d = m then oneI (ldB (sb m d) d y = true) else 0
  by_cases q : sb m d = m
  · rw [if_pos q, q]
    exact oneI_c ⟨fun z => z.2, fun z => ⟨rfl, z⟩⟩
  · rw [if_neg q, oneI_f (fun z => q z.1)]
theorem spN_mk {y : Lk} (h : okK y) : spN (mk t y) = spN y := by
  rw [spN_at, spN_at]
  exact sp2_rev (fun m hm d hd => by rw [sb_f6 m hm d hd]) (fun m hm d hd => by rw [ldB_mk hm hd h])
theorem mxp_mk (ht : t < 16) (hO : ∀ x ∈ ls, okK x) : maxN (pts (mR t ls)) 64 = maxN (pts ls) 64 := maxN_r64 (fun m hm => pts_mk ht hO hm)
theorem mnp_mk (ht : t < 16) (hO : ∀ x ∈ ls, okK x) : minN (pts (mR t ls)) 64 = minN (pts ls) 64 := minN_r64 (fun m hm => pts_mk ht hO hm)
end Way
/-! the acts of the mirror -/
def mS (t : Nat) (s : St) : St := (mR t s.1, s.2.1.map (mR t), s.2.2.1.map (mR t), s.2.2.2)
theorem rmb_mk (t : Nat) (hs : List (List Lk)) (ls : List Lk) : rmb (hs.map (mR t)) (mR t ls) = (rmb hs ls).map (mR t) := by
  unfold rmb
  rw [List.length_map, List.map_append]
  split
  · rw [← List.map_drop]; rfl
  · rfl
theorem act_mk (t : Nat) (s : St) (ls : List Lk) : act (mS t s) (mR t ls) = mS t (act s ls) := by
  show (mR t ls, rmb (s.2.1.map (mR t)) (mR t s.1), s.2.2.1.map (mR t), s.2.2.2) = _
  rw [rmb_mk]; rfl
theorem IX_n {i n : Nat} (h : i < n) : IX (nI i) n := ⟨i, h, rfl⟩
theorem LF_n {b e : Nat} (h : b < e) (he : e ≤ 64) : LF (nI b) (nI e) := ⟨b, e, h, he, rfl, rfl⟩
section Acts
variable {t : Nat} {s : St}
theorem add_mk (ht : t < 16) {x y b e : Nat} (hx : x < 16) (hy : y < 16) (hb : b < e) (he : e ≤ 64) : f_add (nI (x ^^^ t)) (nI (y ^^^ t)) (nI (64 - e)) (nI (64 - b)) (mS t s) = ((f_add (nI x) (nI y) (nI b) (nI e) s).1, mS t (f_add (nI x) (nI y) (nI b) (nI e) s).2) ∧ (x = y → (f_add (nI x) (nI y) (nI b) (nI e) s).1 = -2) ∧ (x ≠ y → s.1.length = 40 → (f_add (nI x) (nI y) (nI b) (nI e) s).1 = -3) ∧ (x ≠ y → s.1.length ≠ 40 → (f_add (nI x) (nI y) (nI b) (nI e) s).1 = nI s.1.length) := by
  have hx' := xr1 t ht x hx
  have hy' := xr1 t ht y hy
  have L : (mS t s).1.length = s.1.length := mR_len
  by_cases q : x = y
  · subst q
    have e1 : f_add (nI x) (nI x) (nI b) (nI e) s = (-2, s) := by
      unfold f_add
      rw [ci_f (fun z => z ⟨IX_n hx, IX_n hx⟩), ci_t (fun z => z.2 rfl)]
    have e2 : f_add (nI (x ^^^ t)) (nI (x ^^^ t)) (nI (64 - e)) (nI (64 - b)) (mS t s) = (-2, mS t s) := by
      unfold f_add
      rw [ci_f (fun z => z ⟨IX_n hx', IX_n hx'⟩), ci_t (fun z => z.2 rfl)]
    rw [e1, e2]
    exact ⟨rfl, fun _ => rfl, fun z => absurd rfl z, fun z => absurd rfl z⟩
  · have q' : x ^^^ t ≠ y ^^^ t := fun z => q (by
      have z2 := congrArg (fun w => w ^^^ t) z
      simp only [xr2 t ht x hx, xr2 t ht y hy] at z2
      exact z2)
    by_cases n : s.1.length = 40
    · have e1 : f_add (nI x) (nI y) (nI b) (nI e) s = (-3, s) := by
        unfold f_add
        rw [ci_f (fun z => z ⟨IX_n hx, IX_n hy⟩), ci_f (fun z => z ⟨LF_n hb he, fun k => q ((nI_eq (by omega) (by omega)).mp k)⟩), ci_t n]
      have e2 : f_add (nI (x ^^^ t)) (nI (y ^^^ t)) (nI (64 - e)) (nI (64 - b)) (mS t s) = (-3, mS t s) := by
        unfold f_add
        rw [ci_f (fun z => z ⟨IX_n hx', IX_n hy'⟩), ci_f (fun z => z ⟨LF_n (by omega) (by omega), fun k => q' ((nI_eq (by omega) (by omega)).mp k)⟩), ci_t (L.trans n)]
      rw [e1, e2]
      exact ⟨rfl, fun z => absurd z q, fun _ _ => rfl, fun _ z => absurd n z⟩
    · have e1 : f_add (nI x) (nI y) (nI b) (nI e) s = (nI s.1.length, act s (s.1 ++ [(x, y, b, e)])) := by
        unfold f_add
        rw [ci_f (fun z => z ⟨IX_n hx, IX_n hy⟩), ci_f (fun z => z ⟨LF_n hb he, fun k => q ((nI_eq (by omega) (by omega)).mp k)⟩), ci_f n, tN_n (by omega), tN_n (by omega), tN_n (by omega), tN_n (by omega)]
      have e2 : f_add (nI (x ^^^ t)) (nI (y ^^^ t)) (nI (64 - e)) (nI (64 - b)) (mS t s) = (nI s.1.length, act (mS t s) (mR t (s.1 ++ [(x, y, b, e)]))) := by
        unfold f_add
        rw [ci_f (fun z => z ⟨IX_n hx', IX_n hy'⟩), ci_f (fun z => z ⟨LF_n (by omega) (by omega), fun k => q' ((nI_eq (by omega) (by omega)).mp k)⟩), ci_f (by rw [L]; exact n), tN_n (by omega), tN_n (by omega), tN_n (by omega), tN_n (by omega), L]
        have : (mS t s).1 ++ [(x ^^^ t, y ^^^ t, 64 - e, 64 - b)] = mR t (s.1 ++ [(x, y, b, e)]) := (List.map_append (f := mk t) (l₁ := s.1) (l₂ := [(x, y, b, e)])).symm
        rw [this]
      rw [e1, e2, act_mk]
      exact ⟨rfl, fun z => absurd z q, fun _ z => absurd z n, fun _ _ => rfl⟩
theorem rem_mk (ht : t < 16) {k : Nat} (hk : k ≤ s.1.length) (h4 : s.1.length ≤ 40) : f_rem (nI k) (mS t s) = ((f_rem (nI k) s).1, mS t (f_rem (nI k) s).2) ∧ (k = s.1.length → (f_rem (nI k) s).1 = -1) ∧ (k ≠ s.1.length → (f_rem (nI k) s).1 = nI (s.1.length - 1)) := by
  have L : (mS t s).1.length = s.1.length := mR_len
  by_cases q : k = s.1.length
  · have z0 : ¬ IX (nI k) s.1.length := fun ⟨j, h1, h2⟩ => by
      have := (nI_eq (by omega) (by omega)).mp h2
      omega
    have e1 : f_rem (nI k) s = (-1, s) := by unfold f_rem; rw [ci_t z0]
    have e2 : f_rem (nI k) (mS t s) = (-1, mS t s) := by unfold f_rem; rw [ci_t (by rw [L]; exact z0)]
    rw [e1, e2]
    exact ⟨rfl, fun _ => rfl, fun z => absurd q z⟩
  · have z0 : IX (nI k) s.1.length := IX_n (by omega)
    have e1 : f_rem (nI k) s = (nI (s.1.length - 1), act s (s.1.eraseIdx k)) := by unfold f_rem; rw [ci_f (fun z => z z0), tN_n (by omega)]
    have e2 : f_rem (nI k) (mS t s) = (nI (s.1.length - 1), act (mS t s) (mR t (s.1.eraseIdx k))) := by
      unfold f_rem
      rw [L, ci_f (fun z => z z0), tN_n (by omega)]
      have : (mS t s).1.eraseIdx k = mR t (s.1.eraseIdx k) := by
        show (s.1.map (mk t)).eraseIdx k = (s.1.eraseIdx k).map (mk t)
        rw [List.eraseIdx_eq_take_drop_succ, List.eraseIdx_eq_take_drop_succ, List.map_append, List.map_take, List.map_drop]
      rw [this]
    rw [e1, e2, act_mk]
    exact ⟨rfl, fun z => absurd z q, fun _ => rfl⟩
theorem life_mk (ht : t < 16) (hO : ∀ x ∈ s.1, okK x) {k b e : Nat} (hk : k ≤ s.1.length) (h4 : s.1.length ≤ 40) (hb : b < e) (he : e ≤ 64) : f_life (nI k) (nI (64 - e)) (nI (64 - b)) (mS t s) = ((f_life (nI k) (nI b) (nI e) s).1, mS t (f_life (nI k) (nI b) (nI e) s).2) ∧ ((f_life (nI k) (nI b) (nI e) s).1 = -1 ∨ (f_life (nI k) (nI b) (nI e) s).1 = -5 ∨ (f_life (nI k) (nI b) (nI e) s).1 = nI (e - b)) := by
  have L : (mS t s).1.length = s.1.length := mR_len
  by_cases q : k = s.1.length
  · have z0 : ¬ IX (nI k) s.1.length := fun ⟨j, h1, h2⟩ => by
      have := (nI_eq (by omega) (by omega)).mp h2
      omega
    have e1 : f_life (nI k) (nI b) (nI e) s = (-1, s) := by unfold f_life; rw [ci_t z0]
    have e2 : f_life (nI k) (nI (64 - e)) (nI (64 - b)) (mS t s) = (-1, mS t s) := by unfold f_life; rw [ci_t (by rw [L]; exact z0)]
    rw [e1, e2]
    exact ⟨rfl, Or.inl rfl⟩
  · have z0 : IX (nI k) s.1.length := IX_n (by omega)
    obtain ⟨y, hy⟩ := get_of (show k < s.1.length by omega)
    have hy' : (mS t s).1[k]? = some (mk t y) := mR_get hy
    obtain ⟨o1, o2, o3, o4, o5⟩ := hO y (List.mem_of_getElem? hy)
    by_cases w : b = y.2.2.1 ∧ e = y.2.2.2
    · have e1 : f_life (nI k) (nI b) (nI e) s = (-5, s) := by
        unfold f_life
        rw [ci_f (fun z => z z0), ci_f (fun z => z (LF_n hb he)), tN_n (by omega), hy]
        dsimp only
        rw [ci_t ⟨by rw [w.1], by rw [w.2]⟩]
      have e2 : f_life (nI k) (nI (64 - e)) (nI (64 - b)) (mS t s) = (-5, mS t s) := by
        unfold f_life
        rw [L, ci_f (fun z => z z0), ci_f (fun z => z (LF_n (by omega) (by omega))), tN_n (by omega), hy']
        dsimp only
        rw [ci_t ⟨by rw [w.2]; rfl, by rw [w.1]; rfl⟩]
      rw [e1, e2]
      exact ⟨rfl, Or.inr (Or.inl rfl)⟩
    · have e1 : f_life (nI k) (nI b) (nI e) s = (nI (e - b), act s (s.1.set k (y.1, y.2.1, b, e))) := by
        unfold f_life
        rw [ci_f (fun z => z z0), ci_f (fun z => z (LF_n hb he)), tN_n (by omega), hy]
        dsimp only
        rw [ci_f (fun z => w ⟨(nI_eq (by omega) (by omega)).mp z.1, (nI_eq (by omega) (by omega)).mp z.2⟩), tN_n (by omega), tN_n (by omega)]
      have e2 : f_life (nI k) (nI (64 - e)) (nI (64 - b)) (mS t s) = (nI (e - b), act (mS t s) (mR t (s.1.set k (y.1, y.2.1, b, e)))) := by
        unfold f_life
        rw [L, ci_f (fun z => z z0), ci_f (fun z => z (LF_n (by omega) (by omega))), tN_n (by omega), hy']
        dsimp only
        rw [ci_f (fun z => by
          have z1 : 64 - e = 64 - y.2.2.2 := (nI_eq (by omega) (by omega)).mp z.1
          have z2 : 64 - b = 64 - y.2.2.1 := (nI_eq (by omega) (by omega)).mp z.2
          exact w ⟨by omega, by omega⟩), tN_n (by omega), tN_n (by omega), show 64 - b - (64 - e) = e - b by omega]
        have : (mS t s).1.set k ((mk t y).1, (mk t y).2.1, 64 - e, 64 - b) = mR t (s.1.set k (y.1, y.2.1, b, e)) := (List.map_set (f := mk t) (l := s.1) (i := k) (a := (y.1, y.2.1, b, e))).symm
        rw [this]
      rw [e1, e2, act_mk]
      exact ⟨rfl, Or.inr (Or.inr rfl)⟩
theorem clear_mk (hO : ∀ x ∈ s.1, okK x) {m : Nat} (hm : m < 64) : f_clear (nI (63 - m)) (mS t s) = ((f_clear (nI m) s).1, mS t (f_clear (nI m) s).2) ∧ (s.1.countP (lvB (m : Int)) = 0 → (f_clear (nI m) s).1 = -5) ∧ (s.1.countP (lvB (m : Int)) ≠ 0 → (f_clear (nI m) s).1 = nI (s.1.countP (lvB (m : Int))) ∧ (f_clear (nI m) s).2.1 = s.1.filter (fun x => !lvB (m : Int) x)) := by
  have c : (mS t s).1.countP (lvB ((63 - m : Nat) : Int)) = s.1.countP (lvB (m : Int)) := lv_mk hO hm
  by_cases q : s.1.countP (lvB (m : Int)) = 0
  · have e1 : f_clear (nI m) s = (-5, s) := by
      unfold f_clear
      rw [ci_f (fun z => z (IX_n hm)), tN_n (by omega), ci_t q]
    have e2 : f_clear (nI (63 - m)) (mS t s) = (-5, mS t s) := by
      unfold f_clear
      rw [ci_f (fun z => z (IX_n (by omega))), tN_n (by omega), ci_t (c.trans q)]
    rw [e1, e2]
    exact ⟨rfl, fun _ => rfl, fun z => absurd q z⟩
  · have e1 : f_clear (nI m) s = (nI (s.1.countP (lvB (m : Int))), act s (s.1.filter (fun x => !lvB (m : Int) x))) := by
      unfold f_clear
      rw [ci_f (fun z => z (IX_n hm)), tN_n (by omega), ci_f q]
    have e2 : f_clear (nI (63 - m)) (mS t s) = (nI (s.1.countP (lvB (m : Int))), act (mS t s) (mR t (s.1.filter (fun x => !lvB (m : Int) x)))) := by
      unfold f_clear
      rw [ci_f (fun z => z (IX_n (by omega))), tN_n (by omega), ci_f (by rw [c]; exact q), c]
      have : (mS t s).1.filter (fun x => !lvB ((63 - m : Nat) : Int) x) = mR t (s.1.filter (fun x => !lvB (m : Int) x)) := by
        show (s.1.map (mk t)).filter _ = (s.1.filter _).map (mk t)
        rw [List.filter_map]
        congr 1
        exact List.filter_congr (fun x hx => by rw [Function.comp_apply, lvB_mk hm (hO x hx)])
      rw [this]
    rw [e1, e2, act_mk]
    exact ⟨rfl, fun z => absurd z q, fun _ => ⟨rfl, rfl⟩⟩
theorem undo_mk : f_undo (mS t s) = ((f_undo s).1, mS t (f_undo s).2) := by
  have e0 : (mS t s).2.1.getLast? = s.2.1.getLast?.map (mR t) := List.getLast?_map
  have L : (mS t s).2.1.length = s.2.1.length := List.length_map _
  cases h : s.2.1.getLast? with
  | none =>
    have e1 : f_undo s = (-5, s) := by unfold f_undo; rw [h]
    have e2 : f_undo (mS t s) = (-5, mS t s) := by unfold f_undo; rw [e0, h]; rfl
    rw [e1, e2]
  | some q =>
    have e1 : f_undo s = (nI (s.2.1.length - 1), (q, s.2.1.dropLast, s.2.2.1, s.2.2.2)) := by unfold f_undo; rw [h]
    have e2 : f_undo (mS t s) = (nI (s.2.1.length - 1), (mR t q, (mS t s).2.1.dropLast, (mS t s).2.2.1, (mS t s).2.2.2)) := by unfold f_undo; rw [e0, h, L]; rfl
    rw [e1, e2]
    show (_, (mR t q, (s.2.1.map (mR t)).dropLast, s.2.2.1.map (mR t), s.2.2.2)) = (_, (mR t q, s.2.1.dropLast.map (mR t), s.2.2.1.map (mR t), s.2.2.2))
    rw [List.map_dropLast]
theorem keep_mk : f_keep (mS t s) = ((f_keep s).1, mS t (f_keep s).2) := by
  show (nI (mR t s.1).length, _) = _
  rw [mR_len]; rfl
theorem rest_mk : f_rest (mS t s) = ((f_rest s).1, mS t (f_rest s).2) := by
  cases h : s.2.2.1 with
  | none =>
    have e1 : f_rest s = (-5, s) := by unfold f_rest; rw [h]
    have e0 : (mS t s).2.2.1 = none := by show s.2.2.1.map (mR t) = none; rw [h]; rfl
    have e2 : f_rest (mS t s) = (-5, mS t s) := by unfold f_rest; rw [e0]
    rw [e1, e2]
  | some q =>
    have e1 : f_rest s = (nI q.length, act s q) := by unfold f_rest; rw [h]
    have e0 : (mS t s).2.2.1 = some (mR t q) := by show s.2.2.1.map (mR t) = _; rw [h]; rfl
    have e2 : f_rest (mS t s) = (nI (mR t q).length, act (mS t s) (mR t q)) := by unfold f_rest; rw [e0]
    rw [e1, e2, act_mk, mR_len]
end Acts
