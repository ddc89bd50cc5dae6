/-! at how many spans a link is laid -/
noncomputable def sumR (f : Nat → Nat) (n : Nat) : Nat := Nat.rec (motive := fun _ => Nat) 0 (fun k acc => acc + f k) n
theorem sumR_eq (f : Nat → Nat) : ∀ n, sumR f n = sumN f n
  | 0 => rfl
  | n + 1 => by
    show sumR f n + f n = sumN f n + f n
    rw [sumR_eq f n]
noncomputable def allR (p : Nat → Bool) (n : Nat) : Bool := Nat.rec (motive := fun _ => Bool) true (fun k acc => p k && acc) n
theorem allR_at {p : Nat → Bool} : ∀ {n : Nat}, allR p n = true → ∀ k, k < n → p k = true
  | 0, _, k, hk => absurd hk (Nat.not_lt_zero _)
  | n + 1, h, k, hk => by
    have h : (p n && allR p n) = true := h
    rw [Bool.and_eq_true] at h
    by_cases e : k = n
    · rw [e]; exact h.1
    · exact allR_at h.2 k (by omega)
def ldF (f t L K b : Nat) (z : Bool) : Bool := (Nat.ble f b && Nat.ble (b + L) t) && (z || !(Nat.ble f (b - b % K) && Nat.ble (b - b % K + K) t))
noncomputable def spF (f t L K : Nat) (z : Bool) (n : Nat) : Nat := sumR (fun i => bif ldF f t L K (i * L) z then 1 else 0) n
noncomputable def spG (f t : Nat) : Nat := spF f t 64 64 true 1 + spF f t 32 64 false 2 + spF f t 16 32 false 4 + spF f t 8 16 false 8 + spF f t 4 8 false 16 + spF f t 2 4 false 32 + spF f t 1 2 false 64
noncomputable def spchk : Bool := allR (fun f => allR (fun t => Nat.ble t f || (Nat.ble 1 (spG f t) && Nat.ble (spG f t) 11)) 65) 64
theorem spchk_t : spchk = true := by decide +kernel
theorem spG_bd {f t : Nat} (h : f < t) (ht : t ≤ 64) : 1 ≤ spG f t ∧ spG f t ≤ 11 := by
  have h1 := allR_at (allR_at spchk_t f (by omega)) t (by omega)
  rw [Bool.or_eq_true, Bool.and_eq_true, Nat.ble_eq, Nat.ble_eq, Nat.ble_eq] at h1
  omega
theorem blk64 {d : Nat} (hd : d < 7) (g : Nat → Nat) : sumN (fun m => if sb m d = m then g m else 0) 64 = sumN (fun i => g (i * sl d)) (2 ^ d) := by
  have e2 : sumN (fun m => if sb m d = m then g m else 0) 64 = sumN (fun m => if m % sl d = 0 then g m else 0) 64 := by
    refine sumN_c (fun k hk => ?_)
    by_cases q : sb k d = k
    · rw [if_pos q, if_pos ((sb_z k d).mp q)]
    · rw [if_neg q, if_neg (fun z => q ((sb_z k d).mpr z))]
  have e3 := blk_first (sl_64 d hd).2 g (2 ^ d)
  rw [sl_j d hd] at e3
  rw [e2, e3]
theorem cvB_ble (b n : Nat) (y : Lk) : cvB b n y = (Nat.ble y.2.2.1 b && Nat.ble (b + n) y.2.2.2) := by
  rw [Bool.eq_iff_iff, cvB_iff, Bool.and_eq_true, Nat.ble_eq, Nat.ble_eq]
theorem oneI_b (b : Bool) : oneI (b = true) = bif b then 1 else 0 := by
  cases b
  · exact oneI_f (by decide)
  · exact oneI_t rfl
theorem spd_eq (y : Lk) {d : Nat} (hd : d < 7) : sumN (fun m => atB (fun m d => oneI (ldB (sb m d) d y = true)) m d) 64 = spF y.2.2.1 y.2.2.2 (sl d) (sl (d - 1)) (decide (d = 0)) (2 ^ d) := by
  refine (blk64 hd (fun m => oneI (ldB (sb m d) d y = true))).trans ?_
  unfold spF
  rw [sumR_eq]
  refine sumN_c (fun i _ => ?_)
  have e : sb (i * sl d) d = i * sl d := by
    show i * sl d - (i * sl d) % sl d = i * sl d
    rw [Nat.mul_mod_left]; omega
  show oneI (ldB (sb (i * sl d) d) d y = true) = _
  rw [e, oneI_b]
  have e2 : ldB (i * sl d) d y = ldF y.2.2.1 y.2.2.2 (sl d) (sl (d - 1)) (i * sl d) (decide (d = 0)) := by
    show (cvB (i * sl d) (sl d) y && (decide (d = 0) || !cvB (sb (i * sl d) (d - 1)) (sl (d - 1)) y)) = _
    rw [cvB_ble, cvB_ble]; rfl
  rw [e2]
theorem spN_bd {y : Lk} (h : okK y) : 1 ≤ spN y ∧ spN y ≤ 11 := by
  have e : spN y = spG y.2.2.1 y.2.2.2 := by
    rw [spN_at]
    show sumN (fun m => sumN (atB (fun m d => oneI (ldB (sb m d) d y = true)) m) 7) 64 = _
    rw [sumN_swap]
    have e1 : sumN (fun d => sumN (fun m => atB (fun m d => oneI (ldB (sb m d) d y = true)) m d) 64) 7 = sumN (fun d => spF y.2.2.1 y.2.2.2 (sl d) (sl (d - 1)) (decide (d = 0)) (2 ^ d)) 7 := sumN_c (fun d hd => spd_eq y hd)
    refine e1.trans ?_
    show 0 + spF y.2.2.1 y.2.2.2 64 64 true 1 + spF y.2.2.1 y.2.2.2 32 64 false 2 + spF y.2.2.1 y.2.2.2 16 32 false 4 + spF y.2.2.1 y.2.2.2 8 16 false 8 + spF y.2.2.1 y.2.2.2 4 8 false 16 + spF y.2.2.1 y.2.2.2 2 4 false 32 + spF y.2.2.1 y.2.2.2 1 2 false 64 = _
    rw [Nat.zero_add]; rfl
  rw [e]
  exact spG_bd h.2.2.2.1 h.2.2.2.2
/-! the first odd moment -/
theorem fsO_spec (P : Nat → Prop) : ∀ n m, (fsO P n m = -5 ∧ ∀ k, m ≤ k → k < m + n → ¬ P k) ∨ ∃ k, m ≤ k ∧ k < m + n ∧ fsO P n m = nI k ∧ P k ∧ ∀ j, m ≤ j → j < k → ¬ P j
  | 0, m => Or.inl ⟨rfl, fun k h1 h2 => by omega⟩
  | n + 1, m => by
    show (ci (P m) (nI m) (fsO P n (m + 1)) = -5 ∧ _) ∨ ∃ k, m ≤ k ∧ k < m + (n + 1) ∧ ci (P m) (nI m) (fsO P n (m + 1)) = nI k ∧ P k ∧ ∀ j, m ≤ j → j < k → ¬ P j
    rcases Classical.em (P m) with q | q
    · right
      exact ⟨m, Nat.le_refl _, by omega, ci_t q, q, fun j h1 h2 => by omega⟩
    · rw [ci_f q]
      rcases fsO_spec P n (m + 1) with ⟨h1, h2⟩ | ⟨k, h1, h2, h3, h4, h5⟩
      · left
        refine ⟨h1, fun k k1 k2 => ?_⟩
        by_cases e : k = m
        · rw [e]; exact q
        · exact h2 k (by omega) (by omega)
      · right
        refine ⟨k, by omega, by omega, h3, h4, fun j j1 j2 => ?_⟩
        by_cases e : j = m
        · rw [e]; exact q
        · exact h5 j (by omega) j2
/-! the moments at which two points are joined -/
def TI (P : Nat → Prop) (n : Nat) (t : TG) : Prop :=
  t.1 = sumN (fun k => oneI (P k)) n ∧
  ((t.1 = 0 ∧ t.2.1 = -5 ∧ t.2.2.1 = -5 ∧ ∀ k, k < n → ¬ P k) ∨ ∃ f l, 0 < t.1 ∧ f < n ∧ l < n ∧ t.2.1 = nI f ∧ t.2.2.1 = nI l ∧ P f ∧ P l ∧ ∀ k, k < n → P k → f ≤ k ∧ k ≤ l) ∧
  (t.2.2.2.1 ≤ n ∧ (∀ k, n ≤ k + t.2.2.2.1 → k < n → P k) ∧ (t.2.2.2.1 < n → ¬ P (n - t.2.2.2.1 - 1))) ∧
  ((t.2.2.2.2.1 = 0 ∧ t.2.2.2.2.2 = -5) ∨ ∃ b, t.2.2.2.2.2 = nI b ∧ 0 < t.2.2.2.2.1 ∧ b + t.2.2.2.2.1 ≤ n ∧ (∀ k, b ≤ k → k < b + t.2.2.2.2.1 → P k) ∧ (0 < b → ¬ P (b - 1))) ∧
  (∀ i l, i + l ≤ n → (∀ k, i ≤ k → k < i + l → P k) → l ≤ t.2.2.2.2.1) ∧ t.2.2.2.1 ≤ t.1 ∧ t.2.2.2.2.1 ≤ t.1
theorem nI_bg {n r : Nat} (hr : r ≤ n + 1) : nI n - nI r + 1 = nI (n + 1 - r) := by
  have e : nI n - nI r + 1 = nI n + 1 - nI r := by
    rw [Int32.sub_eq_add_neg, Int32.sub_eq_add_neg, Int32.add_assoc, Int32.add_assoc, Int32.add_comm (-nI r) 1]
  rw [e, nI_p1q]
  exact pk_sub hr
theorem TI_all (P : Nat → Prop) : ∀ n, n ≤ 64 → TI P n (tgN P n)
  | 0, _ => ⟨rfl, Or.inl ⟨rfl, rfl, rfl, fun k hk => absurd hk (Nat.not_lt_zero _)⟩, ⟨Nat.le_refl _, fun k _ hk => absurd hk (Nat.not_lt_zero _), fun h => absurd h (Nat.not_lt_zero _)⟩, Or.inl ⟨rfl, rfl⟩, fun i l h _ => by show l ≤ 0; omega, Nat.le_refl _, Nat.le_refl _⟩
  | n + 1, hn => by
    obtain ⟨h1, h2, ⟨h3, h4, h5⟩, h6, h7, h8, h9⟩ := TI_all P n (by omega)
    show TI P (n + 1) (tgS P n (tgN P n))
    generalize tgN P n = T at *
    obtain ⟨mn, fi, la, ro, lo, bg⟩ := T
    simp only at h1 h2 h3 h4 h5 h6 h7 h8 h9
    rcases Classical.em (P n) with q | q
    · have e : tgS P n (mn, fi, la, ro, lo, bg) = (mn + 1, ci (mn = 0) (nI n) fi, nI n, ro + 1, ci (lo < ro + 1) (ro + 1) lo, ci (lo < ro + 1) (nI n - nI (ro + 1) + 1) bg) := by
        unfold tgS
        simp only [ci_t q, ci_and q]
      rw [e]
      refine ⟨?_, Or.inr ?_, ⟨by show ro + 1 ≤ n + 1; omega, fun k k1 k2 => ?_, fun k1 => ?_⟩, ?_, fun i l k1 k2 => ?_, by show ro + 1 ≤ mn + 1; omega, ?_⟩
      · show mn + 1 = sumN _ n + oneI (P n)
        rw [oneI_t q, ← h1]
      · rcases h2 with ⟨z1, z2, z3, z4⟩ | ⟨f, l, z0, z1, z2, z3, z4, z5, z6, z7⟩
        · refine ⟨n, n, Nat.succ_pos _, Nat.lt_succ_self n, Nat.lt_succ_self n, ci_t z1, rfl, q, q, fun k k1 k2 => ?_⟩
          by_cases w : k = n
          · omega
          · exact absurd k2 (z4 k (by omega))
        · refine ⟨f, n, Nat.succ_pos _, by omega, Nat.lt_succ_self n, (ci_f (by omega)).trans z3, rfl, z5, q, fun k k1 k2 => ?_⟩
          by_cases w : k = n
          · omega
          · have := z7 k (by omega) k2
            omega
      · have k1 : n + 1 ≤ k + (ro + 1) := k1
        by_cases w : k = n
        · rw [w]; exact q
        · exact h4 k (by omega) (by omega)
      · have k1 : ro + 1 < n + 1 := k1
        show ¬ P (n + 1 - (ro + 1) - 1)
        rw [show n + 1 - (ro + 1) - 1 = n - ro - 1 by omega]
        exact h5 (by omega)
      · show (ci (lo < ro + 1) (ro + 1) lo = 0 ∧ _) ∨ ∃ b, ci (lo < ro + 1) (nI n - nI (ro + 1) + 1) bg = nI b ∧ 0 < ci (lo < ro + 1) (ro + 1) lo ∧ b + ci (lo < ro + 1) (ro + 1) lo ≤ n + 1 ∧ (∀ k, b ≤ k → k < b + ci (lo < ro + 1) (ro + 1) lo → P k) ∧ (0 < b → ¬ P (b - 1))
        rcases Nat.lt_or_ge lo (ro + 1) with w | w
        · rw [ci_t w, ci_t w]
          right
          refine ⟨n - ro, ?_, by omega, by omega, fun k k1 k2 => ?_, fun k1 => h5 (by omega)⟩
          · have := nI_bg (n := n) (r := ro + 1) (by omega)
            rw [show n + 1 - (ro + 1) = n - ro by omega] at this
            exact this
          · by_cases v : k = n
            · rw [v]; exact q
            · exact h4 k (by omega) (by omega)
        · rw [ci_f (show ¬ lo < ro + 1 by omega), ci_f (show ¬ lo < ro + 1 by omega)]
          rcases h6 with ⟨z1, z2⟩ | ⟨b, z1, z2, z3, z4, z5⟩
          · omega
          · exact Or.inr ⟨b, z1, z2, by omega, z4, z5⟩
      · show l ≤ ci (lo < ro + 1) (ro + 1) lo
        have k3 : lo ≤ ci (lo < ro + 1) (ro + 1) lo ∧ ro + 1 ≤ ci (lo < ro + 1) (ro + 1) lo := by
          rcases Nat.lt_or_ge lo (ro + 1) with w | w
          · rw [ci_t w]; omega
          · rw [ci_f (by omega)]; omega
        rcases Nat.lt_or_ge n (i + l) with w | w
        · rcases Nat.lt_or_ge (ro + 1) l with v | v
          · exact absurd (k2 (n - ro - 1) (by omega) (by omega)) (h5 (by omega))
          · omega
        · have := h7 i l w k2
          omega
      · show ci (lo < ro + 1) (ro + 1) lo ≤ mn + 1
        rcases Nat.lt_or_ge lo (ro + 1) with w | w
        · rw [ci_t w]; omega
        · rw [ci_f (by omega)]; omega
    · have q2 : ¬ (P n ∧ mn = 0) := fun z => q z.1
      have q3 : ¬ lo < 0 := Nat.not_lt_zero _
      have e : tgS P n (mn, fi, la, ro, lo, bg) = (mn, fi, la, 0, lo, bg) := by
        unfold tgS
        simp only [ci_f q, ci_f q2, ci_f q3]
      rw [e]
      refine ⟨?_, ?_, ⟨Nat.zero_le _, fun k k1 k2 => ?_, fun _ => ?_⟩, ?_, fun i l k1 k2 => ?_, Nat.zero_le _, h9⟩
      · show mn = sumN _ n + oneI (P n)
        rw [oneI_f q, ← h1]; rfl
      · rcases h2 with ⟨z1, z2, z3, z4⟩ | ⟨f, l, z0, z1, z2, z3, z4, z5, z6, z7⟩
        · refine Or.inl ⟨z1, z2, z3, fun k k1 => ?_⟩
          by_cases w : k = n
          · rw [w]; exact q
          · exact z4 k (by omega)
        · refine Or.inr ⟨f, l, z0, by omega, by omega, z3, z4, z5, z6, fun k k1 k2 => ?_⟩
          by_cases w : k = n
          · exact absurd (show P n by rw [← w]; exact k2) q
          · exact z7 k (by omega) k2
      · have k1 : n + 1 ≤ k + 0 := k1
        omega
      · show ¬ P (n + 1 - 0 - 1)
        rw [show n + 1 - 0 - 1 = n by omega]; exact q
      · rcases h6 with z | ⟨b, z1, z2, z3, z4, z5⟩
        · exact Or.inl z
        · have z3 : b + lo ≤ n := z3
          exact Or.inr ⟨b, z1, z2, by show b + lo ≤ n + 1; omega, z4, z5⟩
      · show l ≤ lo
        rcases Nat.lt_or_ge n (i + l) with w | w
        · rcases Nat.eq_zero_or_pos l with v | v
          · omega
          · exact absurd (k2 n (by omega) w) q
        · exact h7 i l w k2
theorem tg_rev {P P' : Nat → Prop} (h : ∀ m, m < 64 → (P' (63 - m) ↔ P m)) : (tgN P' 64).1 = (tgN P 64).1 ∧ (tgN P' 64).2.2.2.2.1 = (tgN P 64).2.2.2.2.1 ∧
    (((tgN P 64).2.1 = -5 ∧ (tgN P 64).2.2.1 = -5 ∧ (tgN P' 64).2.1 = -5) ∨ ∃ f l, f < 64 ∧ l < 64 ∧ (tgN P 64).2.1 = nI f ∧ (tgN P 64).2.2.1 = nI l ∧ (tgN P' 64).2.2.1 = nI (63 - f) ∧ (tgN P' 64).2.1 = nI (63 - l)) := by
  obtain ⟨a1, a2, -, a6, a7, -, -⟩ := TI_all P 64 (Nat.le_refl _)
  obtain ⟨b1, b2, -, b6, b7, -, -⟩ := TI_all P' 64 (Nat.le_refl _)
  have hr : ∀ m, m < 64 → (P (63 - m) ↔ P' m) := fun m hm => by
    have := h (63 - m) (by omega)
    rw [show 63 - (63 - m) = m by omega] at this
    exact this.symm
  have lng : ∀ {A B : Nat → Prop} {lo lo' : Nat} {bg : Int32}, (∀ m, m < 64 → (B (63 - m) ↔ A m)) → ((lo = 0 ∧ bg = -5) ∨ ∃ b, bg = nI b ∧ 0 < lo ∧ b + lo ≤ 64 ∧ (∀ k, b ≤ k → k < b + lo → A k) ∧ (0 < b → ¬ A (b - 1))) → (∀ i l, i + l ≤ 64 → (∀ k, i ≤ k → k < i + l → B k) → l ≤ lo') → lo ≤ lo' := by
    intro A B lo lo' bg hAB hA hB
    rcases hA with ⟨z, -⟩ | ⟨b, -, z2, z3, z4, -⟩
    · omega
    · refine hB (64 - b - lo) lo (by omega) (fun k k1 k2 => ?_)
      have := hAB (63 - k) (by omega)
      rw [show 63 - (63 - k) = k by omega] at this
      exact this.mpr (z4 _ (by omega) (by omega))
  have e1 : (tgN P' 64).1 = (tgN P 64).1 := by
    rw [a1, b1]
    exact sumN_r64 (fun k hk => oneI_c (h k hk))
  refine ⟨e1, Nat.le_antisymm (lng hr b6 a7) (lng h a6 b7), ?_⟩
  rcases a2 with ⟨z1, z2, z3, z4⟩ | ⟨f, l, z0, z1, z2, z3, z4, z5, z6, z7⟩
  · left
    refine ⟨z2, z3, ?_⟩
    rcases b2 with ⟨-, y2, -, -⟩ | ⟨f', l', y0, -⟩
    · exact y2
    · omega
  · right
    rcases b2 with ⟨y1, -⟩ | ⟨f', l', y0, y1, y2, y3, y4, y5, y6, y7⟩
    · omega
    · have c1 := z7 (63 - f') (by omega) ((hr f' y1).mpr y5)
      have c2 := z7 (63 - l') (by omega) ((hr l' y2).mpr y6)
      have c3 := y7 (63 - f) (by omega) ((h f z1).mpr z5)
      have c4 := y7 (63 - l) (by omega) ((h l z2).mpr z6)
      exact ⟨f, l, z1, z2, z3, z4, by rw [y4, show l' = 63 - f by omega], by rw [y3, show f' = 63 - l by omega]⟩
