/-! sets of links and of points, as bits -/
def b5 (x : Int32) (i : Nat) : Bool := x.toBitVec.getLsbD i
def b6 (x : Int64) (i : Nat) : Bool := x.toBitVec.getLsbD i
theorem b6_or (x y : Int64) (i : Nat) : b6 (x ||| y) i = (b6 x i || b6 y i) := by unfold b6; rw [Int64.toBitVec_or, BitVec.getLsbD_or]
theorem b6_and (x y : Int64) (i : Nat) : b6 (x &&& y) i = (b6 x i && b6 y i) := by unfold b6; rw [Int64.toBitVec_and, BitVec.getLsbD_and]
theorem b6_0 (i : Nat) : b6 0 i = false := by
  have e : (0 : Int64).toBitVec = 0#64 := by decide
  unfold b6; rw [e, BitVec.getLsbD_zero]
theorem b6_one_e : ∀ k, k < 63 → ((1 : Int64) <<< ((nI k).toInt64 &&& 63)).toBitVec = BitVec.twoPow 64 k := by decide +kernel
theorem b6_one {k : Nat} (hk : k < 63) (i : Nat) : b6 ((1 : Int64) <<< ((nI k).toInt64 &&& 63)) i = decide (i = k) := by
  unfold b6
  rw [b6_one_e k hk, BitVec.getLsbD_twoPow]
  by_cases e : i = k
  · subst e; simp; omega
  · have e2 : ¬ k = i := fun q => e q.symm
    simp [e, e2]
theorem b5_or (x y : Int32) (i : Nat) : b5 (x ||| y) i = (b5 x i || b5 y i) := by unfold b5; rw [Int32.toBitVec_or, BitVec.getLsbD_or]
theorem b5_and (x y : Int32) (i : Nat) : b5 (x &&& y) i = (b5 x i && b5 y i) := by unfold b5; rw [Int32.toBitVec_and, BitVec.getLsbD_and]
theorem b5_0 (i : Nat) : b5 0 i = false := by
  have e : (0 : Int32).toBitVec = 0#32 := by decide
  unfold b5; rw [e, BitVec.getLsbD_zero]
theorem b5_one_e : ∀ k, k < 32 → ((1 : Int32) <<< (nI k &&& 31)).toBitVec = BitVec.twoPow 32 k := by decide +kernel
theorem b5_one {k : Nat} (hk : k < 32) (i : Nat) : b5 ((1 : Int32) <<< (nI k &&& 31)) i = decide (i = k) := by
  unfold b5
  rw [b5_one_e k hk, BitVec.getLsbD_twoPow]
  by_cases e : i = k
  · subst e; simp; omega
  · have e2 : ¬ k = i := fun q => e q.symm
    simp [e, e2]
theorem b5_ext {x y : Int32} (h : ∀ i, b5 x i = b5 y i) : x = y := by
  apply Int32.toBitVec_inj.mp
  apply BitVec.eq_of_getLsbD_eq
  intro i _
  exact h i
theorem b6_ext {x y : Int64} (h : ∀ i, b6 x i = b6 y i) : x = y := by
  apply Int64.toBitVec_inj.mp
  apply BitVec.eq_of_getLsbD_eq
  intro i _
  exact h i
theorem b5_ne {x : Int32} : x ≠ 0 ↔ ∃ i, b5 x i = true := by
  constructor
  · intro h
    rcases Classical.em (∃ i, b5 x i = true) with q | q
    · exact q
    · exact absurd (b5_ext (fun i => by rw [b5_0]; rcases hb : b5 x i with _ | _; rfl; exact absurd ⟨i, hb⟩ q)) h
  · rintro ⟨i, hi⟩ e
    rw [e, b5_0] at hi
    cases hi
theorem b6_ne {x : Int64} : x ≠ 0 ↔ ∃ i, b6 x i = true := by
  constructor
  · intro h
    rcases Classical.em (∃ i, b6 x i = true) with q | q
    · exact q
    · exact absurd (b6_ext (fun i => by rw [b6_0]; rcases hb : b6 x i with _ | _; rfl; exact absurd ⟨i, hb⟩ q)) h
  · rintro ⟨i, hi⟩ e
    rw [e, b6_0] at hi
    cases hi
theorem b6_1 (i : Nat) : b6 1 i = decide (i = 0) := by
  have e : (1 : Int64).toBitVec = BitVec.twoPow 64 0 := by decide
  unfold b6
  rw [e, BitVec.getLsbD_twoPow]
  by_cases q : i = 0
  · subst q; simp
  · have q2 : ¬ 0 = i := fun z => q z.symm
    simp [q, q2]
theorem b5_1 (i : Nat) : b5 1 i = decide (i = 0) := by
  have e : (1 : Int32).toBitVec = BitVec.twoPow 32 0 := by decide
  unfold b5
  rw [e, BitVec.getLsbD_twoPow]
  by_cases q : i = 0
  · subst q; simp
  · have q2 : ¬ 0 = i := fun z => q z.symm
    simp [q, q2]
theorem sh6_e : ∀ k, k < 63 → (((nI k).toInt64 &&& 63).toBitVec.smod 64).toNat = k := by decide +kernel
theorem sh5_e : ∀ k, k < 32 → ((nI k &&& 31).toBitVec.smod 32).toNat = k := by decide +kernel
theorem b6_shr {k : Nat} (hk : k < 63) (x : Int64) : b6 (x >>> ((nI k).toInt64 &&& 63)) 0 = b6 x k := by
  unfold b6
  rw [Int64.toBitVec_shiftRight]
  show (x.toBitVec.sshiftRight (((nI k).toInt64 &&& 63).toBitVec.smod 64).toNat).getLsbD 0 = _
  rw [sh6_e k hk, BitVec.getLsbD_sshiftRight]
  simp
  omega
theorem b5_shr {k : Nat} (hk : k < 31) (x : Int32) : b5 (x >>> (nI k &&& 31)) 0 = b5 x k := by
  unfold b5
  rw [Int32.toBitVec_shiftRight]
  show (x.toBitVec.sshiftRight ((nI k &&& 31).toBitVec.smod 32).toNat).getLsbD 0 = _
  rw [sh5_e k (by omega), BitVec.getLsbD_sshiftRight]
  simp
  omega
/-- whether a link is in a set, as it is asked -/
theorem b6_t {k : Nat} (hk : k < 63) (x : Int64) : (x >>> ((nI k).toInt64 &&& 63)) &&& 1 = 1 ↔ b6 x k = true := by
  rw [← b6_shr hk x]
  constructor
  · intro h
    have := congrArg (fun z => b6 z 0) h
    simp only [b6_and, b6_1] at this
    simpa using this
  · intro h
    apply b6_ext
    intro i
    rw [b6_and, b6_1]
    by_cases e : i = 0
    · subst e; simp [h]
    · simp [e]
theorem b5_t {k : Nat} (hk : k < 31) (x : Int32) : (x >>> (nI k &&& 31)) &&& 1 = 1 ↔ b5 x k = true := by
  rw [← b5_shr hk x]
  constructor
  · intro h
    have := congrArg (fun z => b5 z 0) h
    simp only [b5_and, b5_1] at this
    simpa using this
  · intro h
    apply b5_ext
    intro i
    rw [b5_and, b5_1]
    by_cases e : i = 0
    · subst e; simp [h]
    · simp [e]
theorem b5_t0 {k : Nat} (hk : k < 31) (x : Int32) : (x >>> (nI k &&& 31)) &&& 1 = 0 ↔ ¬ b5 x k = true := by
  rw [← b5_t hk x]
  constructor
  · intro h q
    rw [h] at q
    exact absurd q (by decide)
  · intro h
    apply b5_ext
    intro i
    rw [b5_and, b5_1, b5_0]
    by_cases e : i = 0
    · subst e
      rw [b5_shr hk x]
      rcases hb : b5 x k with _ | _
      · rfl
      · exact absurd ((b5_t hk x).mpr hb) h
    · simp [e]
theorem lgc_eq {x y : Int64} : lg_cmp x y = 0 ↔ x = y := lg_cmp_eq x y
/-- how many bits: taking the lowest away -/
def pc6 (x : Int64) : Nat := sumN (fun i => if b6 x i = true then 1 else 0) 64
theorem low6 {x : Int64} (h : x ≠ 0) : ∃ l, l < 64 ∧ b6 x l = true ∧ ∀ i, b6 (x &&& (x - 1)) i = (b6 x i && decide (i ≠ l)) := by
  obtain ⟨j, hj⟩ := b6_ne.mp h
  obtain ⟨l, h1, h2, h3⟩ := least_of (fun i => b6 x i = true) j hj
  have hl64 : l < 64 := by
    rcases Nat.lt_or_ge l 64 with q | q
    · exact q
    · have h1 : x.toBitVec.getLsbD l = true := h1
      rw [BitVec.getLsbD_of_ge _ _ q] at h1
      cases h1
  refine ⟨l, hl64, h1, fun i => ?_⟩
  have hx0 : x.toBitVec ≠ 0#64 := fun e => h (Int64.toBitVec_inj.mp e)
  rw [b6_and]
  -- as numbers: X = 2^l * (2 u + 1)
  have hX : ∀ i, x.toBitVec.toNat.testBit i = b6 x i := fun i => rfl
  generalize hXe : x.toBitVec.toNat = X at hX
  have hlow : X % 2 ^ l = 0 := by
    apply Nat.eq_of_testBit_eq
    intro i
    rw [Nat.testBit_mod_two_pow, Nat.zero_testBit]
    by_cases q : i < l
    · have := h3 i q
      rw [hX]
      simp only [Bool.not_eq_true] at this
      simp [this]
    · simp [q]
  have hbit : X.testBit l = true := (hX l).trans h1
  have hodd : X / 2 ^ l % 2 = 1 := by
    rw [Nat.testBit_eq_decide_div_mod_eq] at hbit
    simpa using hbit
  have hp : 0 < 2 ^ l := Nat.two_pow_pos l
  obtain ⟨u, hu⟩ : ∃ u, X = 2 ^ l * (2 * u + 1) := by
    refine ⟨X / 2 ^ l / 2, ?_⟩
    have e1 : X = 2 ^ l * (X / 2 ^ l) := by
      have := Nat.div_add_mod X (2 ^ l)
      omega
    have e2 : X / 2 ^ l = 2 * (X / 2 ^ l / 2) + 1 := by omega
    rw [← e2]; exact e1
  have hpos : 1 ≤ X := by
    rw [hu]
    exact Nat.mul_pos hp (by omega)
  have hsub : (x - 1).toBitVec.toNat = X - 1 := by
    rw [Int64.toBitVec_sub, BitVec.toNat_sub]
    have e1 : (1 : Int64).toBitVec.toNat = 1 := by decide
    rw [e1, hXe]
    have := x.toBitVec.isLt
    rw [hXe] at this
    omega
  have hm : X - 1 = 2 ^ (l + 1) * u + (2 ^ l - 1) := by
    rw [hu, Nat.mul_add, Nat.mul_one, ← Nat.mul_assoc, Nat.pow_succ]
    omega
  have hb1 : b6 (x - 1) i = (X - 1).testBit i := by
    show (x - 1).toBitVec.toNat.testBit i = _
    rw [hsub]
  rw [hb1]
  rcases Nat.lt_trichotomy i l with q | q | q
  · have hf : b6 x i = false := by
      have := h3 i q
      simpa using this
    rw [hf]; rfl
  · subst q
    have e : (X - 1).testBit i = false := by
      rw [hm, Nat.testBit_two_pow_mul_add _ (by rw [Nat.pow_succ]; omega)]
      rw [if_pos (by omega)]
      exact Nat.testBit_lt_two_pow (by omega)
    rw [e]; simp
  · have e : (X - 1).testBit i = X.testBit i := by
      rw [hm, Nat.testBit_two_pow_mul_add _ (by rw [Nat.pow_succ]; omega), if_neg (by omega)]
      have e2 : X = 2 ^ (l + 1) * u + 2 ^ l := by
        rw [hu, Nat.mul_add, Nat.mul_one, ← Nat.mul_assoc, Nat.pow_succ]
      rw [e2, Nat.testBit_two_pow_mul_add _ (by rw [Nat.pow_succ]; omega), if_neg (by omega)]
    rw [e, hX]
    have : i ≠ l := by omega
    simp [this]
theorem pc6_s {x : Int64} (h : x ≠ 0) : pc6 x = pc6 (x &&& (x - 1)) + 1 := by
  obtain ⟨l, hl, h1, h2⟩ := low6 h
  unfold pc6
  refine sumN_del (l := l) ?_ (fun k hk => ?_) 64 hl
  · show (if b6 x l = true then 1 else 0) = (if b6 (x &&& (x - 1)) l = true then 1 else 0) + 1
    rw [h2 l, h1]; simp
  · show (if b6 x k = true then 1 else 0) = (if b6 (x &&& (x - 1)) k = true then 1 else 0)
    rw [h2 k]
    simp [hk]
theorem pc6_0 : pc6 0 = 0 := by
  unfold pc6
  have e : sumN (fun i => if b6 0 i = true then 1 else 0) 64 = sumN (fun _ => 0) 64 := sumN_c (fun k _ => by rw [b6_0]; rfl)
  rw [e]
  rfl
theorem pc6_le (x : Int64) : pc6 x ≤ 64 := by
  have := sumN_le (f := fun i => if b6 x i = true then 1 else 0) (b := 1) (fun k => by show (if b6 x k = true then 1 else 0) ≤ 1; split <;> omega) 64
  unfold pc6; omega
theorem sumN_up {f : Nat → Nat} {n : Nat} (m : Nat) (h : ∀ k, n ≤ k → f k = 0) : sumN f (n + m) = sumN f n := by
  induction m with
  | zero => rfl
  | succ m ih =>
    show sumN f (n + m) + f (n + m) = _
    rw [ih, h (n + m) (by omega)]; rfl
