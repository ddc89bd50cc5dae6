def EB (ls : List Lk) (x : Int64) : List (Nat × Nat) := EK ls (fun k _ => b6 x k) ls.length
def cd5 (s : Int32) : Nat := sumN (fun i => if b5 s i = true then 1 else 0) 16
theorem sumN_le2 {f g : Nat → Nat} : ∀ {n : Nat}, (∀ k, k < n → f k ≤ g k) → sumN f n ≤ sumN g n
  | 0, _ => Nat.le_refl _
  | n + 1, h => by
    have h1 := sumN_le2 (fun k hk => h k (Nat.lt_succ_of_lt hk))
    have h2 := h n (Nat.lt_succ_self n)
    show sumN f n + f n ≤ sumN g n + g n
    omega
theorem sumN_lt2 {f g : Nat → Nat} {l : Nat} : ∀ {n : Nat}, (∀ k, k < n → f k ≤ g k) → l < n → f l < g l → sumN f n < sumN g n
  | 0, _, h, _ => absurd h (Nat.not_lt_zero _)
  | n + 1, h, hl, hlt => by
    show sumN f n + f n < sumN g n + g n
    by_cases e : l = n
    · subst e
      have := sumN_le2 (fun k hk => h k (Nat.lt_succ_of_lt hk))
      omega
    · have := sumN_lt2 (fun k hk => h k (Nat.lt_succ_of_lt hk)) (show l < n by omega) hlt
      have := h n (Nat.lt_succ_self n)
      omega
theorem cd5_le (s : Int32) : cd5 s ≤ 16 := by
  have := sumN_le (f := fun i => if b5 s i = true then 1 else 0) (b := 1) (fun k => by show (if b5 s k = true then 1 else 0) ≤ 1; split <;> omega) 16
  unfold cd5; omega
theorem cd5_mono {s t : Int32} (h : ∀ i, b5 s i = true → b5 t i = true) : cd5 s ≤ cd5 t := sumN_le2 (fun k _ => by
  by_cases q : b5 s k = true
  · rw [if_pos q, if_pos (h k q)]; exact Nat.le_refl _
  · rw [if_neg q]; exact Nat.zero_le _)
theorem cd5_lt {s t : Int32} (h : ∀ i, b5 s i = true → b5 t i = true) (hn : s ≠ t) (h16 : ∀ i, b5 t i = true → i < 16) : cd5 s < cd5 t := by
  have : ∃ i, b5 t i = true ∧ ¬ b5 s i = true := by
    rcases Classical.em (∃ i, b5 t i = true ∧ ¬ b5 s i = true) with q | q
    · exact q
    · exfalso
      refine hn (b5_ext (fun i => ?_))
      rw [Bool.eq_iff_iff]
      exact ⟨h i, fun z => Classical.not_not.mp (fun w => q ⟨i, z, w⟩)⟩
  obtain ⟨i, h1, h2⟩ := this
  refine sumN_lt2 (l := i) (fun k _ => ?_) (h16 i h1) ?_
  · by_cases q : b5 s k = true
    · rw [if_pos q, if_pos (h k q)]; exact Nat.le_refl _
    · rw [if_neg q]; exact Nat.zero_le _
  · show (if b5 s i = true then 1 else 0) < (if b5 t i = true then 1 else 0)
    rw [if_neg h2, if_pos h1]; omega
theorem b5_two {u v : Nat} (hu : u < 16) (hv : v < 16) (i : Nat) : b5 ((1 : Int32) <<< (nI u &&& 31) ||| (1 : Int32) <<< (nI v &&& 31)) i = true ↔ (i = u ∨ i = v) := by
  rw [b5_or, b5_one (by omega), b5_one (by omega)]; simp
theorem b5_and2 {s : Int32} {u v : Nat} (hu : u < 16) (hv : v < 16) : s &&& ((1 : Int32) <<< (nI u &&& 31) ||| (1 : Int32) <<< (nI v &&& 31)) ≠ 0 ↔ (b5 s u = true ∨ b5 s v = true) := by
  rw [b5_ne]
  constructor
  · rintro ⟨i, hi⟩
    rw [b5_and, Bool.and_eq_true, b5_two hu hv] at hi
    rcases hi with ⟨h1, rfl | rfl⟩
    · exact Or.inl h1
    · exact Or.inr h1
  · rintro (q | q)
    · exact ⟨u, by rw [b5_and, q, (b5_two hu hv u).mpr (Or.inl rfl)]; rfl⟩
    · exact ⟨v, by rw [b5_and, q, (b5_two hu hv v).mpr (Or.inr rfl)]; rfl⟩
theorem or0_5 (s : Int32) : s ||| 0 = s := b5_ext (fun i => by rw [b5_or, b5_0, Bool.or_false])
/-- the state of a way through the links: s out of t -/
def RI (ls : List Lk) (x : Int64) (p : Nat) (t s : Int32) (k : Nat) : Prop := (∀ i, b5 s i = true → i < 16 ∧ Cn (EB ls x) p i) ∧ (∀ i, b5 t i = true → b5 s i = true) ∧ ((s = t ∧ ∀ j y, j < k → ls[j]? = some y → b6 x j = true → (b5 t y.1 = true ↔ b5 t y.2.1 = true)) ∨ cd5 t < cd5 s)
theorem RI.no {ls : List Lk} {x : Int64} {p : Nat} {t s : Int32} {k : Nat} {y : Lk} (h : RI ls x p t s k) (hy : ls[k]? = some y) (q : ¬ b6 x k = true ∨ ¬ (b5 s y.1 = true ∨ b5 s y.2.1 = true)) : RI ls x p t s (k + 1) := by
  obtain ⟨h1, h2, h3⟩ := h
  refine ⟨h1, h2, ?_⟩
  rcases h3 with ⟨e, h3⟩ | h3
  · refine Or.inl ⟨e, fun j z hj hz hb => ?_⟩
    by_cases ej : j = k
    · subst ej
      rw [hy] at hz; cases hz
      rcases q with q | q
      · exact absurd hb q
      · rw [e] at q
        exact ⟨fun w => absurd (Or.inl w) q, fun w => absurd (Or.inr w) q⟩
    · exact h3 j z (by omega) hz hb
  · exact Or.inr h3
theorem RI.yes {ls : List Lk} {x : Int64} {p : Nat} {t s : Int32} {k : Nat} {y : Lk} (h : RI ls x p t s k) (hy : ls[k]? = some y) (hk : k < ls.length) (hu : y.1 < 16) (hv : y.2.1 < 16) (hb : b6 x k = true) (q : b5 s y.1 = true ∨ b5 s y.2.1 = true) : RI ls x p t (s ||| ((1 : Int32) <<< (nI y.1 &&& 31) ||| (1 : Int32) <<< (nI y.2.1 &&& 31))) (k + 1) := by
  obtain ⟨h1, h2, h3⟩ := h
  have hE : Cn (EB ls x) y.1 y.2.1 := Cn.ed (e := (y.1, y.2.1)) (EK_mem.mpr ⟨k, y, hk, hy, hb, rfl⟩)
  have hpb : Cn (EB ls x) p y.1 ∧ Cn (EB ls x) p y.2.1 := by
    rcases q with q | q
    · exact ⟨(h1 _ q).2, (h1 _ q).2.tr hE⟩
    · exact ⟨(h1 _ q).2.tr hE.sm, (h1 _ q).2⟩
  have hbit : ∀ i, b5 (s ||| ((1 : Int32) <<< (nI y.1 &&& 31) ||| (1 : Int32) <<< (nI y.2.1 &&& 31))) i = true ↔ (b5 s i = true ∨ i = y.1 ∨ i = y.2.1) := fun i => by rw [b5_or, Bool.or_eq_true, b5_two hu hv]
  generalize s ||| ((1 : Int32) <<< (nI y.1 &&& 31) ||| (1 : Int32) <<< (nI y.2.1 &&& 31)) = s' at hbit
  have hs : ∀ i, b5 s' i = true → i < 16 ∧ Cn (EB ls x) p i := by
    intro i hi
    rcases (hbit i).mp hi with z | rfl | rfl
    · exact h1 i z
    · exact ⟨hu, hpb.1⟩
    · exact ⟨hv, hpb.2⟩
  have hm : ∀ i, b5 s i = true → b5 s' i = true := fun i z => (hbit i).mpr (Or.inl z)
  refine ⟨hs, fun i z => hm i (h2 i z), ?_⟩
  by_cases e : s = s'
  · subst e
    rcases h3 with ⟨e, h3⟩ | h3
    · refine Or.inl ⟨e, fun j z hj hz hb => ?_⟩
      by_cases ej : j = k
      · subst ej
        rw [hy] at hz; cases hz
        rw [← e]
        exact ⟨fun _ => (hbit _).mpr (Or.inr (Or.inr rfl)), fun _ => (hbit _).mpr (Or.inr (Or.inl rfl))⟩
      · exact h3 j z (by omega) hz hb
    · exact Or.inr h3
  · right
    have h5 := cd5_lt hm e (fun i z => (hs i z).1)
    have h6 := cd5_mono h2
    omega
theorem RI.fin {ls : List Lk} {x : Int64} {p : Nat} {s : Int32} (h : RI ls x p s s ls.length) (hp : b5 s p = true) : BS s (fun i => Cn (EB ls x) p i) := by
  obtain ⟨h1, h2, h3⟩ := h
  rcases h3 with ⟨-, h3⟩ | h3
  · intro i
    constructor
    · exact h1 i
    · rintro ⟨hi, hc⟩
      refine (hc (fun z => b5 s z = true) (fun e he => ?_)).mp hp
      obtain ⟨k, y, g1, g2, g3, rfl⟩ := EK_mem.mp he
      exact h3 k y g1 g2 g3
  · omega
section SMod2
variable {h h' : g_H} {a : Nat} {ls : List Lk} {Q : Option Value → g_H → Prop}
theorem l1_X7_reach {x : Int64} {p : Nat} {t : Int32} (hV : VQ h a ls) (K : ∀ s k, RI ls x p t s ls.length → J m_X7_reach 0 0 0 0 0 93 [some (.ref a), some (.long x), none, some (.int (nI p)), some (.int s), some (.int 1), some (.int t), some (.int k), none] [] h Q) : ∀ (n k : Nat) (s : Int32), ls.length - k < n → k ≤ ls.length → RI ls x p t s k → J m_X7_reach 0 0 0 0 0 20 [some (.ref a), some (.long x), none, some (.int (nI p)), some (.int s), some (.int 1), some (.int t), some (.int (nI k)), none] [] h Q := by
  intro n
  induction n with
  | zero => intro k s hn; omega
  | succ n ih =>
    intro k s hn hk hR
    obtain ⟨fs, f, ⟨bd1, bd2⟩, hO, hA, hAL, hn, hok⟩ := hV
    have hB : 1 ≤ a ∧ a ≤ h.2 := ⟨bd1, by omega⟩
    have hB1 : 1 ≤ a + 1 ∧ a + 1 ≤ h.2 := ⟨by omega, bd2⟩
    refine J_iload dX7_reach_20 rfl ?_
    refine J_aload_n dX7_reach_22 rfl ?_
    refine J_get (k := 0) dX7_reach_23 gc_7 fl_RX7_7 (by decide) hO hB rfl ?_
    refine J_iconst (x := 0) dX7_reach_26 (by decide) ?_
    refine J_iald dX7_reach_27 hA hB1 (vp_in_nI (n := 0) (by decide) (by decide)) ?_
    rw [show (0 : Int32).toNatClampNeg = 0 from rfl, hAL.1]
    refine J_icmp_ge (tgt := 93) dX7_reach_28 (by decide) (fun c28 => ?_) (fun c28 => ?_)
    · have c28 := (nI_leI (by omega) (by omega)).mp c28
      obtain rfl : k = ls.length := by omega
      exact K s _ hR
    · have c28 : k < ls.length := Nat.not_le.mp (fun q => c28 ((nI_leI (by omega) (by omega)).mpr q))
      obtain ⟨y, hy⟩ := get_of c28
      obtain ⟨v1, v2, v3, v4⟩ := hAL.2 k y hy
      obtain ⟨o1, o2, o3, o4, o5⟩ := hok y (List.mem_of_getElem? hy)
      refine J_iconst (x := 1) dX7_reach_31 (by decide) ?_
      refine J_aload_n dX7_reach_32 rfl ?_
      refine J_get (k := 0) dX7_reach_33 gc_7 fl_RX7_7 (by decide) hO hB rfl ?_
      refine J_iconst (x := 1) dX7_reach_36 (by decide) ?_
      refine J_iload dX7_reach_37 rfl ?_
      refine J_iadd dX7_reach_39 ?_
      rw [show (1 : Int32) + nI k = nI (1 + k) from nI_add 1 k]
      refine J_iald dX7_reach_40 hA hB1 (vp_in_nI (by omega) (by decide)) ?_
      rw [nI_clamp (n := 1 + k) (by omega), v1]
      refine J_ishl dX7_reach_41 ?_
      refine J_iconst (x := 1) dX7_reach_42 (by decide) ?_
      refine J_aload_n dX7_reach_43 rfl ?_
      refine J_get (k := 0) dX7_reach_44 gc_7 fl_RX7_7 (by decide) hO hB rfl ?_
      refine J_bipush (x := 41) dX7_reach_47 (by decide) ?_
      refine J_iload dX7_reach_49 rfl ?_
      refine J_iadd dX7_reach_51 ?_
      rw [show (41 : Int32) + nI k = nI (41 + k) from nI_add 41 k]
      refine J_iald dX7_reach_52 hA hB1 (vp_in_nI (by omega) (by decide)) ?_
      rw [nI_clamp (n := 41 + k) (by omega), v2]
      refine J_ishl dX7_reach_53 ?_
      refine J_ior dX7_reach_54 ?_
      refine J_istore (L' := [_, _, _, _, _, _, _, _, _]) dX7_reach_55 (by decide) rfl ?_
      refine J_iload dX7_reach_57 rfl ?_
      refine J_lload_n dX7_reach_59 rfl ?_
      refine J_iload dX7_reach_60 rfl ?_
      refine J_lshr dX7_reach_62 ?_
      refine J_lconst (x := 1) dX7_reach_63 (by decide) ?_
      refine J_land dX7_reach_64 ?_
      refine J_lconst (x := 1) dX7_reach_65 (by decide) ?_
      refine J_lcmp dX7_reach_66 ?_
      refine J_if_ne (tgt := 83) dX7_reach_67 (by decide) (fun c67 => ?_) (fun c67 => ?_)
      · refine J_iconst (x := 0) dX7_reach_83 (by decide) ?_
        refine J_ior dX7_reach_84 ?_
        refine J_istore (L' := [_, _, _, _, _, _, _, _, _]) dX7_reach_85 (by decide) rfl ?_
        refine J_iinc (L' := [_, _, _, _, _, _, _, _, _]) dX7_reach_87 rfl (nI_i1 k) (by decide) rfl ?_
        refine J_goto (tgt := 20) dX7_reach_90 (by decide) ?_
        rw [or0_5]
        refine J_drop [8] rfl ?_
        exact ih (k + 1) s (by omega) (by omega) (hR.no hy (Or.inl (fun q => c67 (lgc_eq.mpr ((b6_t (by omega) x).mpr q)))))
      · refine J_iload dX7_reach_70 rfl ?_
        refine J_iload dX7_reach_72 rfl ?_
        refine J_iand dX7_reach_74 ?_
        refine J_if_eq (tgt := 83) dX7_reach_75 (by decide) (fun c75 => ?_) (fun c75 => ?_)
        · refine J_iconst (x := 0) dX7_reach_83 (by decide) ?_
          refine J_ior dX7_reach_84 ?_
          refine J_istore (L' := [_, _, _, _, _, _, _, _, _]) dX7_reach_85 (by decide) rfl ?_
          refine J_iinc (L' := [_, _, _, _, _, _, _, _, _]) dX7_reach_87 rfl (nI_i1 k) (by decide) rfl ?_
          refine J_goto (tgt := 20) dX7_reach_90 (by decide) ?_
          rw [or0_5]
          refine J_drop [8] rfl ?_
          exact ih (k + 1) s (by omega) (by omega) (hR.no hy (Or.inr (fun q => (b5_and2 o1 o2).mpr q c75)))
        · refine J_iload dX7_reach_78 rfl ?_
          refine J_goto (tgt := 84) dX7_reach_80 (by decide) ?_
          refine J_ior dX7_reach_84 ?_
          refine J_istore (L' := [_, _, _, _, _, _, _, _, _]) dX7_reach_85 (by decide) rfl ?_
          refine J_iinc (L' := [_, _, _, _, _, _, _, _, _]) dX7_reach_87 rfl (nI_i1 k) (by decide) rfl ?_
          refine J_goto (tgt := 20) dX7_reach_90 (by decide) ?_
          refine J_drop [8] rfl ?_
          exact ih (k + 1) _ (by omega) (by omega) (hR.yes hy c28 o1 o2 ((b6_t (by omega) x).mp (lgc_eq.mp c67)) ((b5_and2 o1 o2).mp c75))
theorem l2_X7_reach {x : Int64} {p : Nat} (hV : VQ h a ls) (hQ : ∀ r, BS r (fun i => Cn (EB ls x) p i) → Q (some (.int r)) h) : ∀ (n : Nat) (s : Int32), 16 - cd5 s < n → (∀ i, b5 s i = true → i < 16 ∧ Cn (EB ls x) p i) → b5 s p = true → J m_X7_reach 0 0 0 0 0 8 [some (.ref a), some (.long x), none, some (.int (nI p)), some (.int s), some (.int 1), none, none, none] [] h Q := by
  intro n
  induction n with
  | zero => intro s hn; omega
  | succ n ih =>
    intro s hn hs hp
    refine J_iload dX7_reach_8 rfl ?_
    refine J_if_eq (tgt := 110) dX7_reach_10 (by decide) (fun c10 => absurd c10 (by decide)) (fun c10 => ?_)
    refine J_iload dX7_reach_13 rfl ?_
    refine J_istore (L' := [_, _, _, _, _, _, _, _, _]) dX7_reach_15 (by decide) rfl ?_
    refine J_iconst (x := 0) dX7_reach_17 (by decide) ?_
    refine J_istore (L' := [_, _, _, _, _, _, _, _, _]) dX7_reach_18 (by decide) rfl ?_
    refine l1_X7_reach (t := s) hV (fun s2 k2 hR2 => ?_) (ls.length + 1) 0 s (by omega) (by omega) ⟨hs, fun _ q => q, Or.inl ⟨rfl, fun j y hj => by omega⟩⟩
    refine J_iload dX7_reach_93 rfl ?_
    refine J_iload dX7_reach_95 rfl ?_
    refine J_icmp_eq (tgt := 104) dX7_reach_97 (by decide) (fun c97 => ?_) (fun c97 => ?_)
    · refine J_iconst (x := 0) dX7_reach_104 (by decide) ?_
      refine J_istore (L' := [_, _, _, _, _, _, _, _, _]) dX7_reach_105 (by decide) rfl ?_
      refine J_goto (tgt := 8) dX7_reach_107 (by decide) ?_
      refine J_iload dX7_reach_8 rfl ?_
      refine J_if_eq (tgt := 110) dX7_reach_10 (by decide) (fun c10 => ?_) (fun c10 => absurd rfl c10)
      refine J_iload dX7_reach_110 rfl ?_
      exact J_iret dX7_reach_112 rfl ⟨rfl, Nat.le_refl _⟩ (hQ s2 (by rw [← c97] at hR2; exact hR2.fin (hR2.2.1 p (by rw [c97]; exact hp))))
    · refine J_iconst (x := 1) dX7_reach_100 (by decide) ?_
      refine J_goto (tgt := 105) dX7_reach_101 (by decide) ?_
      refine J_istore (L' := [_, _, _, _, _, _, _, _, _]) dX7_reach_105 (by decide) rfl ?_
      refine J_goto (tgt := 8) dX7_reach_107 (by decide) ?_
      refine J_drop [6, 7, 8] rfl ?_
      exact ih s2 (by have h16 := cd5_le s2; rcases hR2.2.2 with ⟨e, -⟩ | e; exact absurd e c97; omega) hR2.1 (hR2.2.1 p hp)
theorem b5_p {p : Nat} (hp : p < 16) (i : Nat) : b5 ((1 : Int32) <<< (nI p &&& 31)) i = true ↔ i = p := by rw [b5_one (by omega)]; simp
theorem s_X7_reach {x : Int64} {p : Nat} (hV : VQ h a ls) (hp : p < 16) (hQ : ∀ r, BS r (fun i => Cn (EB ls x) p i) → Q (some (.int r)) h) : MJ m_X7_reach 0 0 0 [.ref a, .long x, .int (nI p)] h Q := by
  refine MJ_of_J (L := [some (.ref a), some (.long x), none, some (.int (nI p)), none, none, none, none, none]) (by decide +kernel) rfl (Nat.le_of_ble_eq_true rfl) rfl ?_
  refine J_iconst (x := 1) dX7_reach_0 (by decide) ?_
  refine J_iload_n dX7_reach_1 rfl ?_
  refine J_ishl dX7_reach_2 ?_
  refine J_istore (L' := [_, _, _, _, _, _, _, _, _]) dX7_reach_3 (by decide) rfl ?_
  refine J_iconst (x := 1) dX7_reach_5 (by decide) ?_
  refine J_istore (L' := [_, _, _, _, _, _, _, _, _]) dX7_reach_6 (by decide) rfl ?_
  exact l2_X7_reach hV hQ 17 _ (by omega) (fun i q => by rw [b5_p hp] at q; subst q; exact ⟨hp, Cn.rf _⟩) ((b5_p hp p).mpr rfl)
theorem s_X7_join {x : Int64} {p q : Nat} (hV : VQ h a ls) (hp : p < 16) (hq : q < 16) (hQ : ∀ r, r = bI (Cn (EB ls x) p q) → Q (some (.int r)) h) : MJ m_X7_join 1 0 0 [.ref a, .long x, .int (nI p), .int (nI q)] h Q := by
  obtain ⟨fs0, hO⟩ := hV.o
  have hB := hV.bo
  refine MJ_of_J (L := [some (.ref a), some (.long x), none, some (.int (nI p)), some (.int (nI q))]) (by decide +kernel) rfl (Nat.le_of_ble_eq_true rfl) rfl ?_
  refine J_aload_n dX7_join_0 rfl ?_
  refine J_lload_n dX7_join_1 rfl ?_
  refine J_iload_n dX7_join_2 rfl ?_
  refine J_callV (As := [_, _]) (rest := []) (M' := m_X7_reach) dX7_join_3 ml_RX7_54 gm_X7_reach gv_X7_reach hO hB rfl rfl rfl (Nat.le_of_ble_eq_true rfl) (by decide) ⟨rfl, rfl, by decide, by decide⟩ (s_X7_reach hV hp (fun s hs => ?_))
  refine J_iload dX7_join_6 rfl ?_
  refine J_ishr dX7_join_8 ?_
  refine J_iconst (x := 1) dX7_join_9 (by decide) ?_
  refine J_iand dX7_join_10 ?_
  refine J_iconst (x := 1) dX7_join_11 (by decide) ?_
  refine J_icmp_ne (tgt := 19) dX7_join_12 (by decide) (fun c12 => ?_) (fun c12 => ?_)
  · refine J_iconst (x := 0) dX7_join_19 (by decide) ?_
    exact J_zret dX7_join_20 rfl (by first | exact Or.inl rfl | exact Or.inr rfl) ⟨rfl, Nat.le_refl _⟩ (hQ _ (bI_f (fun z => c12 ((b5_t (by omega) s).mpr ((hs q).mpr ⟨hq, z⟩)))).symm)
  · refine J_iconst (x := 1) dX7_join_15 (by decide) ?_
    refine J_goto (tgt := 20) dX7_join_16 (by decide) ?_
    exact J_zret dX7_join_20 rfl (by first | exact Or.inl rfl | exact Or.inr rfl) ⟨rfl, Nat.le_refl _⟩ (hQ _ (bI_t ((hs q).mp ((b5_t (by omega) s).mp c12)).2).symm)
theorem l_X7_parts {x : Int64} (hV : VQ h a ls) (hQ : ∀ r, r = nI (nfst (Cn (EB ls x)) 16) → Q (some (.int r)) h) : ∀ (t k c : Nat) (s : Int32), 16 - k < t → k ≤ 16 → c = nfst (Cn (EB ls x)) k → BS s (fun i => ∃ y, y < k ∧ Cn (EB ls x) y i) → J m_X7_parts 1 0 0 0 0 8 [some (.ref a), some (.long x), none, some (.int (nI c)), some (.int s), some (.int (nI k))] [] h Q := by
  intro t
  induction t with
  | zero => intro k c s ht; omega
  | succ t ih =>
    intro k c s ht hk hc hs
    obtain ⟨fs0, hO⟩ := hV.o
    have hB := hV.bo
    have hst : nfst (Cn (EB ls x)) (k + 1) = nfst (Cn (EB ls x)) k + oneI (∀ y, y < k → ¬ Cn (EB ls x) y k) := rfl
    refine J_iload dX7_parts_8 rfl ?_
    refine J_bipush (x := 16) dX7_parts_10 (by decide) ?_
    refine J_icmp_ge (tgt := 46) dX7_parts_12 (by decide) (fun c12 => ?_) (fun c12 => ?_)
    · refine J_iload_n dX7_parts_46 rfl ?_
      exact J_iret dX7_parts_47 rfl ⟨rfl, Nat.le_refl _⟩ (hQ _ (by have c12 := (nI_leI (a := 16) (b := k) (by omega) (by omega)).mp c12; rw [hc, show k = 16 by omega]))
    · have c12 : k < 16 := Nat.not_le.mp (fun q => c12 ((nI_leI (a := 16) (b := k) (by omega) (by omega)).mpr q))
      refine J_iload dX7_parts_15 rfl ?_
      refine J_iload dX7_parts_17 rfl ?_
      refine J_ishr dX7_parts_19 ?_
      refine J_iconst (x := 1) dX7_parts_20 (by decide) ?_
      refine J_iand dX7_parts_21 ?_
      refine J_if_ne (tgt := 40) dX7_parts_22 (by decide) (fun c22 => ?_) (fun c22 => ?_)
      · refine J_iinc (L' := [_, _, _, _, _, _]) dX7_parts_40 rfl (nI_i1 k) (by decide) rfl ?_
        refine J_goto (tgt := 8) dX7_parts_43 (by decide) ?_
        have g1 : ∃ y, y < k ∧ Cn (EB ls x) y k := ((hs k).mp (Classical.not_not.mp (fun q => c22 ((b5_t0 (by omega) s).mpr q)))).2
        obtain ⟨y0, g2, g3⟩ := g1
        exact ih (k + 1) c s (by omega) (by omega) (by rw [hst, oneI_f (fun q => q y0 g2 g3), ← hc]; rfl) (fun i => (hs i).trans ⟨fun ⟨z1, y, z2, z3⟩ => ⟨z1, y, by omega, z3⟩, fun ⟨z1, y, z2, z3⟩ => ⟨z1, by rcases Nat.lt_succ_iff_lt_or_eq.mp z2 with w | w; exact ⟨y, w, z3⟩; subst w; exact ⟨y0, g2, g3.tr z3⟩⟩⟩)
      · refine J_iload dX7_parts_25 rfl ?_
        refine J_aload_n dX7_parts_27 rfl ?_
        refine J_lload_n dX7_parts_28 rfl ?_
        refine J_iload dX7_parts_29 rfl ?_
        refine J_callV (As := [_, _]) (rest := [_]) (M' := m_X7_reach) dX7_parts_31 ml_RX7_54 gm_X7_reach gv_X7_reach hO hB rfl rfl rfl (Nat.le_of_ble_eq_true rfl) (by decide) ⟨rfl, rfl, by decide, by decide⟩ (s_X7_reach hV c12 (fun r hr => ?_))
        refine J_ior dX7_parts_34 ?_
        refine J_istore (L' := [_, _, _, _, _, _]) dX7_parts_35 (by decide) rfl ?_
        refine J_iinc (L' := [_, _, _, _, _, _]) dX7_parts_37 rfl (nI_i1 c) (by decide) rfl ?_
        refine J_iinc (L' := [_, _, _, _, _, _]) dX7_parts_40 rfl (nI_i1 k) (by decide) rfl ?_
        refine J_goto (tgt := 8) dX7_parts_43 (by decide) ?_
        have g1 : ¬ ∃ y, y < k ∧ Cn (EB ls x) y k := fun q => (b5_t0 (by omega) s).mp c22 ((hs k).mpr ⟨c12, q⟩)
        exact ih (k + 1) (c + 1) _ (by omega) (by omega) (by rw [hst, oneI_t (fun y hy q => g1 ⟨y, hy, q⟩), ← hc]) (fun i => by
          show b5 (s ||| r) i = true ↔ _
          rw [b5_or, Bool.or_eq_true]
          constructor
          · rintro (z | z)
            · obtain ⟨z1, y, z2, z3⟩ := (hs i).mp z
              exact ⟨z1, y, by omega, z3⟩
            · obtain ⟨z1, z3⟩ := (hr i).mp z
              exact ⟨z1, k, by omega, z3⟩
          · rintro ⟨z1, y, z2, z3⟩
            rcases Nat.lt_succ_iff_lt_or_eq.mp z2 with w | w
            · exact Or.inl ((hs i).mpr ⟨z1, y, w, z3⟩)
            · subst w; exact Or.inr ((hr i).mpr ⟨z1, z3⟩))
theorem s_X7_parts {x : Int64} (hV : VQ h a ls) (hQ : ∀ r, r = nI (nfst (Cn (EB ls x)) 16) → Q (some (.int r)) h) : MJ m_X7_parts 1 0 0 [.ref a, .long x] h Q := by
  refine MJ_of_J (L := [some (.ref a), some (.long x), none, none, none, none]) (by decide +kernel) rfl (Nat.le_of_ble_eq_true rfl) rfl ?_
  refine J_iconst (x := 0) dX7_parts_0 (by decide) ?_
  refine J_istore_n (L' := [_, _, _, _, _, _]) dX7_parts_1 (by decide) rfl ?_
  refine J_iconst (x := 0) dX7_parts_2 (by decide) ?_
  refine J_istore (L' := [_, _, _, _, _, _]) dX7_parts_3 (by decide) rfl ?_
  refine J_iconst (x := 0) dX7_parts_5 (by decide) ?_
  refine J_istore (L' := [_, _, _, _, _, _]) dX7_parts_6 (by decide) rfl ?_
  exact l_X7_parts hV hQ 17 0 0 0 (by omega) (by omega) rfl (fun i => by show b5 0 i = true ↔ _; rw [b5_0]; exact ⟨fun q => (by cases q), fun ⟨_, y, q, _⟩ => (by omega)⟩)
/-- the set without a link -/
theorem b6_not {k : Nat} (hk : k < 40) (x : Int64) (i : Nat) : b6 (x &&& ((1 : Int64) <<< ((nI k).toInt64 &&& 63) ^^^ (-1))) i = true ↔ (b6 x i = true ∧ i ≠ k) := by
  have e : ∀ k, k < 40 → ∀ i, i < 64 → b6 ((1 : Int64) <<< ((nI k).toInt64 &&& 63) ^^^ (-1)) i = decide (i ≠ k) := by decide +kernel
  rw [b6_and, Bool.and_eq_true]
  rcases Nat.lt_or_ge i 64 with q | q
  · rw [e k hk i q]; simp
  · have h0 : b6 x i = false := by unfold b6; exact BitVec.getLsbD_of_ge _ _ q
    rw [h0]; simp
theorem s_X7_isNeeded {x : Int64} {j : Nat} {y : Lk} (hV : VQ h a ls) (hj : ls[j]? = some y) (hQ : ∀ r, r = bI (¬ Cn (EK ls (fun k _ => b6 x k && decide (k ≠ j)) ls.length) y.1 y.2.1) → Q (some (.int r)) h) : MJ m_X7_isNeeded 2 0 0 [.ref a, .long x, .int (nI j)] h Q := by
  have hV0 := hV
  obtain ⟨fs, f, ⟨bd1, bd2⟩, hO, hA, hAL, hn, hok⟩ := hV
  have hB : 1 ≤ a ∧ a ≤ h.2 := ⟨bd1, by omega⟩
  have hB1 : 1 ≤ a + 1 ∧ a + 1 ≤ h.2 := ⟨by omega, bd2⟩
  have hjl := get_lt hj
  obtain ⟨v1, v2, v3, v4⟩ := hAL.2 j y hj
  obtain ⟨o1, o2, o3, o4, o5⟩ := hok y (List.mem_of_getElem? hj)
  have hE : ∀ u v, Cn (EB ls (x &&& ((1 : Int64) <<< ((nI j).toInt64 &&& 63) ^^^ (-1)))) u v ↔ Cn (EK ls (fun k _ => b6 x k && decide (k ≠ j)) ls.length) u v := by
    intro u v
    refine Cn.set (fun e => ?_) u v
    unfold EB
    rw [EK_mem, EK_mem]
    constructor
    · rintro ⟨k, z, h1, h2, h3, h4⟩
      exact ⟨k, z, h1, h2, by have := (b6_not (by omega) x k).mp h3; simp [this.1, this.2], h4⟩
    · rintro ⟨k, z, h1, h2, h3, h4⟩
      exact ⟨k, z, h1, h2, (b6_not (by omega) x k).mpr (by simpa using h3), h4⟩
  refine MJ_of_J (L := [some (.ref a), some (.long x), none, some (.int (nI j))]) (by decide +kernel) rfl (Nat.le_of_ble_eq_true rfl) rfl ?_
  refine J_aload_n dX7_isNeeded_0 rfl ?_
  refine J_lload_n dX7_isNeeded_1 rfl ?_
  refine J_lconst (x := 1) dX7_isNeeded_2 (by decide) ?_
  refine J_iload_n dX7_isNeeded_3 rfl ?_
  refine J_lshl dX7_isNeeded_4 ?_
  refine J_ldc2 dX7_isNeeded_5 kl_RX7_58 ?_
  refine J_lxor dX7_isNeeded_8 ?_
  refine J_land dX7_isNeeded_9 ?_
  refine J_aload_n dX7_isNeeded_10 rfl ?_
  refine J_get (k := 0) dX7_isNeeded_11 gc_7 fl_RX7_7 (by decide) hO hB rfl ?_
  refine J_iconst (x := 1) dX7_isNeeded_14 (by decide) ?_
  refine J_iload_n dX7_isNeeded_15 rfl ?_
  refine J_iadd dX7_isNeeded_16 ?_
  rw [show (1 : Int32) + nI j = nI (1 + j) from nI_add 1 j]
  refine J_iald dX7_isNeeded_17 hA hB1 (vp_in_nI (by omega) (by decide)) ?_
  rw [nI_clamp (n := 1 + j) (by omega), v1]
  refine J_aload_n dX7_isNeeded_18 rfl ?_
  refine J_get (k := 0) dX7_isNeeded_19 gc_7 fl_RX7_7 (by decide) hO hB rfl ?_
  refine J_bipush (x := 41) dX7_isNeeded_22 (by decide) ?_
  refine J_iload_n dX7_isNeeded_24 rfl ?_
  refine J_iadd dX7_isNeeded_25 ?_
  rw [show (41 : Int32) + nI j = nI (41 + j) from nI_add 41 j]
  refine J_iald dX7_isNeeded_26 hA hB1 (vp_in_nI (by omega) (by decide)) ?_
  rw [nI_clamp (n := 41 + j) (by omega), v2]
  refine J_callV (As := [_, _, _]) (rest := []) (M' := m_X7_join) dX7_isNeeded_27 ml_RX7_60 gm_X7_join gv_X7_join hO hB rfl rfl rfl (Nat.le_of_ble_eq_true rfl) (by decide) ⟨rfl, rfl, by decide, by decide⟩ (s_X7_join hV0 o1 o2 (fun r hr => ?_))
  rw [bI_c (hE _ _)] at hr
  refine J_if_ne (tgt := 37) dX7_isNeeded_30 (by decide) (fun c30 => ?_) (fun c30 => ?_)
  · refine J_iconst (x := 0) dX7_isNeeded_37 (by decide) ?_
    exact J_zret dX7_isNeeded_38 rfl (by first | exact Or.inl rfl | exact Or.inr rfl) ⟨rfl, Nat.le_refl _⟩ (hQ _ (bI_f (fun q => q (nn_of hr c30))).symm)
  · refine J_iconst (x := 1) dX7_isNeeded_33 (by decide) ?_
    refine J_goto (tgt := 38) dX7_isNeeded_34 (by decide) ?_
    exact J_zret dX7_isNeeded_38 rfl (by first | exact Or.inl rfl | exact Or.inr rfl) ⟨rfl, Nat.le_refl _⟩ (hQ _ (bI_t ((bI_0 hr).mp c30)).symm)
end SMod2
