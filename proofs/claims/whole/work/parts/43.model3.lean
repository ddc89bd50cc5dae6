theorem LSt.EB {x : Int64} {ls : List Lk} {p : Lk → Bool} (hs : LSt x ls p ls.length) (e : Nat × Nat) : e ∈ EB ls x ↔ e ∈ EK ls (fun _ y => p y) ls.length := by
  show e ∈ EK ls (fun k _ => b6 x k) ls.length ↔ _
  rw [EK_mem, EK_mem]
  constructor
  · rintro ⟨k, y, h1, h2, h3, h4⟩
    obtain ⟨z, g1, g2, g3⟩ := (hs k).mp h3
    rw [h2] at g2; cases g2
    exact ⟨k, y, h1, h2, g3, h4⟩
  · rintro ⟨k, y, h1, h2, h3, h4⟩
    exact ⟨k, y, h1, h2, (hs k).mpr ⟨y, h1, h2, h3⟩, h4⟩
theorem nfst_mono {C D : Nat → Nat → Prop} {n : Nat} (h : ∀ x y, C x y → D x y) : nfst D n ≤ nfst C n := sumN_le2 (fun k _ => by
  by_cases q : ∀ y, y < k → ¬ D y k
  · rw [oneI_t q, oneI_t (fun y hy z => q y hy (h _ _ z))]; exact Nat.le_refl _
  · rw [oneI_f q]; exact Nat.zero_le _)
theorem pS_le (ls : List Lk) {m d : Nat} (hm : m < 64) (hd : d < 7) : pS ls m d ≤ pU ls m d := nfst_mono (fun x y q => q.mono (fun e he => (CV_ld hm hd e).mp (List.mem_append_left _ he)))
theorem pU_0 (ls : List Lk) (m : Nat) : pU ls m 0 = 16 := by
  have := RP.len (js := []) (E := []) trivial (RP.nil 16)
  exact this
theorem sumN_swap (F : Nat → Nat → Nat) (M : Nat) : ∀ D, sumN (fun m => sumN (fun d => F m d) D) M = sumN (fun d => sumN (fun m => F m d) M) D
  | 0 => by
    have := sumN_le (f := fun m => sumN (fun d => F m d) 0) (b := 0) (fun _ => Nat.le_refl _) M
    show sumN (fun m => sumN (fun d => F m d) 0) M = 0
    omega
  | D + 1 => by
    show sumN (fun m => sumN (fun d => F m d) D + F m D) M = sumN (fun d => sumN (fun m => F m d) M) D + sumN (fun m => F m D) M
    rw [sumN_add, sumN_swap F M D]
theorem sb_g1 {d m j : Nat} (hd : d < 7) (hm : m < 64) (hj : j < 64) (h1 : sb m d = m) (h2 : j + 1 < sl d) : sb (m + 1 + j) d ≠ m + 1 + j := by
  have key : ∀ d, d < 7 → ∀ m, m < 64 → ∀ j, j < 64 → (!(sb m d == m) || !(Nat.ble (j + 2) (sl d)) || !(sb (m + 1 + j) d == m + 1 + j)) = true := by decide +kernel
  have := key d hd m hm j hj
  intro h3
  rw [h3, h1, Nat.ble_eq_true_of_le (show j + 2 ≤ sl d by omega)] at this
  simp at this
theorem sb_g2 : ∀ d, d < 7 → ∀ m, m < 64 → sb m d = m → sb (m + sl d) d = m + sl d ∧ m + sl d ≤ 64 := by decide +kernel
theorem sum_step (f : Nat → Nat → Nat) {m d : Nat} (hm : m < 64) (hd : d < 7) (hs : sb m d = m) : sumN (fun m => atB f m d) (m + sl d) = sumN (fun m => atB f m d) m + f m d := by
  have hl := sl_64 d hd
  have key : ∀ j, j + 1 ≤ sl d → sumN (fun m => atB f m d) (m + 1 + j) = sumN (fun m => atB f m d) m + f m d := by
    intro j
    induction j with
    | zero =>
      intro _
      show sumN _ m + atB f m d = _
      unfold atB
      rw [if_pos hs]
    | succ j ih =>
      intro hj
      show sumN _ (m + 1 + j) + atB f (m + 1 + j) d = _
      have := sb_g1 hd hm (show j < 64 by omega) hs (by omega)
      have e : atB f (m + 1 + j) d = 0 := if_neg this
      rw [e, ih (by omega)]; rfl
  have := key (sl d - 1) (by omega)
  rw [show m + 1 + (sl d - 1) = m + sl d by omega] at this
  exact this
def spD2 (f : Nat → Nat → Nat) : Nat := sumN (fun d => sumN (fun m => atB f m d) 64) 7
theorem sp2_eq (f : Nat → Nat → Nat) : sp2 f = spD2 f := sumN_swap (fun m d => atB f m d) 64 7
noncomputable def ldN (y : Lk) (m d : Nat) : Nat := oneI (ldB m d y = true)
theorem spN_eq (y : Lk) : spN y = spD2 (ldN y) := by
  rw [← sp2_eq]
  refine sumN_c (fun m _ => sumN_c (fun d _ => ?_))
  unfold spD atB ldN
  by_cases q : sb m d = m
  · rw [if_pos q]
    exact oneI_c ⟨fun z => z.2, fun z => ⟨q, z⟩⟩
  · rw [if_neg q, oneI_f (fun z => q z.1)]
section SMod3
variable {h h' : g_H} {a : Nat} {ls : List Lk} {Q : Option Value → g_H → Prop}
theorem s_X7_spanLong {d : Nat} (hd : d < 7) (hQ : ∀ r, r = nI (sl d) → Q (some (.int r)) h) : MJ m_X7_spanLong 0 0 0 [.int (nI d)] h Q := by
  refine MJ_of_J (L := [some (.int (nI d))]) (by decide +kernel) rfl (Nat.le_of_ble_eq_true rfl) rfl ?_
  refine J_bipush (x := 64) dX7_spanLong_0 (by decide) ?_
  refine J_iload_n dX7_spanLong_2 rfl ?_
  refine J_ishr dX7_spanLong_3 ?_
  exact J_iret dX7_spanLong_4 rfl ⟨rfl, Nat.le_refl _⟩ (hQ _ (sl_i d hd))
theorem s_X7_begin {m d : Nat} (hm : m < 64) (hd : d < 7) (hQ : ∀ r, r = nI (sb m d) → Q (some (.int r)) h) : MJ m_X7_begin 1 0 0 [.int (nI m), .int (nI d)] h Q := by
  have hs := sl_64 d hd
  refine MJ_of_J (L := [some (.int (nI m)), some (.int (nI d))]) (by decide +kernel) rfl (Nat.le_of_ble_eq_true rfl) rfl ?_
  refine J_iload_n dX7_begin_0 rfl ?_
  refine J_iload_n dX7_begin_1 rfl ?_
  refine J_iload_n dX7_begin_2 rfl ?_
  refine J_callS (As := [_]) (rest := [_, _]) (M' := m_X7_spanLong) dX7_begin_3 ml_RX7_64 gm_X7_spanLong sm_yX7_spanLong rfl rfl (Nat.le_of_ble_eq_true rfl) (by decide) ⟨rfl, rfl, by decide, by decide⟩ (s_X7_spanLong hd (fun r hr => ?_))
  subst hr
  refine J_irem dX7_begin_6 (nI_ne0 hs.2 (by omega)) ?_
  refine J_isub dX7_begin_7 ?_
  exact J_iret dX7_begin_8 rfl ⟨rfl, Nat.le_refl _⟩ (hQ _ (by rw [pk_rem (by omega) hs.2 (by omega), pk_sub (Nat.mod_le _ _)]; rfl))
theorem s_X7_covers {j m d : Nat} {y : Lk} (hV : VQ h a ls) (hj : ls[j]? = some y) (hm : m < 64) (hd : d < 7) (hQ : ∀ r, r = bI (cvB (sb m d) (sl d) y = true) → Q (some (.int r)) h) : MJ m_X7_covers 2 0 0 [.ref a, .int (nI j), .int (nI m), .int (nI d)] h Q := by
  have hs := sl_64 d hd
  have hb := sb_le m d
  obtain ⟨fs0, hO⟩ := hV.o
  have hB := hV.bo
  refine MJ_of_J (L := [some (.ref a), some (.int (nI j)), some (.int (nI m)), some (.int (nI d)), none]) (by decide +kernel) rfl (Nat.le_of_ble_eq_true rfl) rfl ?_
  refine J_iload_n dX7_covers_0 rfl ?_
  refine J_iload_n dX7_covers_1 rfl ?_
  refine J_callS (As := [_, _]) (rest := []) (M' := m_X7_begin) dX7_covers_2 ml_RX7_68 gm_X7_begin sm_yX7_begin rfl rfl (Nat.le_of_ble_eq_true rfl) (by decide) ⟨rfl, rfl, by decide, by decide⟩ (s_X7_begin hm hd (fun r hr => ?_))
  subst hr
  refine J_istore (L' := [_, _, _, _, _]) dX7_covers_5 (by decide) rfl ?_
  refine J_aload_n dX7_covers_7 rfl ?_
  refine J_iload_n dX7_covers_8 rfl ?_
  refine J_iload dX7_covers_9 rfl ?_
  refine J_iload dX7_covers_11 rfl ?_
  refine J_iload_n dX7_covers_13 rfl ?_
  refine J_callS (As := [_]) (rest := [_, _, _, _]) (M' := m_X7_spanLong) dX7_covers_14 ml_RX7_64 gm_X7_spanLong sm_yX7_spanLong rfl rfl (Nat.le_of_ble_eq_true rfl) (by decide) ⟨rfl, rfl, by decide, by decide⟩ (s_X7_spanLong hd (fun r hr => ?_))
  subst hr
  refine J_iadd dX7_covers_17 ?_
  rw [nI_add]
  refine J_callV (As := [_, _, _]) (rest := []) (M' := m_X7_lives) dX7_covers_18 ml_RX7_46 gm_X7_lives gv_X7_lives hO hB rfl rfl rfl (Nat.le_of_ble_eq_true rfl) (by decide) ⟨rfl, rfl, by decide, by decide⟩ (s_X7_lives hV hj (fun r hr => ?_))
  exact J_zret dX7_covers_21 rfl (by rw [hr]; exact bI_01 _) ⟨rfl, Nat.le_refl _⟩ (hQ _ (by rw [hr]; refine bI_c ?_; rw [cvB_iff, nI_toInt (by omega), nI_toInt (by omega)]; omega))
def ldM (m d : Nat) (y : Lk) : Bool := cvB (sb m d) (sl d) y && (decide (d = 0) || !cvB (sb m (d - 1)) (sl (d - 1)) y)
theorem ldM_eq {m d : Nat} (hm : m < 64) (hd : d < 7) (y : Lk) : ldM m d y = ldB (sb m d) d y := by
  unfold ldM ldB
  cases d with
  | zero => simp
  | succ d => rw [Nat.add_sub_cancel, sb_f1 m hm d (by omega)]
theorem l_X7_laidAt {m d : Nat} (hV : VQ h a ls) (hm : m < 64) (hd : d < 7) (hQ : ∀ x, LSt x ls (ldM m d) ls.length → Q (some (.long x)) h) : ∀ (t k : Nat) (x : Int64), ls.length - k < t → k ≤ ls.length → LSt x ls (ldM m d) k → J m_X7_laidAt 3 0 0 0 0 5 [some (.ref a), some (.int (nI m)), some (.int (nI d)), some (.long x), none, some (.int (nI k))] [] h Q := by
  intro t
  induction t with
  | zero => intro k x ht; omega
  | succ t ih =>
    intro k x ht hk hx
    have hV0 := hV
    obtain ⟨fs, f, ⟨bd1, bd2⟩, hO, hA, hAL, hn, hok⟩ := hV
    have hB : 1 ≤ a ∧ a ≤ h.2 := ⟨bd1, by omega⟩
    have hB1 : 1 ≤ a + 1 ∧ a + 1 ≤ h.2 := ⟨by omega, bd2⟩
    refine J_iload dX7_laidAt_5 rfl ?_
    refine J_aload_n dX7_laidAt_7 rfl ?_
    refine J_get (k := 0) dX7_laidAt_8 gc_7 fl_RX7_7 (by decide) hO hB rfl ?_
    refine J_iconst (x := 0) dX7_laidAt_11 (by decide) ?_
    refine J_iald dX7_laidAt_12 hA hB1 (vp_in_nI (n := 0) (by decide) (by decide)) ?_
    rw [show (0 : Int32).toNatClampNeg = 0 from rfl, hAL.1]
    refine J_icmp_ge (tgt := 61) dX7_laidAt_13 (by decide) (fun c13 => ?_) (fun c13 => ?_)
    · refine J_lload_n dX7_laidAt_61 rfl ?_
      exact J_lret dX7_laidAt_62 rfl ⟨rfl, Nat.le_refl _⟩ (hQ _ (by have c13 := (nI_leI (by omega) (by omega)).mp c13; rwa [show k = ls.length by omega] at hx))
    · have c13 : k < ls.length := Nat.not_le.mp (fun q => c13 ((nI_leI (by omega) (by omega)).mpr q))
      obtain ⟨y, hy⟩ := get_of c13
      refine J_lload_n dX7_laidAt_16 rfl ?_
      refine J_aload_n dX7_laidAt_17 rfl ?_
      refine J_iload dX7_laidAt_18 rfl ?_
      refine J_iload_n dX7_laidAt_20 rfl ?_
      refine J_iload_n dX7_laidAt_21 rfl ?_
      refine J_callV (As := [_, _, _]) (rest := [_]) (M' := m_X7_covers) dX7_laidAt_22 ml_RX7_72 gm_X7_covers gv_X7_covers hO hB rfl rfl rfl (Nat.le_of_ble_eq_true rfl) (by decide) ⟨rfl, rfl, by decide, by decide⟩ (s_X7_covers hV0 hy hm hd (fun r hr => ?_))
      refine J_if_eq (tgt := 52) dX7_laidAt_25 (by decide) (fun c25 => ?_) (fun c25 => ?_)
      · refine J_lconst (x := 0) dX7_laidAt_52 (by decide) ?_
        refine J_lor dX7_laidAt_53 ?_
        refine J_lstore_n (L' := [_, _, _, _, _, _]) dX7_laidAt_54 (by decide) rfl ?_
        refine J_iinc (L' := [_, _, _, _, _, _]) dX7_laidAt_55 rfl (nI_i1 k) (by decide) rfl ?_
        refine J_goto (tgt := 5) dX7_laidAt_58 (by decide) ?_
        exact ih (k + 1) _ (by omega) (by omega) (hx.no hy (fun q => by unfold ldM at q; rw [Bool.and_eq_true] at q; exact (bI_0 hr).mp c25 q.1))
      · refine J_iload_n dX7_laidAt_28 rfl ?_
        refine J_if_eq (tgt := 45) dX7_laidAt_29 (by decide) (fun c29 => ?_) (fun c29 => ?_)
        · refine J_lconst (x := 1) dX7_laidAt_45 (by decide) ?_
          refine J_iload dX7_laidAt_46 rfl ?_
          refine J_lshl dX7_laidAt_48 ?_
          refine J_goto (tgt := 53) dX7_laidAt_49 (by decide) ?_
          refine J_lor dX7_laidAt_53 ?_
          refine J_lstore_n (L' := [_, _, _, _, _, _]) dX7_laidAt_54 (by decide) rfl ?_
          refine J_iinc (L' := [_, _, _, _, _, _]) dX7_laidAt_55 rfl (nI_i1 k) (by decide) rfl ?_
          refine J_goto (tgt := 5) dX7_laidAt_58 (by decide) ?_
          exact ih (k + 1) _ (by omega) (by omega) (hx.or (by omega) hy (by unfold ldM; rw [nn_of hr c25]; have : d = 0 := (nI_eq (b := 0) (by omega) (by omega)).mp c29; simp [this]))
        · obtain ⟨e1, hd0⟩ := nI_p1 d c29 (by omega)
          refine J_aload_n dX7_laidAt_32 rfl ?_
          refine J_iload dX7_laidAt_33 rfl ?_
          refine J_iload_n dX7_laidAt_35 rfl ?_
          refine J_iload_n dX7_laidAt_36 rfl ?_
          refine J_iconst (x := 1) dX7_laidAt_37 (by decide) ?_
          refine J_isub dX7_laidAt_38 ?_
          rw [e1]
          refine J_callV (As := [_, _, _]) (rest := [_]) (M' := m_X7_covers) dX7_laidAt_39 ml_RX7_72 gm_X7_covers gv_X7_covers hO hB rfl rfl rfl (Nat.le_of_ble_eq_true rfl) (by decide) ⟨rfl, rfl, by decide, by decide⟩ (s_X7_covers hV0 hy hm (show d - 1 < 7 by omega) (fun r2 hr2 => ?_))
          refine J_if_ne (tgt := 52) dX7_laidAt_42 (by decide) (fun c42 => ?_) (fun c42 => ?_)
          · refine J_lconst (x := 0) dX7_laidAt_52 (by decide) ?_
            refine J_lor dX7_laidAt_53 ?_
            refine J_lstore_n (L' := [_, _, _, _, _, _]) dX7_laidAt_54 (by decide) rfl ?_
            refine J_iinc (L' := [_, _, _, _, _, _]) dX7_laidAt_55 rfl (nI_i1 k) (by decide) rfl ?_
            refine J_goto (tgt := 5) dX7_laidAt_58 (by decide) ?_
            exact ih (k + 1) _ (by omega) (by omega) (hx.no hy (fun q => by unfold ldM at q; rw [nn_of hr2 c42] at q; simp at q; omega))
          · refine J_lconst (x := 1) dX7_laidAt_45 (by decide) ?_
            refine J_iload dX7_laidAt_46 rfl ?_
            refine J_lshl dX7_laidAt_48 ?_
            refine J_goto (tgt := 53) dX7_laidAt_49 (by decide) ?_
            refine J_lor dX7_laidAt_53 ?_
            refine J_lstore_n (L' := [_, _, _, _, _, _]) dX7_laidAt_54 (by decide) rfl ?_
            refine J_iinc (L' := [_, _, _, _, _, _]) dX7_laidAt_55 rfl (nI_i1 k) (by decide) rfl ?_
            refine J_goto (tgt := 5) dX7_laidAt_58 (by decide) ?_
            exact ih (k + 1) _ (by omega) (by omega) (hx.or (by omega) hy (by unfold ldM; have z := (bI_0 hr2).mp c42; simp only [Bool.not_eq_true] at z; rw [nn_of hr c25, z]; simp))
theorem s_X7_laidAt {m d : Nat} (hV : VQ h a ls) (hm : m < 64) (hd : d < 7) (hQ : ∀ x, LSt x ls (ldM m d) ls.length → Q (some (.long x)) h) : MJ m_X7_laidAt 3 0 0 [.ref a, .int (nI m), .int (nI d)] h Q := by
  refine MJ_of_J (L := [some (.ref a), some (.int (nI m)), some (.int (nI d)), none, none, none]) (by decide +kernel) rfl (Nat.le_of_ble_eq_true rfl) rfl ?_
  refine J_lconst (x := 0) dX7_laidAt_0 (by decide) ?_
  refine J_lstore_n (L' := [_, _, _, _, _, _]) dX7_laidAt_1 (by decide) rfl ?_
  refine J_iconst (x := 0) dX7_laidAt_2 (by decide) ?_
  refine J_istore (L' := [_, _, _, _, _, _]) dX7_laidAt_3 (by decide) rfl ?_
  exact l_X7_laidAt hV hm hd hQ (ls.length + 1) 0 0 (by omega) (by omega) (LSt.nil _)
theorem l_X7_livingAll {m d : Nat} (hV : VQ h a ls) (hm : m < 64) (hd : d < 7) (hQ : ∀ x, LSt x ls (cvB (sb m d) (sl d)) ls.length → Q (some (.long x)) h) : ∀ (t k : Nat) (x : Int64), ls.length - k < t → k ≤ ls.length → LSt x ls (cvB (sb m d) (sl d)) k → J m_X7_livingAll 3 0 0 0 0 5 [some (.ref a), some (.int (nI m)), some (.int (nI d)), some (.long x), none, some (.int (nI k))] [] h Q := by
  intro t
  induction t with
  | zero => intro k x ht; omega
  | succ t ih =>
    intro k x ht hk hx
    have hV0 := hV
    obtain ⟨fs, f, ⟨bd1, bd2⟩, hO, hA, hAL, hn, hok⟩ := hV
    have hB : 1 ≤ a ∧ a ≤ h.2 := ⟨bd1, by omega⟩
    have hB1 : 1 ≤ a + 1 ∧ a + 1 ≤ h.2 := ⟨by omega, bd2⟩
    refine J_iload dX7_livingAll_5 rfl ?_
    refine J_aload_n dX7_livingAll_7 rfl ?_
    refine J_get (k := 0) dX7_livingAll_8 gc_7 fl_RX7_7 (by decide) hO hB rfl ?_
    refine J_iconst (x := 0) dX7_livingAll_11 (by decide) ?_
    refine J_iald dX7_livingAll_12 hA hB1 (vp_in_nI (n := 0) (by decide) (by decide)) ?_
    rw [show (0 : Int32).toNatClampNeg = 0 from rfl, hAL.1]
    refine J_icmp_ge (tgt := 44) dX7_livingAll_13 (by decide) (fun c13 => ?_) (fun c13 => ?_)
    · refine J_lload_n dX7_livingAll_44 rfl ?_
      exact J_lret dX7_livingAll_45 rfl ⟨rfl, Nat.le_refl _⟩ (hQ _ (by have c13 := (nI_leI (by omega) (by omega)).mp c13; rwa [show k = ls.length by omega] at hx))
    · have c13 : k < ls.length := Nat.not_le.mp (fun q => c13 ((nI_leI (by omega) (by omega)).mpr q))
      obtain ⟨y, hy⟩ := get_of c13
      refine J_lload_n dX7_livingAll_16 rfl ?_
      refine J_aload_n dX7_livingAll_17 rfl ?_
      refine J_iload dX7_livingAll_18 rfl ?_
      refine J_iload_n dX7_livingAll_20 rfl ?_
      refine J_iload_n dX7_livingAll_21 rfl ?_
      refine J_callV (As := [_, _, _]) (rest := [_]) (M' := m_X7_covers) dX7_livingAll_22 ml_RX7_72 gm_X7_covers gv_X7_covers hO hB rfl rfl rfl (Nat.le_of_ble_eq_true rfl) (by decide) ⟨rfl, rfl, by decide, by decide⟩ (s_X7_covers hV0 hy hm hd (fun r hr => ?_))
      refine J_if_eq (tgt := 35) dX7_livingAll_25 (by decide) (fun c25 => ?_) (fun c25 => ?_)
      · refine J_lconst (x := 0) dX7_livingAll_35 (by decide) ?_
        refine J_lor dX7_livingAll_36 ?_
        refine J_lstore_n (L' := [_, _, _, _, _, _]) dX7_livingAll_37 (by decide) rfl ?_
        refine J_iinc (L' := [_, _, _, _, _, _]) dX7_livingAll_38 rfl (nI_i1 k) (by decide) rfl ?_
        refine J_goto (tgt := 5) dX7_livingAll_41 (by decide) ?_
        exact ih (k + 1) _ (by omega) (by omega) (hx.no hy ((bI_0 hr).mp c25))
      · refine J_lconst (x := 1) dX7_livingAll_28 (by decide) ?_
        refine J_iload dX7_livingAll_29 rfl ?_
        refine J_lshl dX7_livingAll_31 ?_
        refine J_goto (tgt := 36) dX7_livingAll_32 (by decide) ?_
        refine J_lor dX7_livingAll_36 ?_
        refine J_lstore_n (L' := [_, _, _, _, _, _]) dX7_livingAll_37 (by decide) rfl ?_
        refine J_iinc (L' := [_, _, _, _, _, _]) dX7_livingAll_38 rfl (nI_i1 k) (by decide) rfl ?_
        refine J_goto (tgt := 5) dX7_livingAll_41 (by decide) ?_
        exact ih (k + 1) _ (by omega) (by omega) (hx.or (by omega) hy (nn_of hr c25))
theorem s_X7_livingAll {m d : Nat} (hV : VQ h a ls) (hm : m < 64) (hd : d < 7) (hQ : ∀ x, LSt x ls (cvB (sb m d) (sl d)) ls.length → Q (some (.long x)) h) : MJ m_X7_livingAll 3 0 0 [.ref a, .int (nI m), .int (nI d)] h Q := by
  refine MJ_of_J (L := [some (.ref a), some (.int (nI m)), some (.int (nI d)), none, none, none]) (by decide +kernel) rfl (Nat.le_of_ble_eq_true rfl) rfl ?_
  refine J_lconst (x := 0) dX7_livingAll_0 (by decide) ?_
  refine J_lstore_n (L' := [_, _, _, _, _, _]) dX7_livingAll_1 (by decide) rfl ?_
  refine J_iconst (x := 0) dX7_livingAll_2 (by decide) ?_
  refine J_istore (L' := [_, _, _, _, _, _]) dX7_livingAll_3 (by decide) rfl ?_
  exact l_X7_livingAll hV hm hd hQ (ls.length + 1) 0 0 (by omega) (by omega) (LSt.nil _)
theorem pS_x {x : Int64} {m d : Nat} (hs : LSt x ls (cvB (sb m d) (sl d)) ls.length) : nfst (Cn (EB ls x)) 16 = pS ls m d := nfst_c (fun u v _ _ => Cn.set (fun e => hs.EB e) u v)
theorem s_X7_madeAt {m d : Nat} (hV : VQ h a ls) (hm : m < 64) (hd : d < 7) (hQ : ∀ r, r = nI (mdN ls m d) → Q (some (.int r)) h) : MJ m_X7_madeAt 4 0 0 [.ref a, .int (nI m), .int (nI d)] h Q := by
  obtain ⟨fs0, hO⟩ := hV.o
  have hB := hV.bo
  have hle := pS_le ls hm hd
  have K : J m_X7_madeAt 4 0 0 0 0 21 [some (.ref a), some (.int (nI m)), some (.int (nI d))] [.int (nI (pU ls m d))] h Q := by
    refine J_aload_n dX7_madeAt_21 rfl ?_
    refine J_aload_n dX7_madeAt_22 rfl ?_
    refine J_iload_n dX7_madeAt_23 rfl ?_
    refine J_iload_n dX7_madeAt_24 rfl ?_
    refine J_callV (As := [_, _]) (rest := [_, _]) (M' := m_X7_livingAll) dX7_madeAt_25 ml_RX7_75 gm_X7_livingAll gv_X7_livingAll hO hB rfl rfl rfl (Nat.le_of_ble_eq_true rfl) (by decide) ⟨rfl, rfl, by decide, by decide⟩ (s_X7_livingAll hV hm hd (fun x hx => ?_))
    refine J_callV (As := [_]) (rest := [_]) (M' := m_X7_parts) dX7_madeAt_28 ml_RX7_79 gm_X7_parts gv_X7_parts hO hB rfl rfl rfl (Nat.le_of_ble_eq_true rfl) (by decide) ⟨rfl, rfl, by decide, by decide⟩ (s_X7_parts hV (fun r hr => ?_))
    rw [pS_x hx] at hr
    subst hr
    refine J_isub dX7_madeAt_31 ?_
    exact J_iret dX7_madeAt_32 rfl ⟨rfl, Nat.le_refl _⟩ (hQ _ (pk_sub hle))
  refine MJ_of_J (L := [some (.ref a), some (.int (nI m)), some (.int (nI d))]) (by decide +kernel) rfl (Nat.le_of_ble_eq_true rfl) rfl ?_
  refine J_iload_n dX7_madeAt_0 rfl ?_
  refine J_if_ne (tgt := 9) dX7_madeAt_1 (by decide) (fun c1 => ?_) (fun c1 => ?_)
  · obtain ⟨e1, hd0⟩ := nI_p1 d c1 (by omega)
    obtain ⟨e, rfl⟩ : ∃ e, d = e + 1 := ⟨d - 1, by omega⟩
    refine J_aload_n dX7_madeAt_9 rfl ?_
    refine J_aload_n dX7_madeAt_10 rfl ?_
    refine J_iload_n dX7_madeAt_11 rfl ?_
    refine J_iload_n dX7_madeAt_12 rfl ?_
    refine J_iconst (x := 1) dX7_madeAt_13 (by decide) ?_
    refine J_isub dX7_madeAt_14 ?_
    rw [nI_pred]
    refine J_callV (As := [_, _]) (rest := [_]) (M' := m_X7_livingAll) dX7_madeAt_15 ml_RX7_75 gm_X7_livingAll gv_X7_livingAll hO hB rfl rfl rfl (Nat.le_of_ble_eq_true rfl) (by decide) ⟨rfl, rfl, by decide, by decide⟩ (s_X7_livingAll hV hm (show e < 7 by omega) (fun x hx => ?_))
    refine J_callV (As := [_]) (rest := []) (M' := m_X7_parts) dX7_madeAt_18 ml_RX7_79 gm_X7_parts gv_X7_parts hO hB rfl rfl rfl (Nat.le_of_ble_eq_true rfl) (by decide) ⟨rfl, rfl, by decide, by decide⟩ (s_X7_parts hV (fun r hr => ?_))
    rw [pS_x hx] at hr
    subst hr
    exact K
  · refine J_bipush (x := 16) dX7_madeAt_4 (by decide) ?_
    refine J_goto (tgt := 21) dX7_madeAt_6 (by decide) ?_
    have hd0 : d = 0 := (nI_eq (b := 0) (by omega) (by omega)).mp c1
    subst hd0
    rw [pU_0] at K
    exact K
theorem l1_X7_spansOf {j d c0 : Nat} {y : Lk} (hV : VQ h a ls) (hj : ls[j]? = some y) (hd : d < 7) (K : J m_X7_spansOf 3 0 0 0 0 68 [some (.ref a), some (.int (nI j)), some (.int (nI (c0 + sumN (fun m => atB (ldN y) m d) 64))), some (.int (nI d)), some (.int (nI 64))] [] h Q) : ∀ (t m c : Nat), 64 - m < t → m ≤ 64 → (m < 64 → sb m d = m) → c = c0 + sumN (fun m => atB (ldN y) m d) m → J m_X7_spansOf 3 0 0 0 0 13 [some (.ref a), some (.int (nI j)), some (.int (nI c)), some (.int (nI d)), some (.int (nI m))] [] h Q := by
  intro t
  induction t with
  | zero => intro m c ht; omega
  | succ t ih =>
    intro m c ht hm hs hc
    have hl := sl_64 d hd
    obtain ⟨fs0, hO⟩ := hV.o
    have hB := hV.bo
    refine J_iload dX7_spansOf_13 rfl ?_
    refine J_bipush (x := 64) dX7_spansOf_15 (by decide) ?_
    refine J_icmp_ge (tgt := 68) dX7_spansOf_17 (by decide) (fun c17 => ?_) (fun c17 => ?_)
    · have c17 := (nI_leI (a := 64) (b := m) (by omega) (by omega)).mp c17
      obtain rfl : m = 64 := by omega
      subst hc
      exact K
    · have c17 : m < 64 := Nat.not_le.mp (fun q => c17 ((nI_leI (a := 64) (b := m) (by omega) (by omega)).mpr q))
      refine J_iload_n dX7_spansOf_20 rfl ?_
      refine J_aload_n dX7_spansOf_21 rfl ?_
      refine J_iload_n dX7_spansOf_22 rfl ?_
      refine J_iload dX7_spansOf_23 rfl ?_
      refine J_iload_n dX7_spansOf_25 rfl ?_
      refine J_callV (As := [_, _, _]) (rest := [_]) (M' := m_X7_covers) dX7_spansOf_26 ml_RX7_72 gm_X7_covers gv_X7_covers hO hB rfl rfl rfl (Nat.le_of_ble_eq_true rfl) (by decide) ⟨rfl, rfl, by decide, by decide⟩ (s_X7_covers hV hj c17 hd (fun r hr => ?_))
      refine J_if_eq (tgt := 53) dX7_spansOf_29 (by decide) (fun c29 => ?_) (fun c29 => ?_)
      · refine J_iconst (x := 0) dX7_spansOf_53 (by decide) ?_
        refine J_iadd dX7_spansOf_54 ?_
        rw [show nI c + 0 = nI c from nI_add c 0]
        refine J_istore_n (L' := [_, _, _, _, _]) dX7_spansOf_55 (by decide) rfl ?_
        refine J_iload dX7_spansOf_56 rfl ?_
        refine J_iload_n dX7_spansOf_58 rfl ?_
        refine J_callS (As := [_]) (rest := [_]) (M' := m_X7_spanLong) dX7_spansOf_59 ml_RX7_64 gm_X7_spanLong sm_yX7_spanLong rfl rfl (Nat.le_of_ble_eq_true rfl) (by decide) ⟨rfl, rfl, by decide, by decide⟩ (s_X7_spanLong hd (fun r3 hr3 => ?_))
        subst hr3
        refine J_iadd dX7_spansOf_62 ?_
        rw [nI_add]
        refine J_istore (L' := [_, _, _, _, _]) dX7_spansOf_63 (by decide) rfl ?_
        refine J_goto (tgt := 13) dX7_spansOf_65 (by decide) ?_
        have hs0 := hs c17
        have hg := sb_g2 d hd m c17 hs0
        have hst := sum_step (ldN y) c17 hd hs0
        have hld : ¬ ldB m d y = true := by
          rw [← hs0, ← ldM_eq c17 hd y]
          unfold ldM; rw [Bool.and_eq_true]; exact fun q => (bI_0 hr).mp c29 q.1
        exact ih (m + sl d) c (by omega) hg.2 (fun _ => hg.1) (by rw [hst, show ldN y m d = 0 from oneI_f hld]; omega)
      · refine J_iload_n dX7_spansOf_32 rfl ?_
        refine J_if_eq (tgt := 49) dX7_spansOf_33 (by decide) (fun c33 => ?_) (fun c33 => ?_)
        · refine J_iconst (x := 1) dX7_spansOf_49 (by decide) ?_
          refine J_goto (tgt := 54) dX7_spansOf_50 (by decide) ?_
          refine J_iadd dX7_spansOf_54 ?_
          rw [nI_1]
          refine J_istore_n (L' := [_, _, _, _, _]) dX7_spansOf_55 (by decide) rfl ?_
          refine J_iload dX7_spansOf_56 rfl ?_
          refine J_iload_n dX7_spansOf_58 rfl ?_
          refine J_callS (As := [_]) (rest := [_]) (M' := m_X7_spanLong) dX7_spansOf_59 ml_RX7_64 gm_X7_spanLong sm_yX7_spanLong rfl rfl (Nat.le_of_ble_eq_true rfl) (by decide) ⟨rfl, rfl, by decide, by decide⟩ (s_X7_spanLong hd (fun r3 hr3 => ?_))
          subst hr3
          refine J_iadd dX7_spansOf_62 ?_
          rw [nI_add]
          refine J_istore (L' := [_, _, _, _, _]) dX7_spansOf_63 (by decide) rfl ?_
          refine J_goto (tgt := 13) dX7_spansOf_65 (by decide) ?_
          have hs0 := hs c17
          have hg := sb_g2 d hd m c17 hs0
          have hst := sum_step (ldN y) c17 hd hs0
          have hld : ldB m d y = true := by
            rw [← hs0, ← ldM_eq c17 hd y]
            unfold ldM; rw [nn_of hr c29]; have : d = 0 := (nI_eq (b := 0) (by omega) (by omega)).mp c33; simp [this]
          exact ih (m + sl d) (c + 1) (by omega) hg.2 (fun _ => hg.1) (by rw [hst, show ldN y m d = 1 from oneI_t hld]; omega)
        · obtain ⟨e1, hd0⟩ := nI_p1 d c33 (by omega)
          refine J_aload_n dX7_spansOf_36 rfl ?_
          refine J_iload_n dX7_spansOf_37 rfl ?_
          refine J_iload dX7_spansOf_38 rfl ?_
          refine J_iload_n dX7_spansOf_40 rfl ?_
          refine J_iconst (x := 1) dX7_spansOf_41 (by decide) ?_
          refine J_isub dX7_spansOf_42 ?_
          rw [e1]
          refine J_callV (As := [_, _, _]) (rest := [_]) (M' := m_X7_covers) dX7_spansOf_43 ml_RX7_72 gm_X7_covers gv_X7_covers hO hB rfl rfl rfl (Nat.le_of_ble_eq_true rfl) (by decide) ⟨rfl, rfl, by decide, by decide⟩ (s_X7_covers hV hj c17 (show d - 1 < 7 by omega) (fun r2 hr2 => ?_))
          refine J_if_ne (tgt := 53) dX7_spansOf_46 (by decide) (fun c46 => ?_) (fun c46 => ?_)
          · refine J_iconst (x := 0) dX7_spansOf_53 (by decide) ?_
            refine J_iadd dX7_spansOf_54 ?_
            rw [show nI c + 0 = nI c from nI_add c 0]
            refine J_istore_n (L' := [_, _, _, _, _]) dX7_spansOf_55 (by decide) rfl ?_
            refine J_iload dX7_spansOf_56 rfl ?_
            refine J_iload_n dX7_spansOf_58 rfl ?_
            refine J_callS (As := [_]) (rest := [_]) (M' := m_X7_spanLong) dX7_spansOf_59 ml_RX7_64 gm_X7_spanLong sm_yX7_spanLong rfl rfl (Nat.le_of_ble_eq_true rfl) (by decide) ⟨rfl, rfl, by decide, by decide⟩ (s_X7_spanLong hd (fun r3 hr3 => ?_))
            subst hr3
            refine J_iadd dX7_spansOf_62 ?_
            rw [nI_add]
            refine J_istore (L' := [_, _, _, _, _]) dX7_spansOf_63 (by decide) rfl ?_
            refine J_goto (tgt := 13) dX7_spansOf_65 (by decide) ?_
            have hs0 := hs c17
            have hg := sb_g2 d hd m c17 hs0
            have hst := sum_step (ldN y) c17 hd hs0
            have hld : ¬ ldB m d y = true := by
              rw [← hs0, ← ldM_eq c17 hd y]
              unfold ldM; rw [nn_of hr2 c46]; simp; omega
            exact ih (m + sl d) c (by omega) hg.2 (fun _ => hg.1) (by rw [hst, show ldN y m d = 0 from oneI_f hld]; omega)
          · refine J_iconst (x := 1) dX7_spansOf_49 (by decide) ?_
            refine J_goto (tgt := 54) dX7_spansOf_50 (by decide) ?_
            refine J_iadd dX7_spansOf_54 ?_
            rw [nI_1]
            refine J_istore_n (L' := [_, _, _, _, _]) dX7_spansOf_55 (by decide) rfl ?_
            refine J_iload dX7_spansOf_56 rfl ?_
            refine J_iload_n dX7_spansOf_58 rfl ?_
            refine J_callS (As := [_]) (rest := [_]) (M' := m_X7_spanLong) dX7_spansOf_59 ml_RX7_64 gm_X7_spanLong sm_yX7_spanLong rfl rfl (Nat.le_of_ble_eq_true rfl) (by decide) ⟨rfl, rfl, by decide, by decide⟩ (s_X7_spanLong hd (fun r3 hr3 => ?_))
            subst hr3
            refine J_iadd dX7_spansOf_62 ?_
            rw [nI_add]
            refine J_istore (L' := [_, _, _, _, _]) dX7_spansOf_63 (by decide) rfl ?_
            refine J_goto (tgt := 13) dX7_spansOf_65 (by decide) ?_
            have hs0 := hs c17
            have hg := sb_g2 d hd m c17 hs0
            have hst := sum_step (ldN y) c17 hd hs0
            have hld : ldB m d y = true := by
              rw [← hs0, ← ldM_eq c17 hd y]
              unfold ldM; have z := (bI_0 hr2).mp c46; simp only [Bool.not_eq_true] at z; rw [nn_of hr c29, z]; simp
            exact ih (m + sl d) (c + 1) (by omega) hg.2 (fun _ => hg.1) (by rw [hst, show ldN y m d = 1 from oneI_t hld]; omega)
theorem l2_X7_spansOf {j : Nat} {y : Lk} (hV : VQ h a ls) (hj : ls[j]? = some y) (hQ : ∀ r, r = nI (spN y) → Q (some (.int r)) h) : ∀ (t d c : Nat), 7 - d < t → d ≤ 7 → c = sumN (fun d => sumN (fun m => atB (ldN y) m d) 64) d → J m_X7_spansOf 3 0 0 0 0 4 [some (.ref a), some (.int (nI j)), some (.int (nI c)), some (.int (nI d)), none] [] h Q := by
  intro t
  induction t with
  | zero => intro d c ht; omega
  | succ t ih =>
    intro d c ht hd hc
    refine J_iload_n dX7_spansOf_4 rfl ?_
    refine J_bipush (x := 6) dX7_spansOf_5 (by decide) ?_
    refine J_icmp_gt (tgt := 74) dX7_spansOf_7 (by decide) (fun c7 => ?_) (fun c7 => ?_)
    · have c7 : nI 6 < nI d := c7
      rw [nI_ltI (by omega) (by omega)] at c7
      refine J_iload_n dX7_spansOf_74 rfl ?_
      exact J_iret dX7_spansOf_75 rfl ⟨rfl, Nat.le_refl _⟩ (hQ _ (by rw [spN_eq, hc, show d = 7 by omega]; rfl))
    · have c7 : d < 7 := by
        have c7 : ¬ nI 6 < nI d := c7
        rw [nI_ltI (by omega) (by omega)] at c7; omega
      refine J_iconst (x := 0) dX7_spansOf_10 (by decide) ?_
      refine J_istore (L' := [_, _, _, _, _]) dX7_spansOf_11 (by decide) rfl ?_
      refine l1_X7_spansOf (c0 := c) hV hj c7 ?_ 65 0 c (by omega) (by omega) (fun _ => Nat.le_zero.mp (sb_le 0 d)) rfl
      refine J_iinc (L' := [_, _, _, _, _]) dX7_spansOf_68 rfl (nI_i1 d) (by decide) rfl ?_
      refine J_goto (tgt := 4) dX7_spansOf_71 (by decide) ?_
      refine J_drop [4] rfl ?_
      exact ih (d + 1) _ (by omega) (by omega) (by rw [hc]; rfl)
theorem s_X7_spansOf {j : Nat} {y : Lk} (hV : VQ h a ls) (hj : ls[j]? = some y) (hQ : ∀ r, r = nI (spN y) → Q (some (.int r)) h) : MJ m_X7_spansOf 3 0 0 [.ref a, .int (nI j)] h Q := by
  refine MJ_of_J (L := [some (.ref a), some (.int (nI j)), none, none, none]) (by decide +kernel) rfl (Nat.le_of_ble_eq_true rfl) rfl ?_
  refine J_iconst (x := 0) dX7_spansOf_0 (by decide) ?_
  refine J_istore_n (L' := [_, _, _, _, _]) dX7_spansOf_1 (by decide) rfl ?_
  refine J_iconst (x := 0) dX7_spansOf_2 (by decide) ?_
  refine J_istore_n (L' := [_, _, _, _, _]) dX7_spansOf_3 (by decide) rfl ?_
  exact l2_X7_spansOf hV hj hQ 8 0 0 (by omega) (by omega) rfl
end SMod3
